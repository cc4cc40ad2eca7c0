/-! foresight: whom to please -/
theorem hbs_t {p : Pt} : ∀ (ps : List Pt), p ∈ ps → (hbs ps).testBit p.1 = true
  | [], h => absurd h (by simp)
  | x :: ps, h => by
    show (2 ^ x.1 ||| hbs ps).testBit p.1 = true
    rw [Nat.testBit_or]
    rcases List.mem_cons.mp h with e | e
    · rw [e, Nat.testBit_two_pow_self, Bool.true_or]
    · rw [hbs_t ps e, Bool.or_true]
theorem hbs_H {ps : List Pt} {H : Nat} (h : hbs ps &&& H = 0) : ∀ p ∈ ps, H.testBit p.1 = false := by
  intro p hp
  have h1 := congrArg (fun z => Nat.testBit z p.1) h
  simp only [Nat.testBit_and, hbs_t ps hp, Nat.zero_testBit, Bool.true_and] at h1
  exact h1
theorem or_and {s u : Nat} : s ||| u = u ↔ s &&& u = s := by
  constructor
  · intro h
    refine Nat.eq_of_testBit_eq (fun i => ?_)
    have h1 := congrArg (fun z => Nat.testBit z i) h
    simp only [Nat.testBit_or] at h1
    rw [Nat.testBit_and]
    cases hx : s.testBit i <;> cases hy : u.testBit i <;> simp [hx, hy] at h1 ⊢
  · intro h
    refine Nat.eq_of_testBit_eq (fun i => ?_)
    have h1 := congrArg (fun z => Nat.testBit z i) h
    simp only [Nat.testBit_and] at h1
    rw [Nat.testBit_or]
    cases hx : s.testBit i <;> cases hy : u.testBit i <;> simp [hx, hy] at h1 ⊢
theorem plS_N {s v : Nat} (hs : s < 512) (hv : v < 9) : plS (nI s) v = !s.testBit v := by
  unfold plS
  rw [bitN hs hv, tb_1]
  cases s.testBit v <;> decide
theorem coS_N {s v : Nat} (hs : s < 512) (hv : v < 9) : coS (nI s) v = s.testBit v := by
  unfold coS
  rw [bitN hs hv, tb_1]
  cases s.testBit v <;> decide
section Who
variable {I : Iv} {nC n p : Nat} {S : Tn} {PS : Nat → List Pt}
theorem wh_U (hS : TnV S) (hO : MO I S.1.1 PS) (hp : I 500000 37 = nI p) (hp2 : p < 2 ^ S.1.1) : ∀ s, s < 2 ^ S.1.1 → whQ I S.1.1 nC n s → whQ I S.1.1 nC n (s &&& (p ||| puF PS 7 S.1.1)) := by
  intro s hs ⟨h1, h2⟩
  have s9 := hS.1
  have h512 := p2_512 s9
  have hle : s &&& (p ||| puF PS 7 S.1.1) ≤ s := Nat.and_le_left
  rw [hp, sub_i, nx_and, nI_eq (by have := Nat.and_le_left (n := s) (m := p); omega) (by omega)] at h1
  refine ⟨?_, ?_⟩
  · rw [hp, sub_i, nx_and]
    congr 1
    refine Nat.eq_of_testBit_eq (fun i => ?_)
    have h3 := congrArg (fun z => Nat.testBit z i) h1
    simp only [Nat.testBit_and] at h3
    rw [Nat.testBit_and, Nat.testBit_and, Nat.testBit_or]
    cases hx : s.testBit i <;> cases hy : p.testBit i <;> simp [hx, hy] at h3 ⊢
  · rw [← h2]
    congr 1
    have hPu : Pu I S.1.1 (pmW I (nI (s &&& (p ||| puF PS 7 S.1.1)))) (pmW I (nI s)) := by
      refine ⟨fun v hv => ⟨?_, fun h _ => rfl⟩, rfl⟩
      have hc := (hO v hv).1
      have hl := (hO v hv).2.2.2.2.2
      by_cases q : PS v = []
      · right
        rw [hc, q]
        rfl
      · left
        refine ⟨?_, Or.inl rfl⟩
        show plS (nI (s &&& (p ||| puF PS 7 S.1.1))) v = plS (nI s) v
        rw [plS_N (by omega) (by omega), plS_N (by omega) (by omega), Nat.testBit_and, Nat.testBit_or, puF_t]
        have : ¬ hbs (PS v) &&& 7 = 0 := by
          intro e
          obtain ⟨x, hx⟩ := List.exists_mem_of_ne_nil _ q
          have h3 := hbs_H e x hx
          have h4 := ((hO v hv).2.2.2.1 x hx).1
          have : ∀ k, k < 3 → (7 : Nat).testBit k = true := by decide
          rw [this _ h4] at h3
          cases h3
        rw [decide_eq_true hv, decide_eq_true this, Bool.true_and, Bool.or_true, Bool.and_true]
    exact gR_pu hPu n
end Who
section XQj
variable {Γ : Gm} {l : Launch} {b : Bool} {d : Nat} {I J : Iv} {E : Ev} {kr : Kr} {kx : Kxx} {y t n : Nat} {S : Tn} {PS : Nat → List Pt} {op : Nat → Nat}
theorem x_allBits' (ht : tyc (shB b) E t = 10) (hX : XTn J t S) (h9 : S.1.1 ≤ 9) (hk : kr (some (.int (nI (2 ^ S.1.1 - 1)))) J E) : Ex Γ l (shB b) (d + 1) (0, 0) mTn_allBits [.ref t] J E kr kx := by
  refine ex_of (ls0 := [some (.ref t)]) tTn_allBits (by decide +kernel) kTn_allBits rfl (Nat.le_of_ble_eq_true rfl) rfl ?_
  intro go hgo
  have v7 := hX.1
  have e1 : nI 1 <<< (nI S.1.1 &&& 31) = nI (2 ^ S.1.1) := shlN (by omega)
  have e2 : nI (2 ^ S.1.1) - nI 1 = nI (2 ^ S.1.1 - 1) := nI_sb (Nat.two_pow_pos _)
  refine hgo 20 [] 0 _ _ _ _ _ ?_
  simp only [ixr_of, run_s, run_0, rTn_allBits, rok_i, rok_z, bx_cons, bx_nil, eC1, eGI, eLA0, eRI, eSHL, eSUB, fTn_allBits_0, bTn_allBits_0, Option.toList_some, Option.toList_none, List.cons_append, List.nil_append, List.length_cons, List.length_nil, List.mem_cons, List.not_mem_nil, or_false, false_or, or_true, true_or, ↓reduceIte, true_and, and_true, Nat.reduceEqDiff, Nat.reduceAdd, Nat.reduceLeDiff, Nat.reduceLT, dl_i, dl_r, dl_n, dl_u, eq_self, not_true_eq_false, not_false_eq_true, n10, n01, nm0, n0m, ht, v7, e1, e2, imp_t, imp_f]
  exact hk
theorem x_puttersOf {H : Nat} (hA : AqS b J E S PS t op) (hH : H < 8) (hk : kr (some (.int (nI (puF PS H S.1.1)))) J E) : Ex Γ l (shB b) (d + 1) (0, 0) mAq_puttersOf [.ref 3, .int (nI H)] J E kr kx := by
  refine ex_of (ls0 := [some (.ref 3), some (.int (nI H)), none, none]) tAq_puttersOf (by decide +kernel) kAq_puttersOf rfl (Nat.le_of_ble_eq_true rfl) rfl ?_
  intro go hgo
  obtain ⟨r3, hT, hX, hS, hop, hid, -, ho⟩ := id hA
  have tT : tyc (shB b) E t = 10 := (hT.A (b := b) (E := E)).1
  have v7 := hX.1
  have s9 := hS.1
  have loop : ∀ (g v : Nat), g + v = S.1.1 → go 4 [some (.ref 3), some (.int (nI H)), some (.int (nI (puF PS H v))), some (.int (nI v))] [] J E (0, 0) := by
    intro g
    induction g with
    | zero =>
      intro v hg
      have : v = S.1.1 := by omega
      subst this
      have c1 : (nI S.1.1 ≤ nI S.1.1) = True := eq_true (Int32.le_refl _)
      refine hgo 20 [4] 4 _ _ _ _ _ ?_
      simp only [ixr_of, run_s, run_0, rAq_puttersOf, rok_i, rok_z, bx_cons, bx_nil, eAALD106, eAND, eC0, eC1, eGI, eGO, eGR, jICge, jIFeq, eINC3, eLA0, eLI1, eLI2, eLI3, eOR, eRI, eSHL, eSI2, eSI3, fAq_puttersOf_0, fAq_puttersOf_4, fAq_puttersOf_15, fAq_puttersOf_30, fAq_puttersOf_36, fAq_puttersOf_37, fAq_puttersOf_45, bAq_puttersOf_0, bAq_puttersOf_4, bAq_puttersOf_15, bAq_puttersOf_30, bAq_puttersOf_36, bAq_puttersOf_37, bAq_puttersOf_45, ln_xaqueduct_change, ln_xaqueduct_decided, ln_xaqueduct_fresh, ln_xaqueduct_sight, ln_xopinions, rg_xaqueduct_1, rg_xaqueduct_2, rg_xaqueduct_3, rg_xaqueduct_4, rg_xaqueduct_5, ty_xaqueduct, ty_xaqueduct_change, ty_xaqueduct_decided, ty_xaqueduct_fresh, ty_xaqueduct_sight, ty_xopinions, Option.toList_some, Option.toList_none, List.cons_append, List.nil_append, List.length_cons, List.length_nil, List.mem_cons, List.not_mem_nil, or_false, false_or, or_true, true_or, ↓reduceIte, true_and, and_true, Nat.reduceEqDiff, Nat.reduceAdd, Nat.reduceLeDiff, Nat.reduceLT, dl_i, dl_r, dl_n, dl_u, eq_self, not_true_eq_false, not_false_eq_true, n10, n01, nm0, n0m, r3, tT, v7, c1, imp_t, imp_f]
      exact hk
    | succ g ih =>
      intro v hg
      have i9 : v < 9 := by omega
      have c1 : (nI S.1.1 ≤ nI v) = False := by rw [nIl (by omega) (by omega)]; exact eq_false (by omega)
      have rO := hop v (by omega)
      have tO : tyc (shB b) E (op v) = 6 := ((hid v (by omega)).A (b := b) (E := E)).1
      have eh := (ho v (by omega)).1.2.2.1
      have ea : nI (hbs (PS v)) &&& nI H = nI (hbs (PS v) &&& H) := nx_and _ _
      have hlt : hbs (PS v) &&& H ≤ H := Nat.and_le_right
      have e0 : (nI (hbs (PS v) &&& H) = nI 0) = (hbs (PS v) &&& H = 0) := nIe (by omega) (by decide)
      have sh : nI 1 <<< (nI v &&& 31) = nI (2 ^ v) := shlN (by omega)
      refine hgo 20 [4] 4 _ _ _ _ _ ?_
      simp only [ixr_of, run_s, run_0, rAq_puttersOf, rok_i, rok_z, bx_cons, bx_nil, eAALD106, eAND, eC0, eC1, eGI, eGO, eGR, jICge, jIFeq, eINC3, eLA0, eLI1, eLI2, eLI3, eOR, eRI, eSHL, eSI2, eSI3, fAq_puttersOf_0, fAq_puttersOf_4, fAq_puttersOf_15, fAq_puttersOf_30, fAq_puttersOf_36, fAq_puttersOf_37, fAq_puttersOf_45, bAq_puttersOf_0, bAq_puttersOf_4, bAq_puttersOf_15, bAq_puttersOf_30, bAq_puttersOf_36, bAq_puttersOf_37, bAq_puttersOf_45, ln_xaqueduct_change, ln_xaqueduct_decided, ln_xaqueduct_fresh, ln_xaqueduct_sight, ln_xopinions, rg_xaqueduct_1, rg_xaqueduct_2, rg_xaqueduct_3, rg_xaqueduct_4, rg_xaqueduct_5, ty_xaqueduct, ty_xaqueduct_change, ty_xaqueduct_decided, ty_xaqueduct_fresh, ty_xaqueduct_sight, ty_xopinions, Option.toList_some, Option.toList_none, List.cons_append, List.nil_append, List.length_cons, List.length_nil, List.mem_cons, List.not_mem_nil, or_false, false_or, or_true, true_or, ↓reduceIte, true_and, and_true, Nat.reduceEqDiff, Nat.reduceAdd, Nat.reduceLeDiff, Nat.reduceLT, dl_i, dl_r, dl_n, dl_u, eq_self, not_true_eq_false, not_false_eq_true, n10, n01, nm0, n0m, r3, tT, v7, c1, rO, tO, eh, ea, i9, e0, sh, nx_or, nI_add, imp_t, imp_f]
      refine ⟨fun z => ?_, fun z => ?_⟩
      · have := ih (v + 1) (by omega)
        unfold puF at this
        rw [if_pos z] at this
        exact this
      · have := ih (v + 1) (by omega)
        unfold puF at this
        rw [if_neg z] at this
        exact this
  refine hgo 20 [4] 0 _ _ _ _ _ ?_
  simp only [ixr_of, run_s, run_0, rAq_puttersOf, rok_i, rok_z, bx_cons, bx_nil, eAALD106, eAND, eC0, eC1, eGI, eGO, eGR, jICge, jIFeq, eINC3, eLA0, eLI1, eLI2, eLI3, eOR, eRI, eSHL, eSI2, eSI3, fAq_puttersOf_0, fAq_puttersOf_4, fAq_puttersOf_15, fAq_puttersOf_30, fAq_puttersOf_36, fAq_puttersOf_37, fAq_puttersOf_45, bAq_puttersOf_0, bAq_puttersOf_4, bAq_puttersOf_15, bAq_puttersOf_30, bAq_puttersOf_36, bAq_puttersOf_37, bAq_puttersOf_45, ln_xaqueduct_change, ln_xaqueduct_decided, ln_xaqueduct_fresh, ln_xaqueduct_sight, ln_xopinions, rg_xaqueduct_1, rg_xaqueduct_2, rg_xaqueduct_3, rg_xaqueduct_4, rg_xaqueduct_5, ty_xaqueduct, ty_xaqueduct_change, ty_xaqueduct_decided, ty_xaqueduct_fresh, ty_xaqueduct_sight, ty_xopinions, Option.toList_some, Option.toList_none, List.cons_append, List.nil_append, List.length_cons, List.length_nil, List.mem_cons, List.not_mem_nil, or_false, false_or, or_true, true_or, ↓reduceIte, true_and, and_true, Nat.reduceEqDiff, Nat.reduceAdd, Nat.reduceLeDiff, Nat.reduceLT, dl_i, dl_r, dl_n, dl_u, eq_self, not_true_eq_false, not_false_eq_true, n10, n01, nm0, n0m, imp_t, imp_f]
  exact loop S.1.1 0 (by omega)
theorem x_leastPleased {m p : Nat} (hG : GX Γ) (hA : TwR b J E S PS t op) (hN : NwI I J S n) (hn : n + m ≤ 1900) (hp : I 500000 37 = nI p) (hp2 : p < 2 ^ S.1.1)
    (hk : ∀ K, XF 48 J K → kr (some (.int (wB I S.1.1 S.1.2 m (2 ^ S.1.1)))) K E) : Ex Γ l (shB b) (d + 8) (0, 0) mFo_leastPleased [.ref 47, .ref 71, .int (nI m)] J E kr kx := by
  refine ex_of (ls0 := [some (.ref 47), some (.ref 71), some (.int (nI m)), none, none, none, none, none]) tFo_leastPleased (by decide +kernel) kFo_leastPleased rfl (Nat.le_of_ble_eq_true rfl) rfl ?_
  intro go hgo
  have hS := hA.1.2.2.2.1
  have s9 := hS.1
  have h512 := p2_512 s9
  have hpos : 0 < 2 ^ S.1.1 := Nat.two_pow_pos _
  have ty71 : tyc (shB b) E 71 = 3 := dyA_71.1
  have hO : MO I S.1.1 PS := hA.2.2.2.t s9 hN.1.sm
  obtain ⟨r3, hT, -⟩ := id hA.1
  have tT : tyc (shB b) E t = 10 := (hT.A (b := b) (E := E)).1
  obtain ⟨U, hU⟩ : ∃ U, U = p ||| puF PS 7 S.1.1 := ⟨_, rfl⟩
  have hUl : U < 2 ^ S.1.1 := by rw [hU]; exact Nat.or_lt_two_pow hp2 (puF_lt _)
  have hQU := wh_U (nC := S.1.2) (n := m) hS hO hp hp2
  rw [← hU] at hQU
  obtain ⟨Qc, hQc⟩ : ∃ Qc : Nat → Prop, Qc = fun s => whQ I S.1.1 S.1.2 m s ∧ s &&& U = s := ⟨_, rfl⟩
  have outer : ∀ (g z : Nat) (K : Iv) (x6 x7 : Option Value), g + z = S.1.1 + 1 → XF 48 J K → (∀ s, s < 2 ^ S.1.1 → popN s < z → ¬ Qc s) → go 30 [some (.ref 47), some (.ref 71), some (.int (nI m)), some (.int (nI U)), some (.int (nI (2 ^ S.1.1 - 1))), some (.int (nI z)), x6, x7] [] K E (0, 0) := by
    intro g
    induction g with
    | zero =>
      intro z K x6 x7 hg hX hno
      have : z = S.1.1 + 1 := by omega
      subst this
      have hNK := hN.xf s9 (Or.inl rfl) hX
      have v7 := hNK.2.1.1.1
      have c1 : (nI S.1.1 < nI (S.1.1 + 1)) = True := by rw [nIt (by omega) (by omega)]; exact eq_true (by omega)
      refine hgo 20 [30, 42, 86] 30 _ _ _ _ _ ?_
      simp only [ixr_of, run_s, run_0, rFo_leastPleased, rok_i, rok_z, bx_cons, bx_nil, eAND, eBP, eC0, eC1, eCS1, eCV0, eCV1, eCV3, eCm1, eGI, eGO, eGR, jICgt, jICne, jIFeq, eINC5, eINC6, eLA0, eLA1, eLI2, eLI3, eLI4, eLI5, eLI6, eLI7, eOR, eRI, eSI3, eSI4, eSI5, eSI6, eSI7, fFo_leastPleased_0, fFo_leastPleased_30, fFo_leastPleased_39, fFo_leastPleased_42, fFo_leastPleased_49, fFo_leastPleased_59, fFo_leastPleased_73, fFo_leastPleased_81, fFo_leastPleased_85, fFo_leastPleased_86, fFo_leastPleased_93, fFo_leastPleased_104, fFo_leastPleased_107, fFo_leastPleased_113, fFo_leastPleased_119, bFo_leastPleased_0, bFo_leastPleased_30, bFo_leastPleased_39, bFo_leastPleased_42, bFo_leastPleased_49, bFo_leastPleased_59, bFo_leastPleased_73, bFo_leastPleased_81, bFo_leastPleased_85, bFo_leastPleased_86, bFo_leastPleased_93, bFo_leastPleased_104, bFo_leastPleased_107, bFo_leastPleased_113, bFo_leastPleased_119, ln_xformerGrades, rg_xforesight_0, rg_xforesight_1, rg_xforesight_2, ty_xaqueduct, ty_xforesight, ty_xformerGrades, ty_xftrial, Option.toList_some, Option.toList_none, List.cons_append, List.nil_append, List.length_cons, List.length_nil, List.mem_cons, List.not_mem_nil, or_false, false_or, or_true, true_or, ↓reduceIte, true_and, and_true, Nat.reduceEqDiff, Nat.reduceAdd, Nat.reduceLeDiff, Nat.reduceLT, dl_i, dl_r, dl_n, dl_u, eq_self, not_true_eq_false, not_false_eq_true, n10, n01, nm0, n0m, ty71, v7, c1, imp_t, imp_f]
      have hk := hk K hX
      have none : ∀ s, s < 2 ^ S.1.1 → ¬ whQ I S.1.1 S.1.2 m s := bst_0 hQU (fun s hs => by have := hno s hs (by have := pop_nV s9 hs; omega); rw [hQc] at this; exact this)
      rcases wB_b (I := I) (nV := S.1.1) (nC := S.1.2) (n := m) (2 ^ S.1.1) h512 with ⟨e, -⟩ | ⟨s, -, hb⟩
      · rw [e] at hk; exact hk
      · exact absurd hb.2.1 (none s hb.1)
    | succ g ih =>
      intro z K x6 x7 hg hX hno
      have inner : ∀ (f s : Nat) (L : Iv) (x7 : Option Value), f + s = 2 ^ S.1.1 → XF 48 J L → (∀ s', s' < s → popN s' = z → ¬ Qc s') → go 42 [some (.ref 47), some (.ref 71), some (.int (nI m)), some (.int (nI U)), some (.int (nI (2 ^ S.1.1 - 1))), some (.int (nI z)), some (.int (nI s)), x7] [] L E (0, 0) := by
        intro f
        induction f with
        | zero =>
          intro s L x7 hf hXL hno2
          have : s = 2 ^ S.1.1 := by omega
          subst this
          have c2 : (nI (2 ^ S.1.1 - 1) < nI (2 ^ S.1.1)) = True := by rw [nIt (by omega) (by omega)]; exact eq_true (by omega)
          refine hgo 20 [30, 42, 86] 42 _ _ _ _ _ ?_
          simp only [ixr_of, run_s, run_0, rFo_leastPleased, rok_i, rok_z, bx_cons, bx_nil, eAND, eBP, eC0, eC1, eCS1, eCV0, eCV1, eCV3, eCm1, eGI, eGO, eGR, jICgt, jICne, jIFeq, eINC5, eINC6, eLA0, eLA1, eLI2, eLI3, eLI4, eLI5, eLI6, eLI7, eOR, eRI, eSI3, eSI4, eSI5, eSI6, eSI7, fFo_leastPleased_0, fFo_leastPleased_30, fFo_leastPleased_39, fFo_leastPleased_42, fFo_leastPleased_49, fFo_leastPleased_59, fFo_leastPleased_73, fFo_leastPleased_81, fFo_leastPleased_85, fFo_leastPleased_86, fFo_leastPleased_93, fFo_leastPleased_104, fFo_leastPleased_107, fFo_leastPleased_113, fFo_leastPleased_119, bFo_leastPleased_0, bFo_leastPleased_30, bFo_leastPleased_39, bFo_leastPleased_42, bFo_leastPleased_49, bFo_leastPleased_59, bFo_leastPleased_73, bFo_leastPleased_81, bFo_leastPleased_85, bFo_leastPleased_86, bFo_leastPleased_93, bFo_leastPleased_104, bFo_leastPleased_107, bFo_leastPleased_113, bFo_leastPleased_119, ln_xformerGrades, rg_xforesight_0, rg_xforesight_1, rg_xforesight_2, ty_xaqueduct, ty_xforesight, ty_xformerGrades, ty_xftrial, Option.toList_some, Option.toList_none, List.cons_append, List.nil_append, List.length_cons, List.length_nil, List.mem_cons, List.not_mem_nil, or_false, false_or, or_true, true_or, ↓reduceIte, true_and, and_true, Nat.reduceEqDiff, Nat.reduceAdd, Nat.reduceLeDiff, Nat.reduceLT, dl_i, dl_r, dl_n, dl_u, eq_self, not_true_eq_false, not_false_eq_true, n10, n01, nm0, n0m, c2, nI_add, imp_t, imp_f]
          refine ih (z + 1) L _ _ (by omega) hXL (fun s hs hz => ?_)
          by_cases q : popN s = z
          · exact hno2 s hs q
          · exact hno s hs (by omega)
        | succ f ih2 =>
          intro s L x7 hf hXL hno2
          have c2 : (nI (2 ^ S.1.1 - 1) < nI s) = False := by rw [nIt (by omega) (by omega)]; exact eq_false (by omega)
          have hNL := hN.xf s9 (Or.inl rfl) hXL
          have e10 : L 71 10 = nI p := by rw [hNL.2.2.1, hp]
          have p9 := pop_9 (s := s)
          have cs : (nI (popN s) = nI z) = (popN s = z) := nIe (by omega) (by omega)
          have a1 := Nat.and_le_left (n := s) (m := p)
          have o1 : s ||| U < 512 := Nat.lt_of_lt_of_le (Nat.or_lt_two_pow (n := S.1.1) (by omega) hUl) h512
          have cp : (nI (s &&& p) = nI p) = (s &&& p = p) := nIe (by omega) (by omega)
          have cu : (nI (s ||| U) = nI U) = (s &&& U = s) := by rw [nIe (by omega) (by omega)]; exact propext or_and
          have next : ∀ (M : Iv) (x7 : Option Value), XF 48 J M → (popN s = z → ¬ Qc s) → go 42 [some (.ref 47), some (.ref 71), some (.int (nI m)), some (.int (nI U)), some (.int (nI (2 ^ S.1.1 - 1))), some (.int (nI z)), some (.int (nI (s + 1))), x7] [] M E (0, 0) := fun M x7 hXM hq => ih2 (s + 1) M x7 (by omega) hXM (fun s' hs' hz => by
            by_cases e : s' = s
            · rw [e] at hz ⊢; exact hq hz
            · exact hno2 s' (by omega) hz)
          have fit : ∀ (M : Iv) (x7 : Option Value), XF 48 J M → popN s = z → s &&& p = p → s &&& U = s → go 86 [some (.ref 47), some (.ref 71), some (.int (nI m)), some (.int (nI U)), some (.int (nI (2 ^ S.1.1 - 1))), some (.int (nI z)), some (.int (nI s)), x7] [.int (nI 1)] M E (0, 0) := by
            intro M x7 hXM h1 h2 h3
            refine hgo 20 [30, 42, 86] 86 _ _ _ _ _ ?_
            simp only [ixr_of, run_s, run_0, rFo_leastPleased, rok_i, rok_z, bx_cons, bx_nil, eAND, eBP, eC0, eC1, eCS1, eCV0, eCV1, eCV3, eCm1, eGI, eGO, eGR, jICgt, jICne, jIFeq, eINC5, eINC6, eLA0, eLA1, eLI2, eLI3, eLI4, eLI5, eLI6, eLI7, eOR, eRI, eSI3, eSI4, eSI5, eSI6, eSI7, fFo_leastPleased_0, fFo_leastPleased_30, fFo_leastPleased_39, fFo_leastPleased_42, fFo_leastPleased_49, fFo_leastPleased_59, fFo_leastPleased_73, fFo_leastPleased_81, fFo_leastPleased_85, fFo_leastPleased_86, fFo_leastPleased_93, fFo_leastPleased_104, fFo_leastPleased_107, fFo_leastPleased_113, fFo_leastPleased_119, bFo_leastPleased_0, bFo_leastPleased_30, bFo_leastPleased_39, bFo_leastPleased_42, bFo_leastPleased_49, bFo_leastPleased_59, bFo_leastPleased_73, bFo_leastPleased_81, bFo_leastPleased_85, bFo_leastPleased_86, bFo_leastPleased_93, bFo_leastPleased_104, bFo_leastPleased_107, bFo_leastPleased_113, bFo_leastPleased_119, ln_xformerGrades, rg_xforesight_0, rg_xforesight_1, rg_xforesight_2, ty_xaqueduct, ty_xforesight, ty_xformerGrades, ty_xftrial, Option.toList_some, Option.toList_none, List.cons_append, List.nil_append, List.length_cons, List.length_nil, List.mem_cons, List.not_mem_nil, or_false, false_or, or_true, true_or, ↓reduceIte, true_and, and_true, Nat.reduceEqDiff, Nat.reduceAdd, Nat.reduceLeDiff, Nat.reduceLT, dl_i, dl_r, dl_n, dl_u, eq_self, not_true_eq_false, not_false_eq_true, n10, n01, nm0, n0m, imp_t, imp_f]
            refine call0 (x_isClearBy (x := nI s) hG (hA.xf (Or.inl rfl) hXM) (hN.xf s9 (Or.inl rfl) hXM) hn (fun N hXN => ?_))
            by_cases q : vwI (gR I S.1.1 S.1.2 (pmW I (nI s)) (I 500124) m) = nI 0
            · rw [bi_t q]
              simp only [ixr_of, run_s, run_0, rFo_leastPleased, rok_i, rok_z, bx_cons, bx_nil, eAND, eBP, eC0, eC1, eCS1, eCV0, eCV1, eCV3, eCm1, eGI, eGO, eGR, jICgt, jICne, jIFeq, eINC5, eINC6, eLA0, eLA1, eLI2, eLI3, eLI4, eLI5, eLI6, eLI7, eOR, eRI, eSI3, eSI4, eSI5, eSI6, eSI7, fFo_leastPleased_0, fFo_leastPleased_30, fFo_leastPleased_39, fFo_leastPleased_42, fFo_leastPleased_49, fFo_leastPleased_59, fFo_leastPleased_73, fFo_leastPleased_81, fFo_leastPleased_85, fFo_leastPleased_86, fFo_leastPleased_93, fFo_leastPleased_104, fFo_leastPleased_107, fFo_leastPleased_113, fFo_leastPleased_119, bFo_leastPleased_0, bFo_leastPleased_30, bFo_leastPleased_39, bFo_leastPleased_42, bFo_leastPleased_49, bFo_leastPleased_59, bFo_leastPleased_73, bFo_leastPleased_81, bFo_leastPleased_85, bFo_leastPleased_86, bFo_leastPleased_93, bFo_leastPleased_104, bFo_leastPleased_107, bFo_leastPleased_113, bFo_leastPleased_119, ln_xformerGrades, rg_xforesight_0, rg_xforesight_1, rg_xforesight_2, ty_xaqueduct, ty_xforesight, ty_xformerGrades, ty_xftrial, Option.toList_some, Option.toList_none, List.cons_append, List.nil_append, List.length_cons, List.length_nil, List.mem_cons, List.not_mem_nil, or_false, false_or, or_true, true_or, ↓reduceIte, true_and, and_true, Nat.reduceEqDiff, Nat.reduceAdd, Nat.reduceLeDiff, Nat.reduceLT, dl_i, dl_r, dl_n, dl_u, eq_self, not_true_eq_false, not_false_eq_true, n10, n01, nm0, n0m, imp_t, imp_f]
              have hk := hk N (hXM.tr hXN)
              have hq : whQ I S.1.1 S.1.2 m s := ⟨by rw [hp, sub_i, nx_and, h2], q⟩
              have hb : Bst Qc (2 ^ S.1.1) s := ⟨by omega, by rw [hQc]; exact ⟨hq, h3⟩, fun s' hs' hq' => by
                by_cases z1 : popN s' < z
                · exact absurd hq' (hno s' hs' z1)
                · by_cases z2 : popN s' = z
                  · by_cases z3 : s' < s
                    · exact absurd hq' (hno2 s' z3 z2)
                    · omega
                  · omega⟩
              rw [hQc] at hb
              have hb2 := bst_u h512 hQU hb
              rcases wB_b (I := I) (nV := S.1.1) (nC := S.1.2) (n := m) (2 ^ S.1.1) h512 with ⟨-, e⟩ | ⟨s1, e, hb1⟩
              · exact absurd hq (e s (by omega))
              · rw [e, hb1.un hb2] at hk
                exact hk
            · rw [bi_f q]
              simp only [ixr_of, run_s, run_0, rFo_leastPleased, rok_i, rok_z, bx_cons, bx_nil, eAND, eBP, eC0, eC1, eCS1, eCV0, eCV1, eCV3, eCm1, eGI, eGO, eGR, jICgt, jICne, jIFeq, eINC5, eINC6, eLA0, eLA1, eLI2, eLI3, eLI4, eLI5, eLI6, eLI7, eOR, eRI, eSI3, eSI4, eSI5, eSI6, eSI7, fFo_leastPleased_0, fFo_leastPleased_30, fFo_leastPleased_39, fFo_leastPleased_42, fFo_leastPleased_49, fFo_leastPleased_59, fFo_leastPleased_73, fFo_leastPleased_81, fFo_leastPleased_85, fFo_leastPleased_86, fFo_leastPleased_93, fFo_leastPleased_104, fFo_leastPleased_107, fFo_leastPleased_113, fFo_leastPleased_119, bFo_leastPleased_0, bFo_leastPleased_30, bFo_leastPleased_39, bFo_leastPleased_42, bFo_leastPleased_49, bFo_leastPleased_59, bFo_leastPleased_73, bFo_leastPleased_81, bFo_leastPleased_85, bFo_leastPleased_86, bFo_leastPleased_93, bFo_leastPleased_104, bFo_leastPleased_107, bFo_leastPleased_113, bFo_leastPleased_119, ln_xformerGrades, rg_xforesight_0, rg_xforesight_1, rg_xforesight_2, ty_xaqueduct, ty_xforesight, ty_xformerGrades, ty_xftrial, Option.toList_some, Option.toList_none, List.cons_append, List.nil_append, List.length_cons, List.length_nil, List.mem_cons, List.not_mem_nil, or_false, false_or, or_true, true_or, ↓reduceIte, true_and, and_true, Nat.reduceEqDiff, Nat.reduceAdd, Nat.reduceLeDiff, Nat.reduceLT, dl_i, dl_r, dl_n, dl_u, eq_self, not_true_eq_false, not_false_eq_true, n10, n01, nm0, n0m, nI_add, imp_t, imp_f]
              exact next N _ (hXM.tr hXN) (fun _ c => by rw [hQc] at c; exact q c.1.2)
          have nofit : ∀ (M : Iv) (x7 : Option Value), XF 48 J M → (popN s = z → ¬ Qc s) → go 86 [some (.ref 47), some (.ref 71), some (.int (nI m)), some (.int (nI U)), some (.int (nI (2 ^ S.1.1 - 1))), some (.int (nI z)), some (.int (nI s)), x7] [.int (nI 0)] M E (0, 0) := by
            intro M x7 hXM hq
            refine hgo 20 [30, 42, 86] 86 _ _ _ _ _ ?_
            simp only [ixr_of, run_s, run_0, rFo_leastPleased, rok_i, rok_z, bx_cons, bx_nil, eAND, eBP, eC0, eC1, eCS1, eCV0, eCV1, eCV3, eCm1, eGI, eGO, eGR, jICgt, jICne, jIFeq, eINC5, eINC6, eLA0, eLA1, eLI2, eLI3, eLI4, eLI5, eLI6, eLI7, eOR, eRI, eSI3, eSI4, eSI5, eSI6, eSI7, fFo_leastPleased_0, fFo_leastPleased_30, fFo_leastPleased_39, fFo_leastPleased_42, fFo_leastPleased_49, fFo_leastPleased_59, fFo_leastPleased_73, fFo_leastPleased_81, fFo_leastPleased_85, fFo_leastPleased_86, fFo_leastPleased_93, fFo_leastPleased_104, fFo_leastPleased_107, fFo_leastPleased_113, fFo_leastPleased_119, bFo_leastPleased_0, bFo_leastPleased_30, bFo_leastPleased_39, bFo_leastPleased_42, bFo_leastPleased_49, bFo_leastPleased_59, bFo_leastPleased_73, bFo_leastPleased_81, bFo_leastPleased_85, bFo_leastPleased_86, bFo_leastPleased_93, bFo_leastPleased_104, bFo_leastPleased_107, bFo_leastPleased_113, bFo_leastPleased_119, ln_xformerGrades, rg_xforesight_0, rg_xforesight_1, rg_xforesight_2, ty_xaqueduct, ty_xforesight, ty_xformerGrades, ty_xftrial, Option.toList_some, Option.toList_none, List.cons_append, List.nil_append, List.length_cons, List.length_nil, List.mem_cons, List.not_mem_nil, or_false, false_or, or_true, true_or, ↓reduceIte, true_and, and_true, Nat.reduceEqDiff, Nat.reduceAdd, Nat.reduceLeDiff, Nat.reduceLT, dl_i, dl_r, dl_n, dl_u, eq_self, not_true_eq_false, not_false_eq_true, n10, n01, nm0, n0m, nI_add, imp_t, imp_f]
            exact next M _ hXM hq
          refine hgo 20 [30, 42, 86] 42 _ _ _ _ _ ?_
          simp only [ixr_of, run_s, run_0, rFo_leastPleased, rok_i, rok_z, bx_cons, bx_nil, eAND, eBP, eC0, eC1, eCS1, eCV0, eCV1, eCV3, eCm1, eGI, eGO, eGR, jICgt, jICne, jIFeq, eINC5, eINC6, eLA0, eLA1, eLI2, eLI3, eLI4, eLI5, eLI6, eLI7, eOR, eRI, eSI3, eSI4, eSI5, eSI6, eSI7, fFo_leastPleased_0, fFo_leastPleased_30, fFo_leastPleased_39, fFo_leastPleased_42, fFo_leastPleased_49, fFo_leastPleased_59, fFo_leastPleased_73, fFo_leastPleased_81, fFo_leastPleased_85, fFo_leastPleased_86, fFo_leastPleased_93, fFo_leastPleased_104, fFo_leastPleased_107, fFo_leastPleased_113, fFo_leastPleased_119, bFo_leastPleased_0, bFo_leastPleased_30, bFo_leastPleased_39, bFo_leastPleased_42, bFo_leastPleased_49, bFo_leastPleased_59, bFo_leastPleased_73, bFo_leastPleased_81, bFo_leastPleased_85, bFo_leastPleased_86, bFo_leastPleased_93, bFo_leastPleased_104, bFo_leastPleased_107, bFo_leastPleased_113, bFo_leastPleased_119, ln_xformerGrades, rg_xforesight_0, rg_xforesight_1, rg_xforesight_2, ty_xaqueduct, ty_xforesight, ty_xformerGrades, ty_xftrial, Option.toList_some, Option.toList_none, List.cons_append, List.nil_append, List.length_cons, List.length_nil, List.mem_cons, List.not_mem_nil, or_false, false_or, or_true, true_or, ↓reduceIte, true_and, and_true, Nat.reduceEqDiff, Nat.reduceAdd, Nat.reduceLeDiff, Nat.reduceLT, dl_i, dl_r, dl_n, dl_u, eq_self, not_true_eq_false, not_false_eq_true, n10, n01, nm0, n0m, c2, imp_t, imp_f]
          refine call0 (x_bitCount (by omega) ?_)
          rw [onN (by omega)]
          simp only [ixr_of, run_s, run_0, rFo_leastPleased, rok_i, rok_z, bx_cons, bx_nil, eAND, eBP, eC0, eC1, eCS1, eCV0, eCV1, eCV3, eCm1, eGI, eGO, eGR, jICgt, jICne, jIFeq, eINC5, eINC6, eLA0, eLA1, eLI2, eLI3, eLI4, eLI5, eLI6, eLI7, eOR, eRI, eSI3, eSI4, eSI5, eSI6, eSI7, fFo_leastPleased_0, fFo_leastPleased_30, fFo_leastPleased_39, fFo_leastPleased_42, fFo_leastPleased_49, fFo_leastPleased_59, fFo_leastPleased_73, fFo_leastPleased_81, fFo_leastPleased_85, fFo_leastPleased_86, fFo_leastPleased_93, fFo_leastPleased_104, fFo_leastPleased_107, fFo_leastPleased_113, fFo_leastPleased_119, bFo_leastPleased_0, bFo_leastPleased_30, bFo_leastPleased_39, bFo_leastPleased_42, bFo_leastPleased_49, bFo_leastPleased_59, bFo_leastPleased_73, bFo_leastPleased_81, bFo_leastPleased_85, bFo_leastPleased_86, bFo_leastPleased_93, bFo_leastPleased_104, bFo_leastPleased_107, bFo_leastPleased_113, bFo_leastPleased_119, ln_xformerGrades, rg_xforesight_0, rg_xforesight_1, rg_xforesight_2, ty_xaqueduct, ty_xforesight, ty_xformerGrades, ty_xftrial, Option.toList_some, Option.toList_none, List.cons_append, List.nil_append, List.length_cons, List.length_nil, List.mem_cons, List.not_mem_nil, or_false, false_or, or_true, true_or, ↓reduceIte, true_and, and_true, Nat.reduceEqDiff, Nat.reduceAdd, Nat.reduceLeDiff, Nat.reduceLT, dl_i, dl_r, dl_n, dl_u, eq_self, not_true_eq_false, not_false_eq_true, n10, n01, nm0, n0m, cs, ty71, e10, nx_and, nx_or, cp, cu, imp_t, imp_f]
          refine ⟨fun q => ?_, fun q => ⟨fun q2 => ?_, fun q2 => ⟨fun q3 => ?_, fun q3 => ?_⟩⟩⟩
          · exact nofit L _ hXL (fun c => absurd c q)
          · refine nofit L _ hXL (fun _ c => ?_)
            rw [hQc] at c
            have c1 := c.1.1
            rw [hp, sub_i, nx_and, nI_eq (by omega) (by omega)] at c1
            exact q2 c1
          · refine nofit L _ hXL (fun _ c => ?_)
            rw [hQc] at c
            exact q3 c.2
          · exact fit L _ hXL q q2 q3
      have hNK := hN.xf s9 (Or.inl rfl) hX
      have v7 := hNK.2.1.1.1
      have c1 : (nI S.1.1 < nI z) = False := by rw [nIt (by omega) (by omega)]; exact eq_false (by omega)
      refine hgo 20 [30, 42, 86] 30 _ _ _ _ _ ?_
      simp only [ixr_of, run_s, run_0, rFo_leastPleased, rok_i, rok_z, bx_cons, bx_nil, eAND, eBP, eC0, eC1, eCS1, eCV0, eCV1, eCV3, eCm1, eGI, eGO, eGR, jICgt, jICne, jIFeq, eINC5, eINC6, eLA0, eLA1, eLI2, eLI3, eLI4, eLI5, eLI6, eLI7, eOR, eRI, eSI3, eSI4, eSI5, eSI6, eSI7, fFo_leastPleased_0, fFo_leastPleased_30, fFo_leastPleased_39, fFo_leastPleased_42, fFo_leastPleased_49, fFo_leastPleased_59, fFo_leastPleased_73, fFo_leastPleased_81, fFo_leastPleased_85, fFo_leastPleased_86, fFo_leastPleased_93, fFo_leastPleased_104, fFo_leastPleased_107, fFo_leastPleased_113, fFo_leastPleased_119, bFo_leastPleased_0, bFo_leastPleased_30, bFo_leastPleased_39, bFo_leastPleased_42, bFo_leastPleased_49, bFo_leastPleased_59, bFo_leastPleased_73, bFo_leastPleased_81, bFo_leastPleased_85, bFo_leastPleased_86, bFo_leastPleased_93, bFo_leastPleased_104, bFo_leastPleased_107, bFo_leastPleased_113, bFo_leastPleased_119, ln_xformerGrades, rg_xforesight_0, rg_xforesight_1, rg_xforesight_2, ty_xaqueduct, ty_xforesight, ty_xformerGrades, ty_xftrial, Option.toList_some, Option.toList_none, List.cons_append, List.nil_append, List.length_cons, List.length_nil, List.mem_cons, List.not_mem_nil, or_false, false_or, or_true, true_or, ↓reduceIte, true_and, and_true, Nat.reduceEqDiff, Nat.reduceAdd, Nat.reduceLeDiff, Nat.reduceLT, dl_i, dl_r, dl_n, dl_u, eq_self, not_true_eq_false, not_false_eq_true, n10, n01, nm0, n0m, ty71, v7, c1, imp_t, imp_f]
      exact inner (2 ^ S.1.1) 0 K _ (by omega) hX (fun s' hs' => absurd hs' (by omega))
  have e10 : J 71 10 = nI p := by rw [hN.2.2.1, hp]
  refine hgo 20 [30, 42, 86] 0 _ _ _ _ _ ?_
  simp only [ixr_of, run_s, run_0, rFo_leastPleased, rok_i, rok_z, bx_cons, bx_nil, eAND, eBP, eC0, eC1, eCS1, eCV0, eCV1, eCV3, eCm1, eGI, eGO, eGR, jICgt, jICne, jIFeq, eINC5, eINC6, eLA0, eLA1, eLI2, eLI3, eLI4, eLI5, eLI6, eLI7, eOR, eRI, eSI3, eSI4, eSI5, eSI6, eSI7, fFo_leastPleased_0, fFo_leastPleased_30, fFo_leastPleased_39, fFo_leastPleased_42, fFo_leastPleased_49, fFo_leastPleased_59, fFo_leastPleased_73, fFo_leastPleased_81, fFo_leastPleased_85, fFo_leastPleased_86, fFo_leastPleased_93, fFo_leastPleased_104, fFo_leastPleased_107, fFo_leastPleased_113, fFo_leastPleased_119, bFo_leastPleased_0, bFo_leastPleased_30, bFo_leastPleased_39, bFo_leastPleased_42, bFo_leastPleased_49, bFo_leastPleased_59, bFo_leastPleased_73, bFo_leastPleased_81, bFo_leastPleased_85, bFo_leastPleased_86, bFo_leastPleased_93, bFo_leastPleased_104, bFo_leastPleased_107, bFo_leastPleased_113, bFo_leastPleased_119, ln_xformerGrades, rg_xforesight_0, rg_xforesight_1, rg_xforesight_2, ty_xaqueduct, ty_xforesight, ty_xformerGrades, ty_xftrial, Option.toList_some, Option.toList_none, List.cons_append, List.nil_append, List.length_cons, List.length_nil, List.mem_cons, List.not_mem_nil, or_false, false_or, or_true, true_or, ↓reduceIte, true_and, and_true, Nat.reduceEqDiff, Nat.reduceAdd, Nat.reduceLeDiff, Nat.reduceLT, dl_i, dl_r, dl_n, dl_u, eq_self, not_true_eq_false, not_false_eq_true, n10, n01, nm0, n0m, ty71, e10, imp_t, imp_f]
  refine call0 (x_puttersOf hA.1 (by decide) ?_)
  simp only [ixr_of, run_s, run_0, rFo_leastPleased, rok_i, rok_z, bx_cons, bx_nil, eAND, eBP, eC0, eC1, eCS1, eCV0, eCV1, eCV3, eCm1, eGI, eGO, eGR, jICgt, jICne, jIFeq, eINC5, eINC6, eLA0, eLA1, eLI2, eLI3, eLI4, eLI5, eLI6, eLI7, eOR, eRI, eSI3, eSI4, eSI5, eSI6, eSI7, fFo_leastPleased_0, fFo_leastPleased_30, fFo_leastPleased_39, fFo_leastPleased_42, fFo_leastPleased_49, fFo_leastPleased_59, fFo_leastPleased_73, fFo_leastPleased_81, fFo_leastPleased_85, fFo_leastPleased_86, fFo_leastPleased_93, fFo_leastPleased_104, fFo_leastPleased_107, fFo_leastPleased_113, fFo_leastPleased_119, bFo_leastPleased_0, bFo_leastPleased_30, bFo_leastPleased_39, bFo_leastPleased_42, bFo_leastPleased_49, bFo_leastPleased_59, bFo_leastPleased_73, bFo_leastPleased_81, bFo_leastPleased_85, bFo_leastPleased_86, bFo_leastPleased_93, bFo_leastPleased_104, bFo_leastPleased_107, bFo_leastPleased_113, bFo_leastPleased_119, ln_xformerGrades, rg_xforesight_0, rg_xforesight_1, rg_xforesight_2, ty_xaqueduct, ty_xforesight, ty_xformerGrades, ty_xftrial, Option.toList_some, Option.toList_none, List.cons_append, List.nil_append, List.length_cons, List.length_nil, List.mem_cons, List.not_mem_nil, or_false, false_or, or_true, true_or, ↓reduceIte, true_and, and_true, Nat.reduceEqDiff, Nat.reduceAdd, Nat.reduceLeDiff, Nat.reduceLT, dl_i, dl_r, dl_n, dl_u, eq_self, not_true_eq_false, not_false_eq_true, n10, n01, nm0, n0m, nx_or, r3, tT, imp_t, imp_f]
  refine call0 (x_allBits' tT hA.1.2.2.1 s9 ?_)
  simp only [ixr_of, run_s, run_0, rFo_leastPleased, rok_i, rok_z, bx_cons, bx_nil, eAND, eBP, eC0, eC1, eCS1, eCV0, eCV1, eCV3, eCm1, eGI, eGO, eGR, jICgt, jICne, jIFeq, eINC5, eINC6, eLA0, eLA1, eLI2, eLI3, eLI4, eLI5, eLI6, eLI7, eOR, eRI, eSI3, eSI4, eSI5, eSI6, eSI7, fFo_leastPleased_0, fFo_leastPleased_30, fFo_leastPleased_39, fFo_leastPleased_42, fFo_leastPleased_49, fFo_leastPleased_59, fFo_leastPleased_73, fFo_leastPleased_81, fFo_leastPleased_85, fFo_leastPleased_86, fFo_leastPleased_93, fFo_leastPleased_104, fFo_leastPleased_107, fFo_leastPleased_113, fFo_leastPleased_119, bFo_leastPleased_0, bFo_leastPleased_30, bFo_leastPleased_39, bFo_leastPleased_42, bFo_leastPleased_49, bFo_leastPleased_59, bFo_leastPleased_73, bFo_leastPleased_81, bFo_leastPleased_85, bFo_leastPleased_86, bFo_leastPleased_93, bFo_leastPleased_104, bFo_leastPleased_107, bFo_leastPleased_113, bFo_leastPleased_119, ln_xformerGrades, rg_xforesight_0, rg_xforesight_1, rg_xforesight_2, ty_xaqueduct, ty_xforesight, ty_xformerGrades, ty_xftrial, Option.toList_some, Option.toList_none, List.cons_append, List.nil_append, List.length_cons, List.length_nil, List.mem_cons, List.not_mem_nil, or_false, false_or, or_true, true_or, ↓reduceIte, true_and, and_true, Nat.reduceEqDiff, Nat.reduceAdd, Nat.reduceLeDiff, Nat.reduceLT, dl_i, dl_r, dl_n, dl_u, eq_self, not_true_eq_false, not_false_eq_true, n10, n01, nm0, n0m, imp_t, imp_f]
  rw [← hU]
  exact outer (S.1.1 + 1) 0 J _ _ (by omega) XF.rf (fun s _ h => absurd h (by omega))
end XQj
