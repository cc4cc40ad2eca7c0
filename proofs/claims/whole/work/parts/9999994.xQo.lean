/-! tasters: where to taste -/
def tsN (r : Nat → Int32) : Nat → Nat
  | 0 => 0
  | k + 1 => tsN r k ||| (if nI 0 < hbS r k then 2 ^ k else 0)
theorem tsN_lt {r : Nat → Int32} : ∀ k, tsN r k < 2 ^ k
  | 0 => Nat.one_pos
  | k + 1 => by
    have h1 := tsN_lt (r := r) k
    have h2 : 2 ^ k < 2 ^ (k + 1) := Nat.pow_lt_pow_right (by decide) (Nat.lt_succ_self k)
    refine Nat.or_lt_two_pow (by omega) ?_
    by_cases e : nI 0 < hbS r k
    · rw [if_pos e]; exact h2
    · rw [if_neg e]; exact Nat.two_pow_pos _
theorem tsF_N {r : Nat → Int32} : ∀ k, k ≤ 9 → tsF r k = nI (tsN r k)
  | 0, _ => rfl
  | k + 1, hk => by
    show tsF r k ||| (if nI 0 < hbS r k then nI 1 <<< (nI k &&& 31) else nI 0) = nI (tsN r k ||| (if nI 0 < hbS r k then 2 ^ k else 0))
    rw [tsF_N k (by omega), shlN (by omega), ← nx_or]
    congr 1
    by_cases e : nI 0 < hbS r k
    · rw [if_pos e, if_pos e]
    · rw [if_neg e, if_neg e]
theorem all_but {nV v : Nat} (h9 : nV ≤ 9) (hv : v < nV) : nI (2 ^ nV - 1) &&& (nI (2 ^ v) ^^^ -1) = nI (2 ^ nV - 1 - 2 ^ v) := by
  have : ∀ nV, nV < 10 → ∀ v, v < nV → nI (2 ^ nV - 1) &&& (nI (2 ^ v) ^^^ -1) = nI (2 ^ nV - 1 - 2 ^ v) := by decide +kernel
  exact this nV (by omega) v hv
theorem all_but_t {nV v w : Nat} (h9 : nV ≤ 9) (hv : v < nV) (hw : w < nV) : (2 ^ nV - 1 - 2 ^ v).testBit w = !decide (w = v) := by
  have : ∀ nV, nV < 10 → ∀ v, v < nV → ∀ w, w < nV → (2 ^ nV - 1 - 2 ^ v).testBit w = !decide (w = v) := by decide +kernel
  exact this nV (by omega) v hv w hw
/-- sets that tell apart -/
def ApN (ts : Nat → Nat) (nV s : Nat) : Prop := ∀ a c, a < c → c < nV → ts a = ts c ∨ ¬ ts a &&& s = ts c &&& s
theorem wrF_b {ap : Nat → Bool} {N : Nat} (hN : N ≤ 512) (hp : 0 < N) (hall : ap (N - 1) = true) : ∀ k, k ≤ N → ∃ s, wrF ap (nI (N - 1)) k = nI s ∧ s < N ∧ ap s = true ∧ ∀ s', s' < k → ap s' = true → popN s < popN s' ∨ (popN s = popN s' ∧ s ≤ s')
  | 0, _ => ⟨N - 1, rfl, by omega, hall, fun s' h => absurd h (by omega)⟩
  | k + 1, hk => by
    obtain ⟨s, e, hs, ha, hb⟩ := wrF_b hN hp hall k (by omega)
    have p1 := pop_9 (s := k)
    have p2 := pop_9 (s := s)
    have hc : (onI (nI s) < onI (nI k) ∨ (onI (nI k) = onI (nI s) ∧ ¬ nI k < nI s)) ↔ (popN s < popN k ∨ (popN k = popN s ∧ ¬ k < s)) := by
      rw [onN (by omega), onN (by omega), nI_ltI (by omega) (by omega), nI_eq (by omega) (by omega), nI_ltI (by omega) (by omega)]
    unfold wrF
    rw [e]
    by_cases c : popN s < popN k ∨ (popN k = popN s ∧ ¬ k < s)
    · rw [if_pos (hc.mpr c)]
      refine ⟨s, rfl, hs, ha, fun s' h1 h2 => ?_⟩
      by_cases z : s' = k
      · rw [z]; omega
      · exact hb s' (by omega) h2
    · rw [if_neg (fun z => c (hc.mp z))]
      by_cases c2 : ap k = true
      · rw [if_pos c2]
        refine ⟨k, rfl, by omega, c2, fun s' h1 h2 => ?_⟩
        by_cases z : s' = k
        · rw [z]; omega
        · have := hb s' (by omega) h2
          omega
      · rw [if_neg c2]
        refine ⟨s, rfl, hs, ha, fun s' h1 h2 => ?_⟩
        by_cases z : s' = k
        · rw [z] at h2; exact absurd h2 c2
        · exact hb s' (by omega) h2
/-- all but trial days, the aqueduct's own rows, the tasters' own -/
def XT (J K : Iv) : Prop := ∀ i, ¬ (16 ≤ i ∧ i ≤ 19) → ¬ (58 ≤ i ∧ i ≤ 67) → ¬ idV i → K i = J i
theorem XT.rf {J : Iv} : XT J J := fun _ _ _ _ => rfl
theorem XT.tr {J K L : Iv} (h : XT J K) (h2 : XT K L) : XT J L := fun i a b c => (h2 i a b c).trans (h i a b c)
theorem XF.ts {J K : Iv} (h : XF 59 J K) : XT J K := fun i a b c => h i a (by omega) c
theorem XT.t {J K : Iv} (h : XT J K) : SayT J K := fun i hi => h i (by unfold tw at hi; omega) (by unfold tw at hi; omega) (idV_n (by unfold tw at hi; omega))
section XQo
variable {Γ : Gm} {l : Launch} {b : Bool} {d : Nat} {I J : Iv} {E : Ev} {kr : Kr} {kx : Kxx} {y t n kb : Nat} {S : Tn} {PS : Nat → List Pt} {op : Nat → Nat} {bk : List (Nat × Nat)}
theorem TwR.xt {K : Iv} (h : TwR b J E S PS t op) (hk : XT J K) : TwR b K E S PS t op := by
  refine h.mv (fun i hi => ?_) hk.t
  rcases hi with hi | hi | ⟨o, ho, hi⟩
  · exact hk i (by omega) (by omega) (idV_n (by omega))
  · exact hk i (by omega) (by omega) (idV_n (by omega))
  · have : (20 ≤ o ∧ o ≤ 44) ∨ o = 94 := by unfold idO at ho; omega
    refine hk i (by omega) (by omega) (idV_n ?_)
    unfold idO at ho
    omega
theorem x_basinsOf {v m : Nat} (hG : GX Γ) (hA : TwR b J E S PS t op) (hI : SayT I J) (hBg : BgM I S) (hv : v < S.1.1) (hm : m ≤ 60)
    (hk : ∀ K, XF 59 J K → kr (some (.int (nI (tsN (gR I S.1.1 S.1.2 (pmA I v) (I 500127) m) S.1.1)))) K E) : Ex Γ l (shB b) (d + 6) (0, 0) mTs_basinsOf [.ref 58, .int (nI v), .int (nI m)] J E kr kx := by
  refine ex_of (ls0 := [some (.ref 58), some (.int (nI v)), some (.int (nI m)), none, none]) tTs_basinsOf (by decide +kernel) kTs_basinsOf rfl (Nat.le_of_ble_eq_true rfl) rfl ?_
  intro go hgo
  have hS := hA.1.2.2.2.1
  have s9 := hS.1
  have h512 := p2_512 s9
  obtain ⟨r3, hT, hXt, -⟩ := id hA.1
  have tT : tyc (shB b) E t = 10 := (hT.A (b := b) (E := E)).1
  have ty59 : tyc (shB b) E 59 = 3 := dyA_59.1
  have hMI := hA.2.1.t hS hI.sm
  refine hgo 20 [39, 66] 0 _ _ _ _ _ ?_
  simp only [ixr_of, run_s, run_0, rTs_basinsOf, rok_i, rok_z, bx_cons, bx_nil, eAND, eC0, eC1, eCV0, eCV1, eCm1, eGI, eGO, eGR, jICge, jIFle, eINC3, eINC4, eLA0, eLI1, eLI2, eLI3, eLI4, eOR, ePI, eRI, eSHL, eSI3, eSI4, eXOR, fTs_basinsOf_0, fTs_basinsOf_39, fTs_basinsOf_44, fTs_basinsOf_61, fTs_basinsOf_66, fTs_basinsOf_78, fTs_basinsOf_91, fTs_basinsOf_98, fTs_basinsOf_99, fTs_basinsOf_107, bTs_basinsOf_0, bTs_basinsOf_39, bTs_basinsOf_44, bTs_basinsOf_61, bTs_basinsOf_66, bTs_basinsOf_78, bTs_basinsOf_91, bTs_basinsOf_98, bTs_basinsOf_99, bTs_basinsOf_107, ln_xpatterns, rg_xtasters_0, rg_xtasters_1, rg_xtasters_2, ty_xaqueduct, ty_xpatterns, ty_xtasters, ty_xttrial, Option.toList_some, Option.toList_none, List.cons_append, List.nil_append, List.length_cons, List.length_nil, List.mem_cons, List.not_mem_nil, or_false, false_or, or_true, true_or, ↓reduceIte, true_and, and_true, Nat.reduceEqDiff, Nat.reduceAdd, Nat.reduceLeDiff, Nat.reduceLT, dl_i, dl_r, dl_n, dl_u, eq_self, not_true_eq_false, not_false_eq_true, n10, n01, nm0, n0m, r3, tT, imp_t, imp_f]
  refine call0 (x_dbegin (lg := fun v => vz S v 3) dyA_59 hT.A hXt.1 s9 (fun v hv => ⟨vz_5 hS, (hXt.2.2.2.2.2.2.1 v (by omega)).2.2.1⟩) (by unfold idT at hT; omega) (fun K hK => ?_))
  have hXK : XF 59 J K := fun i _ h _ => hK.1 i h
  have hXtK : XTn K t S := hXt.mv (fun i a c => hK.1 i (by unfold idT at hT; omega))
  simp only [ixr_of, run_s, run_0, rTs_basinsOf, rok_i, rok_z, bx_cons, bx_nil, eAND, eC0, eC1, eCV0, eCV1, eCm1, eGI, eGO, eGR, jICge, jIFle, eINC3, eINC4, eLA0, eLI1, eLI2, eLI3, eLI4, eOR, ePI, eRI, eSHL, eSI3, eSI4, eXOR, fTs_basinsOf_0, fTs_basinsOf_39, fTs_basinsOf_44, fTs_basinsOf_61, fTs_basinsOf_66, fTs_basinsOf_78, fTs_basinsOf_91, fTs_basinsOf_98, fTs_basinsOf_99, fTs_basinsOf_107, bTs_basinsOf_0, bTs_basinsOf_39, bTs_basinsOf_44, bTs_basinsOf_61, bTs_basinsOf_66, bTs_basinsOf_78, bTs_basinsOf_91, bTs_basinsOf_98, bTs_basinsOf_99, bTs_basinsOf_107, ln_xpatterns, rg_xtasters_0, rg_xtasters_1, rg_xtasters_2, ty_xaqueduct, ty_xpatterns, ty_xtasters, ty_xttrial, Option.toList_some, Option.toList_none, List.cons_append, List.nil_append, List.length_cons, List.length_nil, List.mem_cons, List.not_mem_nil, or_false, false_or, or_true, true_or, ↓reduceIte, true_and, and_true, Nat.reduceEqDiff, Nat.reduceAdd, Nat.reduceLeDiff, Nat.reduceLT, dl_i, dl_r, dl_n, dl_u, eq_self, not_true_eq_false, not_false_eq_true, n10, n01, nm0, n0m, r3, tT, imp_t, imp_f]
  refine call0 (x_allBits' tT hXtK s9 ?_)
  have e1 : nI 1 <<< (nI v &&& 31) = nI (2 ^ v) := shlN (by omega)
  have e2 := all_but s9 hv
  simp only [ixr_of, run_s, run_0, rTs_basinsOf, rok_i, rok_z, bx_cons, bx_nil, eAND, eC0, eC1, eCV0, eCV1, eCm1, eGI, eGO, eGR, jICge, jIFle, eINC3, eINC4, eLA0, eLI1, eLI2, eLI3, eLI4, eOR, ePI, eRI, eSHL, eSI3, eSI4, eXOR, fTs_basinsOf_0, fTs_basinsOf_39, fTs_basinsOf_44, fTs_basinsOf_61, fTs_basinsOf_66, fTs_basinsOf_78, fTs_basinsOf_91, fTs_basinsOf_98, fTs_basinsOf_99, fTs_basinsOf_107, bTs_basinsOf_0, bTs_basinsOf_39, bTs_basinsOf_44, bTs_basinsOf_61, bTs_basinsOf_66, bTs_basinsOf_78, bTs_basinsOf_91, bTs_basinsOf_98, bTs_basinsOf_99, bTs_basinsOf_107, ln_xpatterns, rg_xtasters_0, rg_xtasters_1, rg_xtasters_2, ty_xaqueduct, ty_xpatterns, ty_xtasters, ty_xttrial, Option.toList_some, Option.toList_none, List.cons_append, List.nil_append, List.length_cons, List.length_nil, List.mem_cons, List.not_mem_nil, or_false, false_or, or_true, true_or, ↓reduceIte, true_and, and_true, Nat.reduceEqDiff, Nat.reduceAdd, Nat.reduceLeDiff, Nat.reduceLT, dl_i, dl_r, dl_n, dl_u, eq_self, not_true_eq_false, not_false_eq_true, n10, n01, nm0, n0m, e1, e2, ty59, imp_t, imp_f]
  have hQ := (NQ.beg hXt hS hK hBg).upl (x := nI (2 ^ S.1.1 - 1 - 2 ^ v)) s9
  obtain ⟨K2, hK2⟩ : ∃ K2, K2 = up K 59 10 (nI (2 ^ S.1.1 - 1 - 2 ^ v)) := ⟨_, rfl⟩
  rw [← hK2] at hQ ⊢
  have hX2 : XF 59 J K2 := by rw [hK2]; exact hXK.up (by decide) (by decide)
  have hP : Pe S.1.1 (PmD K2 59 S) (pmA I v) := by
    have h := hQ.pe0 hS hMI
    refine ⟨fun w hw => ⟨?_, ?_, (h.1 w hw).2.2⟩, h.2⟩
    · rw [(h.1 w hw).1]
      show plS _ w = decide (w = v)
      have hb : 2 ^ S.1.1 - 1 - 2 ^ v < 512 := by have := Nat.sub_le (2 ^ S.1.1 - 1) (2 ^ v); omega
      rw [plS_N hb (by omega), all_but_t s9 hv hw, Bool.not_not]
    · rw [(h.1 w hw).2.1]
      show coS (nI 0) w = false
      rw [coS_N (by decide) (by omega), Nat.zero_testBit]
  have loop2 : ∀ (g k : Nat) (L : Iv), g + k = S.1.1 → XF 59 J L → DR L 59 S (0 + m) (gR I S.1.1 S.1.2 (pmA I v) (I 500127) m) → go 66 [some (.ref 58), some (.int (nI v)), some (.int (nI m)), some (.int (nI (tsN (gR I S.1.1 S.1.2 (pmA I v) (I 500127) m) k))), some (.int (nI k))] [] L E (0, 0) := by
    intro g
    induction g with
    | zero =>
      intro k L hg hX hD
      have : k = S.1.1 := by omega
      subst this
      have v7 := hD.1.1
      have c1 : (nI S.1.1 ≤ nI S.1.1) = True := eq_true (Int32.le_refl _)
      refine hgo 20 [39, 66] 66 _ _ _ _ _ ?_
      simp only [ixr_of, run_s, run_0, rTs_basinsOf, rok_i, rok_z, bx_cons, bx_nil, eAND, eC0, eC1, eCV0, eCV1, eCm1, eGI, eGO, eGR, jICge, jIFle, eINC3, eINC4, eLA0, eLI1, eLI2, eLI3, eLI4, eOR, ePI, eRI, eSHL, eSI3, eSI4, eXOR, fTs_basinsOf_0, fTs_basinsOf_39, fTs_basinsOf_44, fTs_basinsOf_61, fTs_basinsOf_66, fTs_basinsOf_78, fTs_basinsOf_91, fTs_basinsOf_98, fTs_basinsOf_99, fTs_basinsOf_107, bTs_basinsOf_0, bTs_basinsOf_39, bTs_basinsOf_44, bTs_basinsOf_61, bTs_basinsOf_66, bTs_basinsOf_78, bTs_basinsOf_91, bTs_basinsOf_98, bTs_basinsOf_99, bTs_basinsOf_107, ln_xpatterns, rg_xtasters_0, rg_xtasters_1, rg_xtasters_2, ty_xaqueduct, ty_xpatterns, ty_xtasters, ty_xttrial, Option.toList_some, Option.toList_none, List.cons_append, List.nil_append, List.length_cons, List.length_nil, List.mem_cons, List.not_mem_nil, or_false, false_or, or_true, true_or, ↓reduceIte, true_and, and_true, Nat.reduceEqDiff, Nat.reduceAdd, Nat.reduceLeDiff, Nat.reduceLT, dl_i, dl_r, dl_n, dl_u, eq_self, not_true_eq_false, not_false_eq_true, n10, n01, nm0, n0m, ty59, v7, c1, imp_t, imp_f]
      exact hk L hX
    | succ g ih =>
      intro k L hg hX hD
      have v7 := hD.1.1
      have c1 : (nI S.1.1 ≤ nI k) = False := by rw [nIl (by omega) (by omega)]; exact eq_false (by omega)
      have sh : nI 1 <<< (nI k &&& 31) = nI (2 ^ k) := shlN (by omega)
      refine hgo 20 [39, 66] 66 _ _ _ _ _ ?_
      simp only [ixr_of, run_s, run_0, rTs_basinsOf, rok_i, rok_z, bx_cons, bx_nil, eAND, eC0, eC1, eCV0, eCV1, eCm1, eGI, eGO, eGR, jICge, jIFle, eINC3, eINC4, eLA0, eLI1, eLI2, eLI3, eLI4, eOR, ePI, eRI, eSHL, eSI3, eSI4, eXOR, fTs_basinsOf_0, fTs_basinsOf_39, fTs_basinsOf_44, fTs_basinsOf_61, fTs_basinsOf_66, fTs_basinsOf_78, fTs_basinsOf_91, fTs_basinsOf_98, fTs_basinsOf_99, fTs_basinsOf_107, bTs_basinsOf_0, bTs_basinsOf_39, bTs_basinsOf_44, bTs_basinsOf_61, bTs_basinsOf_66, bTs_basinsOf_78, bTs_basinsOf_91, bTs_basinsOf_98, bTs_basinsOf_99, bTs_basinsOf_107, ln_xpatterns, rg_xtasters_0, rg_xtasters_1, rg_xtasters_2, ty_xaqueduct, ty_xpatterns, ty_xtasters, ty_xttrial, Option.toList_some, Option.toList_none, List.cons_append, List.nil_append, List.length_cons, List.length_nil, List.mem_cons, List.not_mem_nil, or_false, false_or, or_true, true_or, ↓reduceIte, true_and, and_true, Nat.reduceEqDiff, Nat.reduceAdd, Nat.reduceLeDiff, Nat.reduceLT, dl_i, dl_r, dl_n, dl_u, eq_self, not_true_eq_false, not_false_eq_true, n10, n01, nm0, n0m, ty59, v7, c1, imp_t, imp_f]
      refine call0 (x_herbsIn dyA_59 hD.1 (v := k) (by omega) ?_)
      rw [(herbs_27 hS hD (show k < S.1.1 by omega) (by omega)).1]
      simp only [ixr_of, run_s, run_0, rTs_basinsOf, rok_i, rok_z, bx_cons, bx_nil, eAND, eC0, eC1, eCV0, eCV1, eCm1, eGI, eGO, eGR, jICge, jIFle, eINC3, eINC4, eLA0, eLI1, eLI2, eLI3, eLI4, eOR, ePI, eRI, eSHL, eSI3, eSI4, eXOR, fTs_basinsOf_0, fTs_basinsOf_39, fTs_basinsOf_44, fTs_basinsOf_61, fTs_basinsOf_66, fTs_basinsOf_78, fTs_basinsOf_91, fTs_basinsOf_98, fTs_basinsOf_99, fTs_basinsOf_107, bTs_basinsOf_0, bTs_basinsOf_39, bTs_basinsOf_44, bTs_basinsOf_61, bTs_basinsOf_66, bTs_basinsOf_78, bTs_basinsOf_91, bTs_basinsOf_98, bTs_basinsOf_99, bTs_basinsOf_107, ln_xpatterns, rg_xtasters_0, rg_xtasters_1, rg_xtasters_2, ty_xaqueduct, ty_xpatterns, ty_xtasters, ty_xttrial, Option.toList_some, Option.toList_none, List.cons_append, List.nil_append, List.length_cons, List.length_nil, List.mem_cons, List.not_mem_nil, or_false, false_or, or_true, true_or, ↓reduceIte, true_and, and_true, Nat.reduceEqDiff, Nat.reduceAdd, Nat.reduceLeDiff, Nat.reduceLT, dl_i, dl_r, dl_n, dl_u, eq_self, not_true_eq_false, not_false_eq_true, n10, n01, nm0, n0m, sh, nx_or, nI_add, imp_t, imp_f]
      refine ⟨fun z => ?_, fun z => ?_⟩
      · have := ih (k + 1) L (by omega) hX hD
        unfold tsN at this
        rw [if_neg (Int32.not_lt.mpr z)] at this
        exact this
      · have := ih (k + 1) L (by omega) hX hD
        unfold tsN at this
        rw [if_pos (Int32.not_le.mp z)] at this
        exact this
  have loop : ∀ (g k : Nat) (L : Iv), g + k = m → XF 59 J L → TwR b L E S PS t op → SayT I L → DyS S (PmD K2 59 S) 59 (0 + k) (it2 I S.1.1 S.1.2 (PmD K2 59 S) (I 500127, K2 59 16) k) L → go 39 [some (.ref 58), some (.int (nI v)), some (.int (nI m)), some (.int (nI k)), none] [] L E (0, 0) := by
    intro g
    induction g with
    | zero =>
      intro k L hg hX hA' hI' hD
      have : k = m := by omega
      subst this
      have c1 : (nI k ≤ nI k) = True := eq_true (Int32.le_refl _)
      have d6 := hD.1
      rw [it2_pe hP, gR_of rfl] at d6
      refine hgo 20 [39, 66] 39 _ _ _ _ _ ?_
      simp only [ixr_of, run_s, run_0, rTs_basinsOf, rok_i, rok_z, bx_cons, bx_nil, eAND, eC0, eC1, eCV0, eCV1, eCm1, eGI, eGO, eGR, jICge, jIFle, eINC3, eINC4, eLA0, eLI1, eLI2, eLI3, eLI4, eOR, ePI, eRI, eSHL, eSI3, eSI4, eXOR, fTs_basinsOf_0, fTs_basinsOf_39, fTs_basinsOf_44, fTs_basinsOf_61, fTs_basinsOf_66, fTs_basinsOf_78, fTs_basinsOf_91, fTs_basinsOf_98, fTs_basinsOf_99, fTs_basinsOf_107, bTs_basinsOf_0, bTs_basinsOf_39, bTs_basinsOf_44, bTs_basinsOf_61, bTs_basinsOf_66, bTs_basinsOf_78, bTs_basinsOf_91, bTs_basinsOf_98, bTs_basinsOf_99, bTs_basinsOf_107, ln_xpatterns, rg_xtasters_0, rg_xtasters_1, rg_xtasters_2, ty_xaqueduct, ty_xpatterns, ty_xtasters, ty_xttrial, Option.toList_some, Option.toList_none, List.cons_append, List.nil_append, List.length_cons, List.length_nil, List.mem_cons, List.not_mem_nil, or_false, false_or, or_true, true_or, ↓reduceIte, true_and, and_true, Nat.reduceEqDiff, Nat.reduceAdd, Nat.reduceLeDiff, Nat.reduceLT, dl_i, dl_r, dl_n, dl_u, eq_self, not_true_eq_false, not_false_eq_true, n10, n01, nm0, n0m, c1, imp_t, imp_f]
      exact loop2 S.1.1 0 L (by omega) hX d6
    | succ g ih =>
      intro k L hg hX hA' hI' hD
      have c1 : (nI m ≤ nI k) = False := by rw [nIl (by omega) (by omega)]; exact eq_false (by omega)
      refine hgo 20 [39, 66] 39 _ _ _ _ _ ?_
      simp only [ixr_of, run_s, run_0, rTs_basinsOf, rok_i, rok_z, bx_cons, bx_nil, eAND, eC0, eC1, eCV0, eCV1, eCm1, eGI, eGO, eGR, jICge, jIFle, eINC3, eINC4, eLA0, eLI1, eLI2, eLI3, eLI4, eOR, ePI, eRI, eSHL, eSI3, eSI4, eXOR, fTs_basinsOf_0, fTs_basinsOf_39, fTs_basinsOf_44, fTs_basinsOf_61, fTs_basinsOf_66, fTs_basinsOf_78, fTs_basinsOf_91, fTs_basinsOf_98, fTs_basinsOf_99, fTs_basinsOf_107, bTs_basinsOf_0, bTs_basinsOf_39, bTs_basinsOf_44, bTs_basinsOf_61, bTs_basinsOf_66, bTs_basinsOf_78, bTs_basinsOf_91, bTs_basinsOf_98, bTs_basinsOf_99, bTs_basinsOf_107, ln_xpatterns, rg_xtasters_0, rg_xtasters_1, rg_xtasters_2, ty_xaqueduct, ty_xpatterns, ty_xtasters, ty_xttrial, Option.toList_some, Option.toList_none, List.cons_append, List.nil_append, List.length_cons, List.length_nil, List.mem_cons, List.not_mem_nil, or_false, false_or, or_true, true_or, ↓reduceIte, true_and, and_true, Nat.reduceEqDiff, Nat.reduceAdd, Nat.reduceLeDiff, Nat.reduceLT, dl_i, dl_r, dl_n, dl_u, eq_self, not_true_eq_false, not_false_eq_true, n10, n01, nm0, n0m, c1, imp_t, imp_f]
      refine call0 (x_day hG hA' (Or.inr (Or.inl rfl)) hD (by omega) hI' (fun M d1 d2 d3 d4 => ?_))
      simp only [ixr_of, run_s, run_0, rTs_basinsOf, rok_i, rok_z, bx_cons, bx_nil, eAND, eC0, eC1, eCV0, eCV1, eCm1, eGI, eGO, eGR, jICge, jIFle, eINC3, eINC4, eLA0, eLI1, eLI2, eLI3, eLI4, eOR, ePI, eRI, eSHL, eSI3, eSI4, eXOR, fTs_basinsOf_0, fTs_basinsOf_39, fTs_basinsOf_44, fTs_basinsOf_61, fTs_basinsOf_66, fTs_basinsOf_78, fTs_basinsOf_91, fTs_basinsOf_98, fTs_basinsOf_99, fTs_basinsOf_107, bTs_basinsOf_0, bTs_basinsOf_39, bTs_basinsOf_44, bTs_basinsOf_61, bTs_basinsOf_66, bTs_basinsOf_78, bTs_basinsOf_91, bTs_basinsOf_98, bTs_basinsOf_99, bTs_basinsOf_107, ln_xpatterns, rg_xtasters_0, rg_xtasters_1, rg_xtasters_2, ty_xaqueduct, ty_xpatterns, ty_xtasters, ty_xttrial, Option.toList_some, Option.toList_none, List.cons_append, List.nil_append, List.length_cons, List.length_nil, List.mem_cons, List.not_mem_nil, or_false, false_or, or_true, true_or, ↓reduceIte, true_and, and_true, Nat.reduceEqDiff, Nat.reduceAdd, Nat.reduceLeDiff, Nat.reduceLT, dl_i, dl_r, dl_n, dl_u, eq_self, not_true_eq_false, not_false_eq_true, n10, n01, nm0, n0m, nI_add, imp_t, imp_f]
      exact ih (k + 1) M (by omega) (hX.tr d1) d2 d3 d4
  exact loop m 0 K2 (by omega) hX2 (hA.xf (Or.inr (Or.inl rfl)) hX2) (hI.tr (hX2.t (Or.inr (Or.inl rfl)))) (hQ.s hS)
theorem x_tellsApart {s nV : Nat} {ts : Nat → Nat} (h9 : nV ≤ 9) (hts : ∀ v, v < nV → J 67 v = nI (ts v) ∧ ts v < 512) (hs : s < 512) (h1 : ApN ts nV s → kr (some (.int (nI 1))) J E) (h0 : ¬ ApN ts nV s → kr (some (.int (nI 0))) J E) : Ex Γ l (shB b) (d + 1) (0, 0) mTs_tellsApart [.ref 58, .int (nI s), .int (nI nV)] J E kr kx := by
  refine ex_of (ls0 := [some (.ref 58), some (.int (nI s)), some (.int (nI nV)), none, none]) tTs_tellsApart (by decide +kernel) kTs_tellsApart rfl (Nat.le_of_ble_eq_true rfl) rfl ?_
  intro go hgo
  have outer : ∀ (g v : Nat) (x4 : Option Value), g + v = nV → (∀ a c, a < c → c < v → ts a = ts c ∨ ¬ ts a &&& s = ts c &&& s) → go 2 [some (.ref 58), some (.int (nI s)), some (.int (nI nV)), some (.int (nI v)), x4] [] J E (0, 0) := by
    intro g
    induction g with
    | zero =>
      intro v x4 hg ha
      have : v = nV := by omega
      subst this
      have c1 : (nI v ≤ nI v) = True := eq_true (Int32.le_refl _)
      refine hgo 20 [2, 10] 2 _ _ _ _ _ ?_
      simp only [ixr_of, run_s, run_0, rTs_tellsApart, rok_i, rok_z, bx_cons, bx_nil, eAND, eC0, eC1, eGO, eGR, eIALD, jICeq, jICge, jICne, eINC3, eINC4, eLA0, eLI1, eLI2, eLI3, eLI4, eRI, eSI3, eSI4, fTs_tellsApart_0, fTs_tellsApart_2, fTs_tellsApart_7, fTs_tellsApart_10, fTs_tellsApart_16, fTs_tellsApart_32, fTs_tellsApart_52, fTs_tellsApart_54, fTs_tellsApart_60, fTs_tellsApart_66, bTs_tellsApart_0, bTs_tellsApart_2, bTs_tellsApart_7, bTs_tellsApart_10, bTs_tellsApart_16, bTs_tellsApart_32, bTs_tellsApart_52, bTs_tellsApart_54, bTs_tellsApart_60, bTs_tellsApart_66, ln_xpatterns, rg_xtasters_0, rg_xtasters_1, rg_xtasters_2, ty_xaqueduct, ty_xpatterns, ty_xtasters, ty_xttrial, Option.toList_some, Option.toList_none, List.cons_append, List.nil_append, List.length_cons, List.length_nil, List.mem_cons, List.not_mem_nil, or_false, false_or, or_true, true_or, ↓reduceIte, true_and, and_true, Nat.reduceEqDiff, Nat.reduceAdd, Nat.reduceLeDiff, Nat.reduceLT, dl_i, dl_r, dl_n, dl_u, eq_self, not_true_eq_false, not_false_eq_true, n10, n01, nm0, n0m, c1, imp_t, imp_f]
      exact h1 ha
    | succ g ih =>
      intro v x4 hg ha
      have i9 : v < 9 := by omega
      obtain ⟨ev, lv⟩ := hts v (by omega)
      have c1 : (nI nV ≤ nI v) = False := by rw [nIl (by omega) (by omega)]; exact eq_false (by omega)
      have inner : ∀ (h w : Nat), h + w = v → (∀ a, a < w → ts a = ts v ∨ ¬ ts a &&& s = ts v &&& s) → go 10 [some (.ref 58), some (.int (nI s)), some (.int (nI nV)), some (.int (nI v)), some (.int (nI w))] [] J E (0, 0) := by
        intro h
        induction h with
        | zero =>
          intro w hw ha2
          have : w = v := by omega
          subst this
          have c2 : (nI w ≤ nI w) = True := eq_true (Int32.le_refl _)
          refine hgo 20 [2, 10] 10 _ _ _ _ _ ?_
          simp only [ixr_of, run_s, run_0, rTs_tellsApart, rok_i, rok_z, bx_cons, bx_nil, eAND, eC0, eC1, eGO, eGR, eIALD, jICeq, jICge, jICne, eINC3, eINC4, eLA0, eLI1, eLI2, eLI3, eLI4, eRI, eSI3, eSI4, fTs_tellsApart_0, fTs_tellsApart_2, fTs_tellsApart_7, fTs_tellsApart_10, fTs_tellsApart_16, fTs_tellsApart_32, fTs_tellsApart_52, fTs_tellsApart_54, fTs_tellsApart_60, fTs_tellsApart_66, bTs_tellsApart_0, bTs_tellsApart_2, bTs_tellsApart_7, bTs_tellsApart_10, bTs_tellsApart_16, bTs_tellsApart_32, bTs_tellsApart_52, bTs_tellsApart_54, bTs_tellsApart_60, bTs_tellsApart_66, ln_xpatterns, rg_xtasters_0, rg_xtasters_1, rg_xtasters_2, ty_xaqueduct, ty_xpatterns, ty_xtasters, ty_xttrial, Option.toList_some, Option.toList_none, List.cons_append, List.nil_append, List.length_cons, List.length_nil, List.mem_cons, List.not_mem_nil, or_false, false_or, or_true, true_or, ↓reduceIte, true_and, and_true, Nat.reduceEqDiff, Nat.reduceAdd, Nat.reduceLeDiff, Nat.reduceLT, dl_i, dl_r, dl_n, dl_u, eq_self, not_true_eq_false, not_false_eq_true, n10, n01, nm0, n0m, c2, nI_add, imp_t, imp_f]
          refine ih (w + 1) _ (by omega) (fun a c h1 h2 => ?_)
          by_cases e : c = w
          · rw [e] at h1 ⊢; exact ha2 a h1
          · exact ha a c h1 (by omega)
        | succ h ih2 =>
          intro w hw ha2
          have j9 : w < 9 := by omega
          obtain ⟨ew, lw⟩ := hts w (by omega)
          have c2 : (nI v ≤ nI w) = False := by rw [nIl (by omega) (by omega)]; exact eq_false (by omega)
          have a1 := Nat.and_le_left (n := ts v) (m := s)
          have a2 := Nat.and_le_left (n := ts w) (m := s)
          have c3 : (nI (ts v) = nI (ts w)) = (ts v = ts w) := nIe (by omega) (by omega)
          have c4 : (nI (ts v &&& s) = nI (ts w &&& s)) = (ts v &&& s = ts w &&& s) := nIe (by omega) (by omega)
          have go1 : (ts w = ts v ∨ ¬ ts w &&& s = ts v &&& s) → go 10 [some (.ref 58), some (.int (nI s)), some (.int (nI nV)), some (.int (nI v)), some (.int (nI (w + 1)))] [] J E (0, 0) := fun hq => ih2 (w + 1) (by omega) (fun a h1 => by
            by_cases e : a = w
            · rw [e]; exact hq
            · exact ha2 a (by omega))
          refine hgo 20 [2, 10] 10 _ _ _ _ _ ?_
          simp only [ixr_of, run_s, run_0, rTs_tellsApart, rok_i, rok_z, bx_cons, bx_nil, eAND, eC0, eC1, eGO, eGR, eIALD, jICeq, jICge, jICne, eINC3, eINC4, eLA0, eLI1, eLI2, eLI3, eLI4, eRI, eSI3, eSI4, fTs_tellsApart_0, fTs_tellsApart_2, fTs_tellsApart_7, fTs_tellsApart_10, fTs_tellsApart_16, fTs_tellsApart_32, fTs_tellsApart_52, fTs_tellsApart_54, fTs_tellsApart_60, fTs_tellsApart_66, bTs_tellsApart_0, bTs_tellsApart_2, bTs_tellsApart_7, bTs_tellsApart_10, bTs_tellsApart_16, bTs_tellsApart_32, bTs_tellsApart_52, bTs_tellsApart_54, bTs_tellsApart_60, bTs_tellsApart_66, ln_xpatterns, rg_xtasters_0, rg_xtasters_1, rg_xtasters_2, ty_xaqueduct, ty_xpatterns, ty_xtasters, ty_xttrial, Option.toList_some, Option.toList_none, List.cons_append, List.nil_append, List.length_cons, List.length_nil, List.mem_cons, List.not_mem_nil, or_false, false_or, or_true, true_or, ↓reduceIte, true_and, and_true, Nat.reduceEqDiff, Nat.reduceAdd, Nat.reduceLeDiff, Nat.reduceLT, dl_i, dl_r, dl_n, dl_u, eq_self, not_true_eq_false, not_false_eq_true, n10, n01, nm0, n0m, c2, ev, ew, i9, j9, c3, c4, nx_and, nI_add, imp_t, imp_f]
          refine ⟨fun z => go1 (Or.inl z.symm), fun z => ⟨fun z2 => go1 (Or.inr (fun c => z2 c.symm)), fun z2 => ?_⟩⟩
          refine h0 (fun c => ?_)
          rcases c w v (by omega) (by omega) with e | e
          · exact z e.symm
          · exact e z2.symm
      refine hgo 20 [2, 10] 2 _ _ _ _ _ ?_
      simp only [ixr_of, run_s, run_0, rTs_tellsApart, rok_i, rok_z, bx_cons, bx_nil, eAND, eC0, eC1, eGO, eGR, eIALD, jICeq, jICge, jICne, eINC3, eINC4, eLA0, eLI1, eLI2, eLI3, eLI4, eRI, eSI3, eSI4, fTs_tellsApart_0, fTs_tellsApart_2, fTs_tellsApart_7, fTs_tellsApart_10, fTs_tellsApart_16, fTs_tellsApart_32, fTs_tellsApart_52, fTs_tellsApart_54, fTs_tellsApart_60, fTs_tellsApart_66, bTs_tellsApart_0, bTs_tellsApart_2, bTs_tellsApart_7, bTs_tellsApart_10, bTs_tellsApart_16, bTs_tellsApart_32, bTs_tellsApart_52, bTs_tellsApart_54, bTs_tellsApart_60, bTs_tellsApart_66, ln_xpatterns, rg_xtasters_0, rg_xtasters_1, rg_xtasters_2, ty_xaqueduct, ty_xpatterns, ty_xtasters, ty_xttrial, Option.toList_some, Option.toList_none, List.cons_append, List.nil_append, List.length_cons, List.length_nil, List.mem_cons, List.not_mem_nil, or_false, false_or, or_true, true_or, ↓reduceIte, true_and, and_true, Nat.reduceEqDiff, Nat.reduceAdd, Nat.reduceLeDiff, Nat.reduceLT, dl_i, dl_r, dl_n, dl_u, eq_self, not_true_eq_false, not_false_eq_true, n10, n01, nm0, n0m, c1, imp_t, imp_f]
      exact inner v 0 (by omega) (fun a h1 => absurd h1 (by omega))
  refine hgo 20 [2, 10] 0 _ _ _ _ _ ?_
  simp only [ixr_of, run_s, run_0, rTs_tellsApart, rok_i, rok_z, bx_cons, bx_nil, eAND, eC0, eC1, eGO, eGR, eIALD, jICeq, jICge, jICne, eINC3, eINC4, eLA0, eLI1, eLI2, eLI3, eLI4, eRI, eSI3, eSI4, fTs_tellsApart_0, fTs_tellsApart_2, fTs_tellsApart_7, fTs_tellsApart_10, fTs_tellsApart_16, fTs_tellsApart_32, fTs_tellsApart_52, fTs_tellsApart_54, fTs_tellsApart_60, fTs_tellsApart_66, bTs_tellsApart_0, bTs_tellsApart_2, bTs_tellsApart_7, bTs_tellsApart_10, bTs_tellsApart_16, bTs_tellsApart_32, bTs_tellsApart_52, bTs_tellsApart_54, bTs_tellsApart_60, bTs_tellsApart_66, ln_xpatterns, rg_xtasters_0, rg_xtasters_1, rg_xtasters_2, ty_xaqueduct, ty_xpatterns, ty_xtasters, ty_xttrial, Option.toList_some, Option.toList_none, List.cons_append, List.nil_append, List.length_cons, List.length_nil, List.mem_cons, List.not_mem_nil, or_false, false_or, or_true, true_or, ↓reduceIte, true_and, and_true, Nat.reduceEqDiff, Nat.reduceAdd, Nat.reduceLeDiff, Nat.reduceLT, dl_i, dl_r, dl_n, dl_u, eq_self, not_true_eq_false, not_false_eq_true, n10, n01, nm0, n0m, imp_t, imp_f]
  exact outer nV 0 _ (by omega) (fun a c _ h1 => absurd h1 (by omega))
end XQo
