/-! foresight: the round found -/
/-- what stays of the references: all that was there, but at the places P -/
def EX (b : Bool) (P : Nat → Nat → Prop) (E E' : Ev) : Prop := (∀ a j, tyc (shB b) E a ≠ 0 → ¬ P a j → rget (shB b) E' a j = rget (shB b) E a j) ∧ ∀ a, tyc (shB b) E a ≠ 0 → tyc (shB b) E' a = tyc (shB b) E a ∧ len (shB b) E' a = len (shB b) E a
theorem EX.rf {b : Bool} {P : Nat → Nat → Prop} {E : Ev} : EX b P E E := ⟨fun _ _ _ _ => rfl, fun _ _ => ⟨rfl, rfl⟩⟩
theorem EX.tr {b : Bool} {P : Nat → Nat → Prop} {E F G : Ev} (h : EX b P E F) (h2 : EX b P F G) : EX b P E G := ⟨fun a j ht hp => by rw [h2.1 a j (by rw [(h.2 a ht).1]; exact ht) hp, h.1 a j ht hp], fun a ht => by
  have h3 := h2.2 a (by rw [(h.2 a ht).1]; exact ht)
  rw [h3.1, h3.2]
  exact h.2 a ht⟩
theorem EX.mono {b : Bool} {P Q : Nat → Nat → Prop} {E F : Ev} (h : EX b P E F) (hq : ∀ a j, P a j → Q a j) : EX b Q E F := ⟨fun a j ht hp => h.1 a j ht (fun c => hp (hq a j c)), h.2⟩
theorem EX.mk {b : Bool} {P : Nat → Nat → Prop} {E : Ev} {i t n sz : Nat} (h0 : tyc (shB b) E i = 0) (h9 : tyc (shB b) E 999999 = 0) : EX b P E (mkE E i t n sz) := ⟨fun a j ht _ => rget_mk_n (fun e => ht (e ▸ h0)), fun a ht => ⟨tyc_mk_n (fun e => ht (e ▸ h0)), len_mk_n (fun e => ht (e ▸ h0)) (fun e => ht (e ▸ h9))⟩⟩
theorem EX.up {b : Bool} {P : Nat → Nat → Prop} {E : Ev} {i j x : Nat} (hp : P i j) : EX b P E (upR E.1 i j x, E.2) := ⟨fun a k _ hn => rget_up_ne (fun c => hn (by rw [c.1, c.2]; exact hp)), fun a _ => ⟨rfl, rfl⟩⟩
theorem AqS.ex {b : Bool} {J : Iv} {E F : Ev} {S : Tn} {PS : Nat → List Pt} {t : Nat} {op : Nat → Nat} {P : Nat → Nat → Prop} (h : AqS b J E S PS t op) (hE : EX b P E F) (h3 : ¬ P 3 0) (h15 : ∀ v, v < 9 → ¬ P 15 v) : AqS b J F S PS t op := by
  obtain ⟨h1, h2, h4⟩ := h
  refine ⟨by rw [hE.1 3 0 (by rw [ty_xaqueduct]; decide) h3]; exact h1, h2, h4.1, h4.2.1, fun v hv => by rw [hE.1 15 v (by rw [ty_xopinions]; decide) (h15 v hv)]; exact h4.2.2.1 v hv, h4.2.2.2⟩
theorem TwR.ex {b : Bool} {J : Iv} {E F : Ev} {S : Tn} {PS : Nat → List Pt} {t : Nat} {op : Nat → Nat} {P : Nat → Nat → Prop} (h : TwR b J E S PS t op) (hE : EX b P E F) (h3 : ¬ P 3 0) (h15 : ∀ v, v < 9 → ¬ P 15 v) : TwR b J F S PS t op := ⟨h.1.ex hE h3 h15, h.2⟩
def RoS (b : Bool) (E : Ev) (rw' : Nat) : Prop := rget (shB b) E 47 3 = .ref rw' ∧ tyc (shB b) E rw' = 101 ∧ (rw' = 57 ∨ (1000000 ≤ rw' ∧ len (shB b) E rw' = 81405))
/-- how a round is found -/
def RoP (I : Iv) (nV nC : Nat) (x y : Int32) : Prop := (∃ n m, n ≤ 200 ∧ m < n ∧ asP I nV (gR I nV nC (pmN I) (I 500124) n) (gR I nV nC (pmN I) (I 500124) m) ∧ (∀ m', m' < m → ¬ asP I nV (gR I nV nC (pmN I) (I 500124) n) (gR I nV nC (pmN I) (I 500124) m')) ∧ (∀ n' m', n' < n → m' < n' → ¬ asP I nV (gR I nV nC (pmN I) (I 500124) n') (gR I nV nC (pmN I) (I 500124) m')) ∧ x = nI n ∧ y = nI (n - m)) ∨
  ((∀ n' m', n' ≤ 200 → m' < n' → ¬ asP I nV (gR I nV nC (pmN I) (I 500124) n') (gR I nV nC (pmN I) (I 500124) m')) ∧ x = -1 ∧ y = -1)
/-- all but trial days, the aqueduct's own rows, foresight's fields, the rows -/
def XR (q : Nat) (J K : Iv) : Prop := ∀ i, ¬ (16 ≤ i ∧ i ≤ 19) → ¬ (47 ≤ i ∧ i ≤ 55) → ¬ idV i → i ≠ q → K i = J i
theorem XR.rf {q : Nat} {J : Iv} : XR q J J := fun _ _ _ _ _ => rfl
theorem XR.tr {q : Nat} {J K L : Iv} (h : XR q J K) (h2 : XR q K L) : XR q J L := fun i a b c e => (h2 i a b c e).trans (h i a b c e)
theorem XF.r {q : Nat} {J K : Iv} (h : XF 48 J K) : XR q J K := fun i a b c _ => h i a (by omega) c
theorem XR.f {q k : Nat} {x : Int32} {J : Iv} : XR q J (up J 47 k x) := fun i _ h _ _ => by funext j; exact up_n (by omega)
section XQm
variable {Γ : Gm} {l : Launch} {b : Bool} {d : Nat} {I J : Iv} {E : Ev} {kr : Kr} {kx : Kxx} {y t n rw' : Nat} {S : Tn} {PS : Nat → List Pt} {op : Nat → Nat}
theorem TwR.xr {q : Nat} {K : Iv} (h : TwR b J E S PS t op) (hq : 1000000 ≤ q) (hk : XR q J K) : TwR b K E S PS t op := by
  refine h.mv (fun i hi => ?_) (fun i hi => hk i (by unfold tw at hi; omega) (by unfold tw at hi; omega) (idV_n (by unfold tw at hi; omega)) (by unfold tw at hi; omega))
  rcases hi with hi | hi | ⟨o, ho, hi⟩
  · exact hk i (by omega) (by omega) (idV_n (by omega)) (by omega)
  · exact hk i (by omega) (by omega) (idV_n (by omega)) (by omega)
  · have : (20 ≤ o ∧ o ≤ 44) ∨ o = 94 := by unfold idO at ho; omega
    refine hk i (by omega) (by omega) (idV_n ?_) (by omega)
    unfold idO at ho
    omega
theorem NwI.xr {q : Nat} {K : Iv} (h : NwI I J S n) (h9 : S.1.1 ≤ 9) (hq : 1000000 ≤ q) (hX : XR q J K) : NwI I K S n := ⟨h.1.tr (fun i hi => hX i (by unfold tw at hi; omega) (by unfold tw at hi; omega) (idV_n (by unfold tw at hi; omega)) (by unfold tw at hi; omega)), h.2.mv h9 (fun i h1 h2 => hX i (by omega) (by omega) (idV_n (by omega)) (by omega))⟩
theorem x_findRound {M : Uv} (hG : GX Γ) (hA : TwR b J E S PS t op) (hN : NwI I J S n) (hn : n ≤ 1000) (hR : RoS b E rw') (hM : (∀ v, v < S.1.1 → ¬ 1004 ∈ stA (PS v)) → rw' = 57 → 1 ≤ M.1 ∧ 81405 ≤ M.2)
    (h1 : (∃ v, v < S.1.1 ∧ 1004 ∈ stA (PS v)) → ∀ K, XR 1000000 J K → (∀ i, 1000000 ≤ i → K i = J i) → K 47 4 = -1 → K 47 5 = -1 → kr none K E)
    (h2 : (∀ v, v < S.1.1 → ¬ 1004 ∈ stA (PS v)) → ∀ K E' q, XR q J K → RoS b E' q → 1000000 ≤ q → (q = rw' ∨ (rw' = 57 ∧ tyc (shB b) E q = 0)) → EX b (fun a j => a = 47 ∧ j = 3) E E' → tyc (shB b) E' 999999 = 0 → RoP I S.1.1 S.1.2 (K 47 4) (K 47 5) → kr none K E') (h9E : tyc (shB b) E 999999 = 0) : Ex Γ l (shB b) (d + 6) M mFo_findRound [.ref 47, .ref 71] J E kr kx := by
  refine ex_of (ls0 := [some (.ref 47), some (.ref 71), none, none, none]) tFo_findRound (by decide +kernel) kFo_findRound rfl (Nat.le_of_ble_eq_true rfl) rfl ?_
  intro go hgo
  have hS := hA.1.2.2.2.1
  have s9 := hS.1
  have hof : ofR S S.1.1 ≤ 405 := by have := ofR_b hS S.1.1; omega
  have hMI := hA.2.1.t hS hN.1.sm
  obtain ⟨g, hg⟩ : ∃ g, g = gR I S.1.1 S.1.2 (pmN I) (I 500124) := ⟨_, rfl⟩
  -- from the rows made on
  have main : ∀ (F : Ev) (q : Nat) (K : Iv) (u : Uv), (∀ v, v < S.1.1 → ¬ 1004 ∈ stA (PS v)) → XR q J K → K 47 4 = -1 → K 47 5 = -1 → rget (shB b) F 47 3 = .ref q → tyc (shB b) F q = 101 → len (shB b) F q = 81405 → 1000000 ≤ q → (q = rw' ∨ (rw' = 57 ∧ tyc (shB b) E q = 0)) → EX b (fun a j => a = 47 ∧ j = 3) E F → tyc (shB b) F 999999 = 0 → go 37 [some (.ref 47), some (.ref 71), none, none, none] [] K F u := by
    intro F q K u hno hX k4 k5 r1 r2 r3 hq hqq hE h9F
    have hAF : TwR b K F S PS t op := (hA.xr hq hX).ex hE (by omega) (by omega)
    have hNK := hN.xr s9 hq hX
    have hRF : RoS b F q := ⟨r1, r2, Or.inr ⟨hq, r3⟩⟩
    have days : ∀ (f k : Nat) (P : Pm) (x : Int32) (L : Iv) (x4 : Option Value), f + k = 200 → XR q J L → L 47 4 = -1 → L 47 5 = -1 → TwR b L F S PS t op → SayT I L → Pe S.1.1 P (pmN I) → DyS S P 48 (n + k) (it2 I S.1.1 S.1.2 P (I 500124, x) k) L → (∀ j, j ≤ k → RWd (L q) (j * 405) S (g j) ∧ ZA (g j) S.1.1) → (∀ n' m', n' ≤ k → m' < n' → ¬ asP I S.1.1 (g n') (g m')) → go 53 [some (.ref 47), some (.ref 71), some (.int (nI (ofR S S.1.1))), some (.int (nI (k + 1))), x4] [] L F u := by
      intro f
      induction f with
      | zero =>
        intro k P x L x4 hf hXL l4 l5 hAL hIL hP hD hRw hno2
        have : k = 200 := by omega
        subst this
        have c1 : (nI 200 < nI 201) = True := by decide
        refine hgo 20 [37, 53] 53 _ _ _ _ _ ?_
        simp only [ixr_of, run_s, run_0, rFo_findRound, rok_i, rok_z, bx_cons, bx_nil, eALEN, eC0, eC1, eCV0, eCV1, eCV2, eCm1, eGO, eGR, jICeq, jICgt, jIFeq, jIFne, eINC3, eLA0, eLA1, eLDC, eLI2, eLI3, eLI4, eNAI, ePI, ePOPi, ePR, eRV, eSI2, eSI3, eSI4, eSP, eSUB, fFo_findRound_0, fFo_findRound_20, fFo_findRound_21, fFo_findRound_29, fFo_findRound_37, fFo_findRound_53, fFo_findRound_60, fFo_findRound_91, fFo_findRound_105, fFo_findRound_111, bFo_findRound_0, bFo_findRound_20, bFo_findRound_21, bFo_findRound_29, bFo_findRound_37, bFo_findRound_53, bFo_findRound_60, bFo_findRound_91, bFo_findRound_105, bFo_findRound_111, ln_xformerGrades, rg_xforesight_0, rg_xforesight_1, rg_xforesight_2, ty_xaqueduct, ty_xforesight, ty_xformerGrades, ty_xftrial, Option.toList_some, Option.toList_none, List.cons_append, List.nil_append, List.length_cons, List.length_nil, List.mem_cons, List.not_mem_nil, or_false, false_or, or_true, true_or, ↓reduceIte, true_and, and_true, Nat.reduceEqDiff, Nat.reduceAdd, Nat.reduceLeDiff, Nat.reduceLT, dl_i, dl_r, dl_n, dl_u, eq_self, not_true_eq_false, not_false_eq_true, n10, n01, nm0, n0m, c1, imp_t, imp_f]
        rw [hg] at hno2
        exact h2 hno L F q hXL hRF hq hqq hE h9F (Or.inr ⟨hno2, l4, l5⟩)
      | succ f ih =>
        intro k P x L x4 hf hXL l4 l5 hAL hIL hP hD hRw hno2
        have c1 : (nI 200 < nI (k + 1)) = False := by rw [nIt (by omega) (by omega)]; exact eq_false (by omega)
        refine hgo 20 [37, 53] 53 _ _ _ _ _ ?_
        simp only [ixr_of, run_s, run_0, rFo_findRound, rok_i, rok_z, bx_cons, bx_nil, eALEN, eC0, eC1, eCV0, eCV1, eCV2, eCm1, eGO, eGR, jICeq, jICgt, jIFeq, jIFne, eINC3, eLA0, eLA1, eLDC, eLI2, eLI3, eLI4, eNAI, ePI, ePOPi, ePR, eRV, eSI2, eSI3, eSI4, eSP, eSUB, fFo_findRound_0, fFo_findRound_20, fFo_findRound_21, fFo_findRound_29, fFo_findRound_37, fFo_findRound_53, fFo_findRound_60, fFo_findRound_91, fFo_findRound_105, fFo_findRound_111, bFo_findRound_0, bFo_findRound_20, bFo_findRound_21, bFo_findRound_29, bFo_findRound_37, bFo_findRound_53, bFo_findRound_60, bFo_findRound_91, bFo_findRound_105, bFo_findRound_111, ln_xformerGrades, rg_xforesight_0, rg_xforesight_1, rg_xforesight_2, ty_xaqueduct, ty_xforesight, ty_xformerGrades, ty_xftrial, Option.toList_some, Option.toList_none, List.cons_append, List.nil_append, List.length_cons, List.length_nil, List.mem_cons, List.not_mem_nil, or_false, false_or, or_true, true_or, ↓reduceIte, true_and, and_true, Nat.reduceEqDiff, Nat.reduceAdd, Nat.reduceLeDiff, Nat.reduceLT, dl_i, dl_r, dl_n, dl_u, eq_self, not_true_eq_false, not_false_eq_true, n10, n01, nm0, n0m, c1, imp_t, imp_f]
        refine call0 (x_day hG hAL (Or.inl rfl) hD (by omega) hIL (fun M' d1 d2 d3 d4 => ?_))
        have d5 : DyS S P 48 (n + (k + 1)) (it2 I S.1.1 S.1.2 P (I 500124, x) (k + 1)) M' := d4
        have d6 := d5.1
        rw [it2_pe hP, gR_of rfl, ← hg] at d6
        simp only [ixr_of, run_s, run_0, rFo_findRound, rok_i, rok_z, bx_cons, bx_nil, eALEN, eC0, eC1, eCV0, eCV1, eCV2, eCm1, eGO, eGR, jICeq, jICgt, jIFeq, jIFne, eINC3, eLA0, eLA1, eLDC, eLI2, eLI3, eLI4, eNAI, ePI, ePOPi, ePR, eRV, eSI2, eSI3, eSI4, eSP, eSUB, fFo_findRound_0, fFo_findRound_20, fFo_findRound_21, fFo_findRound_29, fFo_findRound_37, fFo_findRound_53, fFo_findRound_60, fFo_findRound_91, fFo_findRound_105, fFo_findRound_111, bFo_findRound_0, bFo_findRound_20, bFo_findRound_21, bFo_findRound_29, bFo_findRound_37, bFo_findRound_53, bFo_findRound_60, bFo_findRound_91, bFo_findRound_105, bFo_findRound_111, ln_xformerGrades, rg_xforesight_0, rg_xforesight_1, rg_xforesight_2, ty_xaqueduct, ty_xforesight, ty_xformerGrades, ty_xftrial, Option.toList_some, Option.toList_none, List.cons_append, List.nil_append, List.length_cons, List.length_nil, List.mem_cons, List.not_mem_nil, or_false, false_or, or_true, true_or, ↓reduceIte, true_and, and_true, Nat.reduceEqDiff, Nat.reduceAdd, Nat.reduceLeDiff, Nat.reduceLT, dl_i, dl_r, dl_n, dl_u, eq_self, not_true_eq_false, not_false_eq_true, n10, n01, nm0, n0m, imp_t, imp_f]
        refine call0 (x_writeRow (k := k + 1) d2.1 d6.1 d6.2.1 (by omega) r1 r2 r3 hq (by omega) (fun N n1 n2 => ?_))
        have hw := n2.d hS d6
        have eMq : M' q = L q := d1 q (by omega) (by omega) (idV_n (by omega))
        have hXN : XR q J N := (hXL.tr d1.r).tr (fun i _ _ _ hi => n1 i hi)
        have N47 : N 47 = L 47 := by rw [n1 47 (by omega), d1 47 (by decide) (by decide) (idV_n (by decide))]
        have hAN : TwR b N F S PS t op := hAF.xr hq (fun i a c e f => by rw [hXN i a c e f, hX i a c e f])
        have hRwN : ∀ j, j ≤ k + 1 → RWd (N q) (j * 405) S (g j) ∧ ZA (g j) S.1.1 := by
          intro j hj
          by_cases e : j = k + 1
          · rw [e]; exact ⟨hw, d6.2.2.2.2.1⟩
          · refine ⟨(hRw j (by omega)).1.mv hS (fun i hi => ?_), (hRw j (by omega)).2⟩
            rw [n2.1 i (by omega), eMq]
        have hIN : SayT I N := d3.tr (fun i hi => n1 i (by unfold tw at hi; omega))
        have hDN : DyS S P 48 (n + (k + 1)) (it2 I S.1.1 S.1.2 P (I 500124, x) (k + 1)) N := by
          obtain ⟨z1, z2, z3, z4⟩ := d5
          have e8 : ∀ i, 48 ≤ i → i < 56 → N i = M' i := fun i a c => n1 i (by omega)
          refine ⟨z1.cg s9 (fun k _ => by rw [e8 48 (by omega) (by omega)]) (fun k _ => by rw [e8 49 (by omega) (by omega)]) (fun k _ => by rw [e8 50 (by omega) (by omega)]) (fun k _ => by rw [e8 51 (by omega) (by omega)]) (fun k _ => by rw [e8 52 (by omega) (by omega)]) (fun k _ => by rw [e8 53 (by omega) (by omega)]) (fun k _ => by rw [e8 55 (by omega) (by omega)]), by rw [e8 48 (by omega) (by omega)]; exact z2, ?_, ?_⟩
          · rw [← z3]
            unfold PmD plX coX
            rw [e8 48 (by omega) (by omega), e8 (48 + 6) (by omega) (by omega)]
          · unfold PmV at z4 ⊢
            rw [e8 48 (by omega) (by omega), e8 (48 + 6) (by omega) (by omega)]
            exact z4
        have hlike : ∀ o, o < k + 1 → (eqW (N q) (ofR S S.1.1) o (k + 1) ↔ asP I S.1.1 (g (k + 1)) (g o)) := by
          intro o ho
          have h3 := as_eq hS hMI (hRwN (k + 1) (Nat.le_refl _)).1 (hRwN o (by omega)).1 (hRwN (k + 1) (Nat.le_refl _)).2 (hRwN o (by omega)).2
          rw [← h3]
          exact ⟨fun c i hi => (c i hi).symm, fun c i hi => (c i hi).symm⟩
        simp only [ixr_of, run_s, run_0, rFo_findRound, rok_i, rok_z, bx_cons, bx_nil, eALEN, eC0, eC1, eCV0, eCV1, eCV2, eCm1, eGO, eGR, jICeq, jICgt, jIFeq, jIFne, eINC3, eLA0, eLA1, eLDC, eLI2, eLI3, eLI4, eNAI, ePI, ePOPi, ePR, eRV, eSI2, eSI3, eSI4, eSP, eSUB, fFo_findRound_0, fFo_findRound_20, fFo_findRound_21, fFo_findRound_29, fFo_findRound_37, fFo_findRound_53, fFo_findRound_60, fFo_findRound_91, fFo_findRound_105, fFo_findRound_111, bFo_findRound_0, bFo_findRound_20, bFo_findRound_21, bFo_findRound_29, bFo_findRound_37, bFo_findRound_53, bFo_findRound_60, bFo_findRound_91, bFo_findRound_105, bFo_findRound_111, ln_xformerGrades, rg_xforesight_0, rg_xforesight_1, rg_xforesight_2, ty_xaqueduct, ty_xforesight, ty_xformerGrades, ty_xftrial, Option.toList_some, Option.toList_none, List.cons_append, List.nil_append, List.length_cons, List.length_nil, List.mem_cons, List.not_mem_nil, or_false, false_or, or_true, true_or, ↓reduceIte, true_and, and_true, Nat.reduceEqDiff, Nat.reduceAdd, Nat.reduceLeDiff, Nat.reduceLT, dl_i, dl_r, dl_n, dl_u, eq_self, not_true_eq_false, not_false_eq_true, n10, n01, nm0, n0m, imp_t, imp_f]
        refine call0 (x_rowLike r1 r2 r3 (by omega) hof (fun o o1 o2 o3 => ?_) (fun o0 => ?_))
        · have c2 : (nI o = -1) = False := eq_false (m1_n (by omega))
          have e1 : nI (k + 1) - nI o = nI (k + 1 - o) := nI_sb (by omega)
          simp only [ixr_of, run_s, run_0, rFo_findRound, rok_i, rok_z, bx_cons, bx_nil, eALEN, eC0, eC1, eCV0, eCV1, eCV2, eCm1, eGO, eGR, jICeq, jICgt, jIFeq, jIFne, eINC3, eLA0, eLA1, eLDC, eLI2, eLI3, eLI4, eNAI, ePI, ePOPi, ePR, eRV, eSI2, eSI3, eSI4, eSP, eSUB, fFo_findRound_0, fFo_findRound_20, fFo_findRound_21, fFo_findRound_29, fFo_findRound_37, fFo_findRound_53, fFo_findRound_60, fFo_findRound_91, fFo_findRound_105, fFo_findRound_111, bFo_findRound_0, bFo_findRound_20, bFo_findRound_21, bFo_findRound_29, bFo_findRound_37, bFo_findRound_53, bFo_findRound_60, bFo_findRound_91, bFo_findRound_105, bFo_findRound_111, ln_xformerGrades, rg_xforesight_0, rg_xforesight_1, rg_xforesight_2, ty_xaqueduct, ty_xforesight, ty_xformerGrades, ty_xftrial, Option.toList_some, Option.toList_none, List.cons_append, List.nil_append, List.length_cons, List.length_nil, List.mem_cons, List.not_mem_nil, or_false, false_or, or_true, true_or, ↓reduceIte, true_and, and_true, Nat.reduceEqDiff, Nat.reduceAdd, Nat.reduceLeDiff, Nat.reduceLT, dl_i, dl_r, dl_n, dl_u, eq_self, not_true_eq_false, not_false_eq_true, n10, n01, nm0, n0m, c2, e1, imp_t, imp_f]
          refine h2 hno _ F q ((hXN.tr XR.f).tr XR.f) hRF hq hqq hE h9F (Or.inl ⟨k + 1, o, by omega, o1, ?_, fun m' hm' => ?_, fun n' m' hn' hm' => ?_, ?_, ?_⟩)
          · rw [← hg]; exact (hlike o o1).mp o2
          · rw [← hg]; exact fun c => o3 m' hm' ((hlike m' (by omega)).mpr c)
          · rw [← hg]; exact hno2 n' m' (by omega) hm'
          · rw [up_n (by omega), up_s]
          · rw [up_s]
        · have c2 : ((-1 : Int32) = -1) = True := eq_true rfl
          simp only [ixr_of, run_s, run_0, rFo_findRound, rok_i, rok_z, bx_cons, bx_nil, eALEN, eC0, eC1, eCV0, eCV1, eCV2, eCm1, eGO, eGR, jICeq, jICgt, jIFeq, jIFne, eINC3, eLA0, eLA1, eLDC, eLI2, eLI3, eLI4, eNAI, ePI, ePOPi, ePR, eRV, eSI2, eSI3, eSI4, eSP, eSUB, fFo_findRound_0, fFo_findRound_20, fFo_findRound_21, fFo_findRound_29, fFo_findRound_37, fFo_findRound_53, fFo_findRound_60, fFo_findRound_91, fFo_findRound_105, fFo_findRound_111, bFo_findRound_0, bFo_findRound_20, bFo_findRound_21, bFo_findRound_29, bFo_findRound_37, bFo_findRound_53, bFo_findRound_60, bFo_findRound_91, bFo_findRound_105, bFo_findRound_111, ln_xformerGrades, rg_xforesight_0, rg_xforesight_1, rg_xforesight_2, ty_xaqueduct, ty_xforesight, ty_xformerGrades, ty_xftrial, Option.toList_some, Option.toList_none, List.cons_append, List.nil_append, List.length_cons, List.length_nil, List.mem_cons, List.not_mem_nil, or_false, false_or, or_true, true_or, ↓reduceIte, true_and, and_true, Nat.reduceEqDiff, Nat.reduceAdd, Nat.reduceLeDiff, Nat.reduceLT, dl_i, dl_r, dl_n, dl_u, eq_self, not_true_eq_false, not_false_eq_true, n10, n01, nm0, n0m, c2, nI_add, imp_t, imp_f]
          refine ih (k + 1) P x N _ (by omega) hXN (by rw [N47]; exact l4) (by rw [N47]; exact l5) hAN hIN hP hDN hRwN (fun n' m' hn' hm' => ?_)
          by_cases e : n' = k + 1
          · rw [e] at hm' ⊢
            exact fun c => o0 m' hm' ((hlike m' hm').mpr c)
          · exact hno2 n' m' (by omega) hm'
    refine hgo 20 [37, 53] 37 _ _ _ _ _ ?_
    simp only [ixr_of, run_s, run_0, rFo_findRound, rok_i, rok_z, bx_cons, bx_nil, eALEN, eC0, eC1, eCV0, eCV1, eCV2, eCm1, eGO, eGR, jICeq, jICgt, jIFeq, jIFne, eINC3, eLA0, eLA1, eLDC, eLI2, eLI3, eLI4, eNAI, ePI, ePOPi, ePR, eRV, eSI2, eSI3, eSI4, eSP, eSUB, fFo_findRound_0, fFo_findRound_20, fFo_findRound_21, fFo_findRound_29, fFo_findRound_37, fFo_findRound_53, fFo_findRound_60, fFo_findRound_91, fFo_findRound_105, fFo_findRound_111, bFo_findRound_0, bFo_findRound_20, bFo_findRound_21, bFo_findRound_29, bFo_findRound_37, bFo_findRound_53, bFo_findRound_60, bFo_findRound_91, bFo_findRound_105, bFo_findRound_111, ln_xformerGrades, rg_xforesight_0, rg_xforesight_1, rg_xforesight_2, ty_xaqueduct, ty_xforesight, ty_xformerGrades, ty_xftrial, Option.toList_some, Option.toList_none, List.cons_append, List.nil_append, List.length_cons, List.length_nil, List.mem_cons, List.not_mem_nil, or_false, false_or, or_true, true_or, ↓reduceIte, true_and, and_true, Nat.reduceEqDiff, Nat.reduceAdd, Nat.reduceLeDiff, Nat.reduceLT, dl_i, dl_r, dl_n, dl_u, eq_self, not_true_eq_false, not_false_eq_true, n10, n01, nm0, n0m, imp_t, imp_f]
    refine call0 (x_copyFrom dyA_48 dyA_71 (by decide) (fun L hL => ?_))
    have hXL := hL.xf
    have hQ := hNK.2.cp s9 hL
    have hA2 := hAF.xf (Or.inl rfl) hXL
    simp only [ixr_of, run_s, run_0, rFo_findRound, rok_i, rok_z, bx_cons, bx_nil, eALEN, eC0, eC1, eCV0, eCV1, eCV2, eCm1, eGO, eGR, jICeq, jICgt, jIFeq, jIFne, eINC3, eLA0, eLA1, eLDC, eLI2, eLI3, eLI4, eNAI, ePI, ePOPi, ePR, eRV, eSI2, eSI3, eSI4, eSP, eSUB, fFo_findRound_0, fFo_findRound_20, fFo_findRound_21, fFo_findRound_29, fFo_findRound_37, fFo_findRound_53, fFo_findRound_60, fFo_findRound_91, fFo_findRound_105, fFo_findRound_111, bFo_findRound_0, bFo_findRound_20, bFo_findRound_21, bFo_findRound_29, bFo_findRound_37, bFo_findRound_53, bFo_findRound_60, bFo_findRound_91, bFo_findRound_105, bFo_findRound_111, ln_xformerGrades, rg_xforesight_0, rg_xforesight_1, rg_xforesight_2, ty_xaqueduct, ty_xforesight, ty_xformerGrades, ty_xftrial, Option.toList_some, Option.toList_none, List.cons_append, List.nil_append, List.length_cons, List.length_nil, List.mem_cons, List.not_mem_nil, or_false, false_or, or_true, true_or, ↓reduceIte, true_and, and_true, Nat.reduceEqDiff, Nat.reduceAdd, Nat.reduceLeDiff, Nat.reduceLT, dl_i, dl_r, dl_n, dl_u, eq_self, not_true_eq_false, not_false_eq_true, n10, n01, nm0, n0m, imp_t, imp_f]
    refine call0 (x_writeRow (k := 0) hA2.1 hQ.1.1 hQ.1.2.1 (by omega) r1 r2 r3 hq (by omega) (fun N n1 n2 => ?_))
    have hw := n2.d hS hQ.1
    have hXN : XR q J N := (hX.tr hXL.r).tr (fun i _ _ _ hi => n1 i hi)
    have N47 : N 47 = K 47 := by rw [n1 47 (by omega), hXL 47 (by decide) (by decide) (idV_n (by decide))]
    have hAN : TwR b N F S PS t op := hAF.xr hq (fun i a c e f => by rw [hXN i a c e f, hX i a c e f])
    have hQN : NQ N 48 S n (I 500124) (I 500000 37) (I 500000 38) (I 500123) := hQ.mv s9 (fun i a c => n1 i (by omega))
    have hIN : SayT I N := hNK.1.tr ((hXL.t (Or.inl rfl)).tr (fun i hi => n1 i (by unfold tw at hi; omega)))
    simp only [ixr_of, run_s, run_0, rFo_findRound, rok_i, rok_z, bx_cons, bx_nil, eALEN, eC0, eC1, eCV0, eCV1, eCV2, eCm1, eGO, eGR, jICeq, jICgt, jIFeq, jIFne, eINC3, eLA0, eLA1, eLDC, eLI2, eLI3, eLI4, eNAI, ePI, ePOPi, ePR, eRV, eSI2, eSI3, eSI4, eSP, eSUB, fFo_findRound_0, fFo_findRound_20, fFo_findRound_21, fFo_findRound_29, fFo_findRound_37, fFo_findRound_53, fFo_findRound_60, fFo_findRound_91, fFo_findRound_105, fFo_findRound_111, bFo_findRound_0, bFo_findRound_20, bFo_findRound_21, bFo_findRound_29, bFo_findRound_37, bFo_findRound_53, bFo_findRound_60, bFo_findRound_91, bFo_findRound_105, bFo_findRound_111, ln_xformerGrades, rg_xforesight_0, rg_xforesight_1, rg_xforesight_2, ty_xaqueduct, ty_xforesight, ty_xformerGrades, ty_xftrial, Option.toList_some, Option.toList_none, List.cons_append, List.nil_append, List.length_cons, List.length_nil, List.mem_cons, List.not_mem_nil, or_false, false_or, or_true, true_or, ↓reduceIte, true_and, and_true, Nat.reduceEqDiff, Nat.reduceAdd, Nat.reduceLeDiff, Nat.reduceLT, dl_i, dl_r, dl_n, dl_u, eq_self, not_true_eq_false, not_false_eq_true, n10, n01, nm0, n0m, imp_t, imp_f]
    have g0 : g 0 = I 500124 := by rw [hg]; rfl
    refine days 200 0 _ (N 48 16) N _ (by omega) hXN (by rw [N47]; exact k4) (by rw [N47]; exact k5) hAN hIN (hQN.pe hS hMI (fun v _ => rfl)) (hQN.s hS) (fun j hj => ?_) (fun n' m' a c => absurd c (by omega))
    have : j = 0 := by omega
    subst this
    rw [g0]
    exact ⟨hw, hQ.1.2.2.2.2.1⟩
  obtain ⟨r1, r2, r3⟩ := id hR
  refine hgo 20 [37, 53] 0 _ _ _ _ _ ?_
  simp only [ixr_of, run_s, run_0, rFo_findRound, rok_i, rok_z, bx_cons, bx_nil, eALEN, eC0, eC1, eCV0, eCV1, eCV2, eCm1, eGO, eGR, jICeq, jICgt, jIFeq, jIFne, eINC3, eLA0, eLA1, eLDC, eLI2, eLI3, eLI4, eNAI, ePI, ePOPi, ePR, eRV, eSI2, eSI3, eSI4, eSP, eSUB, fFo_findRound_0, fFo_findRound_20, fFo_findRound_21, fFo_findRound_29, fFo_findRound_37, fFo_findRound_53, fFo_findRound_60, fFo_findRound_91, fFo_findRound_105, fFo_findRound_111, bFo_findRound_0, bFo_findRound_20, bFo_findRound_21, bFo_findRound_29, bFo_findRound_37, bFo_findRound_53, bFo_findRound_60, bFo_findRound_91, bFo_findRound_105, bFo_findRound_111, ln_xformerGrades, rg_xforesight_0, rg_xforesight_1, rg_xforesight_2, ty_xaqueduct, ty_xforesight, ty_xformerGrades, ty_xftrial, Option.toList_some, Option.toList_none, List.cons_append, List.nil_append, List.length_cons, List.length_nil, List.mem_cons, List.not_mem_nil, or_false, false_or, or_true, true_or, ↓reduceIte, true_and, and_true, Nat.reduceEqDiff, Nat.reduceAdd, Nat.reduceLeDiff, Nat.reduceLT, dl_i, dl_r, dl_n, dl_u, eq_self, not_true_eq_false, not_false_eq_true, n10, n01, nm0, n0m, imp_t, imp_f]
  have hX0 : XR 1000000 J (up (up J 47 4 (-1)) 47 5 (-1)) := XR.f.tr XR.f
  have hA0 := hA.xr (Nat.le_refl _) hX0
  have e4 : up (up J 47 4 (-1)) 47 5 (-1) 47 4 = -1 := by rw [up_n (by omega), up_s]
  have e5 : up (up J 47 4 (-1)) 47 5 (-1) 47 5 = -1 := up_s
  have eo : ∀ i, i ≠ 47 → up (up J 47 4 (-1)) 47 5 (-1) i = J i := fun i hi => by funext k; rw [up_n (by omega), up_n (by omega)]
  generalize up (up J 47 4 (-1)) 47 5 (-1) = K0 at *
  refine call0 (x_asksDay hA0.1 (fun ha => ?_) (fun ha => ?_))
  · simp only [ixr_of, run_s, run_0, rFo_findRound, rok_i, rok_z, bx_cons, bx_nil, eALEN, eC0, eC1, eCV0, eCV1, eCV2, eCm1, eGO, eGR, jICeq, jICgt, jIFeq, jIFne, eINC3, eLA0, eLA1, eLDC, eLI2, eLI3, eLI4, eNAI, ePI, ePOPi, ePR, eRV, eSI2, eSI3, eSI4, eSP, eSUB, fFo_findRound_0, fFo_findRound_20, fFo_findRound_21, fFo_findRound_29, fFo_findRound_37, fFo_findRound_53, fFo_findRound_60, fFo_findRound_91, fFo_findRound_105, fFo_findRound_111, bFo_findRound_0, bFo_findRound_20, bFo_findRound_21, bFo_findRound_29, bFo_findRound_37, bFo_findRound_53, bFo_findRound_60, bFo_findRound_91, bFo_findRound_105, bFo_findRound_111, ln_xformerGrades, rg_xforesight_0, rg_xforesight_1, rg_xforesight_2, ty_xaqueduct, ty_xforesight, ty_xformerGrades, ty_xftrial, Option.toList_some, Option.toList_none, List.cons_append, List.nil_append, List.length_cons, List.length_nil, List.mem_cons, List.not_mem_nil, or_false, false_or, or_true, true_or, ↓reduceIte, true_and, and_true, Nat.reduceEqDiff, Nat.reduceAdd, Nat.reduceLeDiff, Nat.reduceLT, dl_i, dl_r, dl_n, dl_u, eq_self, not_true_eq_false, not_false_eq_true, n10, n01, nm0, n0m, imp_t, imp_f]
    exact h1 ha K0 hX0 (fun i hi => eo i (by omega)) e4 e5
  · simp only [ixr_of, run_s, run_0, rFo_findRound, rok_i, rok_z, bx_cons, bx_nil, eALEN, eC0, eC1, eCV0, eCV1, eCV2, eCm1, eGO, eGR, jICeq, jICgt, jIFeq, jIFne, eINC3, eLA0, eLA1, eLDC, eLI2, eLI3, eLI4, eNAI, ePI, ePOPi, ePR, eRV, eSI2, eSI3, eSI4, eSP, eSUB, fFo_findRound_0, fFo_findRound_20, fFo_findRound_21, fFo_findRound_29, fFo_findRound_37, fFo_findRound_53, fFo_findRound_60, fFo_findRound_91, fFo_findRound_105, fFo_findRound_111, bFo_findRound_0, bFo_findRound_20, bFo_findRound_21, bFo_findRound_29, bFo_findRound_37, bFo_findRound_53, bFo_findRound_60, bFo_findRound_91, bFo_findRound_105, bFo_findRound_111, ln_xformerGrades, rg_xforesight_0, rg_xforesight_1, rg_xforesight_2, ty_xaqueduct, ty_xforesight, ty_xformerGrades, ty_xftrial, Option.toList_some, Option.toList_none, List.cons_append, List.nil_append, List.length_cons, List.length_nil, List.mem_cons, List.not_mem_nil, or_false, false_or, or_true, true_or, ↓reduceIte, true_and, and_true, Nat.reduceEqDiff, Nat.reduceAdd, Nat.reduceLeDiff, Nat.reduceLT, dl_i, dl_r, dl_n, dl_u, eq_self, not_true_eq_false, not_false_eq_true, n10, n01, nm0, n0m, r1, r2, imp_t, imp_f]
    rcases r3 with e57 | ⟨hq, hl⟩
    · subst e57
      have l57 : len (shB b) E 57 = 0 := ln_xrows0
      obtain ⟨m1, m2⟩ := hM ha rfl
      rw [l57]
      refine ⟨fun z => absurd rfl z, fun _ => ?_⟩
      refine ⟨81405, rfl, by decide, by simpa using m1, by simpa using m2, fun a hsz hg => ⟨1000000 + a, by omega, ?_, fun h0 => ?_⟩⟩
      · unfold ad
        rw [if_neg (by omega), if_neg (by omega)]
        omega
      · have hE1 : EX b (fun a j => a = 47 ∧ j = 3) E (mkE E (1000000 + a) 101 81405 (a + 2)) := EX.mk h0 h9E
        have ty47 : tyc (shB b) (mkE E (1000000 + a) 101 81405 (a + 2)) 47 = 5 := by rw [(hE1.2 47 (by rw [ty_xforesight]; decide)).1]; exact ty_xforesight
        have tyn : tyc (shB b) (mkE E (1000000 + a) 101 81405 (a + 2)) (1000000 + a) = 101 := tyc_mk h0
        have lnn : len (shB b) (mkE E (1000000 + a) 101 81405 (a + 2)) (1000000 + a) = 81405 := len_mk h0 (by omega)
        have h9n : tyc (shB b) (mkE E (1000000 + a) 101 81405 (a + 2)) 999999 = 0 := by rw [tyc_mk_n (by omega)]; exact h9E
        simp only [ixr_of, run_s, run_0, rFo_findRound, rok_i, rok_z, bx_cons, bx_nil, eALEN, eC0, eC1, eCV0, eCV1, eCV2, eCm1, eGO, eGR, jICeq, jICgt, jIFeq, jIFne, eINC3, eLA0, eLA1, eLDC, eLI2, eLI3, eLI4, eNAI, ePI, ePOPi, ePR, eRV, eSI2, eSI3, eSI4, eSP, eSUB, fFo_findRound_0, fFo_findRound_20, fFo_findRound_21, fFo_findRound_29, fFo_findRound_37, fFo_findRound_53, fFo_findRound_60, fFo_findRound_91, fFo_findRound_105, fFo_findRound_111, bFo_findRound_0, bFo_findRound_20, bFo_findRound_21, bFo_findRound_29, bFo_findRound_37, bFo_findRound_53, bFo_findRound_60, bFo_findRound_91, bFo_findRound_105, bFo_findRound_111, ln_xformerGrades, rg_xforesight_0, rg_xforesight_1, rg_xforesight_2, ty_xaqueduct, ty_xforesight, ty_xformerGrades, ty_xftrial, Option.toList_some, Option.toList_none, List.cons_append, List.nil_append, List.length_cons, List.length_nil, List.mem_cons, List.not_mem_nil, or_false, false_or, or_true, true_or, ↓reduceIte, true_and, and_true, Nat.reduceEqDiff, Nat.reduceAdd, Nat.reduceLeDiff, Nat.reduceLT, dl_i, dl_r, dl_n, dl_u, eq_self, not_true_eq_false, not_false_eq_true, n10, n01, nm0, n0m, ty47, tyn, imp_t, imp_f]
        generalize mkE E (1000000 + a) 101 81405 (a + 2) = F at *
        refine ⟨rfl, main _ (1000000 + a) _ _ ha ?_ ?_ ?_ (upR_r rfl) tyn lnn (by omega) (Or.inr ⟨rfl, h0⟩) (hE1.tr (EX.up ⟨rfl, rfl⟩)) h9n⟩
        · intro i a1 a2 a3 a4
          rw [zr_n a4]
          exact eo i (by omega)
        · rw [zr_n (by omega)]; exact e4
        · rw [zr_n (by omega)]; exact e5
    · rw [hl]
      refine ⟨fun _ => ?_, fun z => absurd z (by decide)⟩
      exact main E rw' K0 _ ha (fun i a1 a2 a3 _ => eo i (by omega)) e4 e5 r1 r2 hl hq (Or.inl rfl) EX.rf h9E
end XQm
