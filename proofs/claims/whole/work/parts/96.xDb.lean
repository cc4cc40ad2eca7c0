/-! contracts of the class, 25: the first day -/
def dgR (wr : Nat → Int32) (nV : Nat) : Nat → Nat → Int32
  | 0 => fun _ => nI 0
  | v + 1 => ru (dgR wr nV v) (v * (1 + 3 * nV)) (wr v)
/-- days begun -/
def BgD (J K : Iv) (y t nV : Nat) (lg : Nat → Nat) : Prop := (∀ i, ¬ (y ≤ i ∧ i < y + 8) → K i = J i) ∧ (K y 7 = nI nV ∧ K y 8 = nI (1 + 3 * nV) ∧ K y 9 = nI 0 ∧ K y 10 = nI 0 ∧ K y 11 = nI 0 ∧ K y 12 = nI 0 ∧ K y 13 = nI 0 ∧ K y 14 = -1 ∧ K y 15 = nI 0 ∧ K y 16 = nI 0 ∧ K y 17 = nI 0) ∧ K (y + 1) = dgR (J (t + 1)) nV nV ∧
  (∀ v, v < nV → 0 < lg v → K (y + 2) (pcl 0 v) = waD K y nV v ∧ ∀ h, h < 3 → K (y + 2) (pcl 0 v + 1 + h) = hbD K y nV v h) ∧ ∀ j, 3 ≤ j → j < 8 → K (y + j) = fun _ => nI 0
section XDb
variable {Γ : Gm} {l : Launch} {sh : Sh} {d : Nat} {J : Iv} {E : Ev} {kr : Kr} {kx : Kxx} {y nV : Nat}
theorem x_dbegin {t : Nat} {lg : Nat → Nat} (hA : DyA sh E y) (hT : TnA sh E t) (h10 : J t 10 = nI nV) (h9 : nV ≤ 9) (hlg : ∀ v, v < nV → lg v ≤ 5 ∧ J (t + 4) v = nI (lg v)) (hty : t + 10 < y ∨ y + 8 ≤ t) (hk : ∀ K, BgD J K y t nV lg → kr none K E) : Ex Γ l sh (d + 4) (0, 0) mDy_begin [.ref y, .ref t] J E kr kx := by
  refine ex_of (ls0 := [some (.ref y), some (.ref t), none]) tDy_begin (by decide +kernel) kDy_begin rfl (Nat.le_of_ble_eq_true rfl) rfl ?_
  intro go hgo
  have hA0 := hA
  obtain ⟨ht, ⟨q0, q1, q2, q3, q4, q5, q6⟩, ⟨t1, t2, t3, t4, t5, t6, t7⟩, l1, l2, l3, l4, l5, l6, l7⟩ := hA
  have hT0 := hT
  obtain ⟨ty, tn⟩ := hT
  obtain ⟨g0, g0t, g0l⟩ := tn 0 (by decide)
  have g0' : rget sh E t 0 = .ref (t + 1) := g0
  have g0t' : tyc sh E (t + 1) = 101 := g0t
  have g0l' : len sh E (t + 1) = 9 := g0l
  have u7 : ∀ (I : Iv) (x : Int32), up I y 7 x y 7 = x := fun I x => up_s
  have ut : ∀ (I : Iv) (j : Nat) (x : Int32), up I y j x t 10 = I t 10 := fun I j x => up_n (by omega)
  refine hgo 20 [123] 0 _ _ _ _ _ ?_
  simp only [ixr_of, run_s, run_0, rDy_begin, rok_i, rok_z, bx_cons, bx_nil, eADD, eC0, eC1, eC3, eCS2, eCV1, eCm1, eGI, eGO, eGR, eIALD, eIAST, jICge, eINC2, eLA0, eLA1, eLI2, eMUL, ePI, eRV, eSI2, fDy_begin_0, fDy_begin_123, fDy_begin_131, fDy_begin_154, bDy_begin_0, bDy_begin_123, bDy_begin_131, bDy_begin_154, Option.toList_some, Option.toList_none, List.cons_append, List.nil_append, List.length_cons, List.length_nil, List.mem_cons, List.not_mem_nil, or_false, false_or, or_true, true_or, ↓reduceIte, true_and, and_true, Nat.reduceEqDiff, Nat.reduceAdd, Nat.reduceLeDiff, Nat.reduceLT, dl_i, dl_r, dl_n, dl_u, eq_self, not_true_eq_false, not_false_eq_true, n10, n01, nm0, n0m, ht, ty, h10, u7, ut, nI_ml, nI_add, q0, imp_t, imp_f]
  have hJ1 : ∀ i, i ≠ y → (up (up (up (up (up (up (up (up (up (up (up J y 7 (nI nV)) y 8 (nI (1 + 3 * nV))) y 9 (nI 0)) y 10 (nI 0)) y 11 (nI 0)) y 12 (nI 0)) y 13 (nI 0)) y 14 (-1)) y 15 (nI 0)) y 16 (nI 0)) y 17 (nI 0)) i = J i := by
    intro i hi
    funext k
    iterate 11 rw [up_n (by omega)]
  have hJ7 : (up (up (up (up (up (up (up (up (up (up (up J y 7 (nI nV)) y 8 (nI (1 + 3 * nV))) y 9 (nI 0)) y 10 (nI 0)) y 11 (nI 0)) y 12 (nI 0)) y 13 (nI 0)) y 14 (-1)) y 15 (nI 0)) y 16 (nI 0)) y 17 (nI 0)) y = fun k => if k = 17 then nI 0 else if k = 16 then nI 0 else if k = 15 then nI 0 else if k = 14 then -1 else if k = 13 then nI 0 else if k = 12 then nI 0 else if k = 11 then nI 0 else if k = 10 then nI 0 else if k = 9 then nI 0 else if k = 8 then nI (1 + 3 * nV) else if k = 7 then nI nV else J y k := by
    funext k
    simp only [up, true_and]
  generalize up (up (up (up (up (up (up (up (up (up (up J y 7 (nI nV)) y 8 (nI (1 + 3 * nV))) y 9 (nI 0)) y 10 (nI 0)) y 11 (nI 0)) y 12 (nI 0)) y 13 (nI 0)) y 14 (-1)) y 15 (nI 0)) y 16 (nI 0)) y 17 (nI 0) = J1 at hJ1 hJ7 ⊢
  refine call0 (x_fill t1 (by rw [l1]; decide) ?_)
  simp only [ixr_of, run_s, run_0, rDy_begin, rok_i, rok_z, bx_cons, bx_nil, eADD, eC0, eC1, eC3, eCS2, eCV1, eCm1, eGI, eGO, eGR, eIALD, eIAST, jICge, eINC2, eLA0, eLA1, eLI2, eMUL, ePI, eRV, eSI2, fDy_begin_0, fDy_begin_123, fDy_begin_131, fDy_begin_154, bDy_begin_0, bDy_begin_123, bDy_begin_131, bDy_begin_154, Option.toList_some, Option.toList_none, List.cons_append, List.nil_append, List.length_cons, List.length_nil, List.mem_cons, List.not_mem_nil, or_false, false_or, or_true, true_or, ↓reduceIte, true_and, and_true, Nat.reduceEqDiff, Nat.reduceAdd, Nat.reduceLeDiff, Nat.reduceLT, dl_i, dl_r, dl_n, dl_u, eq_self, not_true_eq_false, not_false_eq_true, n10, n01, nm0, n0m, ht, q1, imp_t, imp_f]
  refine call0 (x_fill t2 (by rw [l2]; decide) ?_)
  simp only [ixr_of, run_s, run_0, rDy_begin, rok_i, rok_z, bx_cons, bx_nil, eADD, eC0, eC1, eC3, eCS2, eCV1, eCm1, eGI, eGO, eGR, eIALD, eIAST, jICge, eINC2, eLA0, eLA1, eLI2, eMUL, ePI, eRV, eSI2, fDy_begin_0, fDy_begin_123, fDy_begin_131, fDy_begin_154, bDy_begin_0, bDy_begin_123, bDy_begin_131, bDy_begin_154, Option.toList_some, Option.toList_none, List.cons_append, List.nil_append, List.length_cons, List.length_nil, List.mem_cons, List.not_mem_nil, or_false, false_or, or_true, true_or, ↓reduceIte, true_and, and_true, Nat.reduceEqDiff, Nat.reduceAdd, Nat.reduceLeDiff, Nat.reduceLT, dl_i, dl_r, dl_n, dl_u, eq_self, not_true_eq_false, not_false_eq_true, n10, n01, nm0, n0m, ht, q2, imp_t, imp_f]
  refine call0 (x_fill t3 (by rw [l3]; decide) ?_)
  simp only [ixr_of, run_s, run_0, rDy_begin, rok_i, rok_z, bx_cons, bx_nil, eADD, eC0, eC1, eC3, eCS2, eCV1, eCm1, eGI, eGO, eGR, eIALD, eIAST, jICge, eINC2, eLA0, eLA1, eLI2, eMUL, ePI, eRV, eSI2, fDy_begin_0, fDy_begin_123, fDy_begin_131, fDy_begin_154, bDy_begin_0, bDy_begin_123, bDy_begin_131, bDy_begin_154, Option.toList_some, Option.toList_none, List.cons_append, List.nil_append, List.length_cons, List.length_nil, List.mem_cons, List.not_mem_nil, or_false, false_or, or_true, true_or, ↓reduceIte, true_and, and_true, Nat.reduceEqDiff, Nat.reduceAdd, Nat.reduceLeDiff, Nat.reduceLT, dl_i, dl_r, dl_n, dl_u, eq_self, not_true_eq_false, not_false_eq_true, n10, n01, nm0, n0m, ht, q3, imp_t, imp_f]
  refine call0 (x_fill t4 (by rw [l4]; decide) ?_)
  simp only [ixr_of, run_s, run_0, rDy_begin, rok_i, rok_z, bx_cons, bx_nil, eADD, eC0, eC1, eC3, eCS2, eCV1, eCm1, eGI, eGO, eGR, eIALD, eIAST, jICge, eINC2, eLA0, eLA1, eLI2, eMUL, ePI, eRV, eSI2, fDy_begin_0, fDy_begin_123, fDy_begin_131, fDy_begin_154, bDy_begin_0, bDy_begin_123, bDy_begin_131, bDy_begin_154, Option.toList_some, Option.toList_none, List.cons_append, List.nil_append, List.length_cons, List.length_nil, List.mem_cons, List.not_mem_nil, or_false, false_or, or_true, true_or, ↓reduceIte, true_and, and_true, Nat.reduceEqDiff, Nat.reduceAdd, Nat.reduceLeDiff, Nat.reduceLT, dl_i, dl_r, dl_n, dl_u, eq_self, not_true_eq_false, not_false_eq_true, n10, n01, nm0, n0m, ht, q4, imp_t, imp_f]
  refine call0 (x_fill t5 (by rw [l5]; decide) ?_)
  simp only [ixr_of, run_s, run_0, rDy_begin, rok_i, rok_z, bx_cons, bx_nil, eADD, eC0, eC1, eC3, eCS2, eCV1, eCm1, eGI, eGO, eGR, eIALD, eIAST, jICge, eINC2, eLA0, eLA1, eLI2, eMUL, ePI, eRV, eSI2, fDy_begin_0, fDy_begin_123, fDy_begin_131, fDy_begin_154, bDy_begin_0, bDy_begin_123, bDy_begin_131, bDy_begin_154, Option.toList_some, Option.toList_none, List.cons_append, List.nil_append, List.length_cons, List.length_nil, List.mem_cons, List.not_mem_nil, or_false, false_or, or_true, true_or, ↓reduceIte, true_and, and_true, Nat.reduceEqDiff, Nat.reduceAdd, Nat.reduceLeDiff, Nat.reduceLT, dl_i, dl_r, dl_n, dl_u, eq_self, not_true_eq_false, not_false_eq_true, n10, n01, nm0, n0m, ht, q5, imp_t, imp_f]
  refine call0 (x_fill t6 (by rw [l6]; decide) ?_)
  simp only [ixr_of, run_s, run_0, rDy_begin, rok_i, rok_z, bx_cons, bx_nil, eADD, eC0, eC1, eC3, eCS2, eCV1, eCm1, eGI, eGO, eGR, eIALD, eIAST, jICge, eINC2, eLA0, eLA1, eLI2, eMUL, ePI, eRV, eSI2, fDy_begin_0, fDy_begin_123, fDy_begin_131, fDy_begin_154, bDy_begin_0, bDy_begin_123, bDy_begin_131, bDy_begin_154, Option.toList_some, Option.toList_none, List.cons_append, List.nil_append, List.length_cons, List.length_nil, List.mem_cons, List.not_mem_nil, or_false, false_or, or_true, true_or, ↓reduceIte, true_and, and_true, Nat.reduceEqDiff, Nat.reduceAdd, Nat.reduceLeDiff, Nat.reduceLT, dl_i, dl_r, dl_n, dl_u, eq_self, not_true_eq_false, not_false_eq_true, n10, n01, nm0, n0m, ht, q6, imp_t, imp_f]
  refine call0 (x_fill t7 (by rw [l7]; decide) ?_)
  simp only [ixr_of, run_s, run_0, rDy_begin, rok_i, rok_z, bx_cons, bx_nil, eADD, eC0, eC1, eC3, eCS2, eCV1, eCm1, eGI, eGO, eGR, eIALD, eIAST, jICge, eINC2, eLA0, eLA1, eLI2, eMUL, ePI, eRV, eSI2, fDy_begin_0, fDy_begin_123, fDy_begin_131, fDy_begin_154, bDy_begin_0, bDy_begin_123, bDy_begin_131, bDy_begin_154, Option.toList_some, Option.toList_none, List.cons_append, List.nil_append, List.length_cons, List.length_nil, List.mem_cons, List.not_mem_nil, or_false, false_or, or_true, true_or, ↓reduceIte, true_and, and_true, Nat.reduceEqDiff, Nat.reduceAdd, Nat.reduceLeDiff, Nat.reduceLT, dl_i, dl_r, dl_n, dl_u, eq_self, not_true_eq_false, not_false_eq_true, n10, n01, nm0, n0m, ht, imp_t, imp_f]
  have hJ2 : ∀ i, ¬ (y + 1 ≤ i ∧ i < y + 8) → (sr (sr (sr (sr (sr (sr (sr J1 (y + 1) (fun _ => nI 0)) (y + 2) (fun _ => nI 0)) (y + 3) (fun _ => nI 0)) (y + 4) (fun _ => nI 0)) (y + 5) (fun _ => nI 0)) (y + 6) (fun _ => nI 0)) (y + 7) (fun _ => nI 0)) i = J1 i := by
    intro i hi
    iterate 7 rw [sr_n (by omega)]
  have hJ3 : ∀ j, 1 ≤ j → j < 8 → (sr (sr (sr (sr (sr (sr (sr J1 (y + 1) (fun _ => nI 0)) (y + 2) (fun _ => nI 0)) (y + 3) (fun _ => nI 0)) (y + 4) (fun _ => nI 0)) (y + 5) (fun _ => nI 0)) (y + 6) (fun _ => nI 0)) (y + 7) (fun _ => nI 0)) (y + j) = fun _ => nI 0 := by
    intro j h1 h8
    unfold sr
    repeat' split
    all_goals first | rfl | omega
  generalize sr (sr (sr (sr (sr (sr (sr J1 (y + 1) (fun _ => nI 0)) (y + 2) (fun _ => nI 0)) (y + 3) (fun _ => nI 0)) (y + 4) (fun _ => nI 0)) (y + 5) (fun _ => nI 0)) (y + 6) (fun _ => nI 0)) (y + 7) (fun _ => nI 0) = J2 at hJ2 hJ3 ⊢
  have k7 : J2 y 7 = nI nV := by rw [hJ2 y (by omega), hJ7]; rfl
  have k8 : J2 y 8 = nI (1 + 3 * nV) := by rw [hJ2 y (by omega), hJ7]; rfl
  have k9 : J2 y 9 = nI 0 := by rw [hJ2 y (by omega), hJ7]; rfl
  have e7 : ∀ r, sr J2 (y + 1) r y 7 = nI nV := fun r => by rw [sr_n (by omega)]; exact k7
  have e8 : ∀ r, sr J2 (y + 1) r y 8 = nI (1 + 3 * nV) := fun r => by rw [sr_n (by omega)]; exact k8
  have et : ∀ r, sr J2 (y + 1) r (t + 1) = J (t + 1) := fun r => by rw [sr_n (by omega), hJ2 _ (by omega), hJ1 _ (by omega)]
  have loop : ∀ (g v : Nat), g + v = nV → go 123 [some (.ref y), some (.ref t), some (.int (nI v))] [] (sr J2 (y + 1) (dgR (J (t + 1)) nV v)) E (0, 0) := by
    intro g
    induction g with
    | zero =>
      intro v hg
      have : v = nV := by omega
      subst this
      have c1 : (nI v ≤ nI v) = True := eq_true (Int32.le_refl _)
      refine hgo 20 [123] 123 _ _ _ _ _ ?_
      simp only [ixr_of, run_s, run_0, rDy_begin, rok_i, rok_z, bx_cons, bx_nil, eADD, eC0, eC1, eC3, eCS2, eCV1, eCm1, eGI, eGO, eGR, eIALD, eIAST, jICge, eINC2, eLA0, eLA1, eLI2, eMUL, ePI, eRV, eSI2, fDy_begin_0, fDy_begin_123, fDy_begin_131, fDy_begin_154, bDy_begin_0, bDy_begin_123, bDy_begin_131, bDy_begin_154, Option.toList_some, Option.toList_none, List.cons_append, List.nil_append, List.length_cons, List.length_nil, List.mem_cons, List.not_mem_nil, or_false, false_or, or_true, true_or, ↓reduceIte, true_and, and_true, Nat.reduceEqDiff, Nat.reduceAdd, Nat.reduceLeDiff, Nat.reduceLT, dl_i, dl_r, dl_n, dl_u, eq_self, not_true_eq_false, not_false_eq_true, n10, n01, nm0, n0m, ht, e7, c1, imp_t, imp_f]
      refine call0 (x_remember (n := 0) (lg := lg) hA0 ⟨e7 _, e8 _, h9⟩ hT0 (by rw [sr_n (by omega)]; exact k9) (by decide) (fun v hv => ⟨(hlg v hv).1, by rw [sr_n (by omega), hJ2 _ (by omega), hJ1 _ (by omega)]; exact (hlg v hv).2⟩) (by omega) ?_)
      simp only [ixr_of, run_s, run_0, rDy_begin, rok_i, rok_z, bx_cons, bx_nil, eADD, eC0, eC1, eC3, eCS2, eCV1, eCm1, eGI, eGO, eGR, eIALD, eIAST, jICge, eINC2, eLA0, eLA1, eLI2, eMUL, ePI, eRV, eSI2, fDy_begin_0, fDy_begin_123, fDy_begin_131, fDy_begin_154, bDy_begin_0, bDy_begin_123, bDy_begin_131, bDy_begin_154, Option.toList_some, Option.toList_none, List.cons_append, List.nil_append, List.length_cons, List.length_nil, List.mem_cons, List.not_mem_nil, or_false, false_or, or_true, true_or, ↓reduceIte, true_and, and_true, Nat.reduceEqDiff, Nat.reduceAdd, Nat.reduceLeDiff, Nat.reduceLT, dl_i, dl_r, dl_n, dl_u, eq_self, not_true_eq_false, not_false_eq_true, n10, n01, nm0, n0m, imp_t, imp_f]
      refine hk _ ⟨fun i hi => ?_, ?_, ?_, fun w hw hl => ?_, fun j h3 h8 => ?_⟩
      · rw [sr_n (by omega), sr_n (by omega), hJ2 _ (by omega), hJ1 _ (by omega)]
      · rw [sr_n (by omega), sr_n (by omega), hJ2 y (by omega), hJ7]
        exact ⟨rfl, rfl, rfl, rfl, rfl, rfl, rfl, rfl, rfl, rfl, rfl⟩
      · rw [sr_n (by omega), sr_s]
      · have := rmR_s (J := sr J2 (y + 1) (dgR (J (t + 1)) v v)) (y := y) (nV := v) (n := 0) (v := w) (lg := lg) hl v hw h9
        have e1 : ∀ r, waD (sr (sr J2 (y + 1) (dgR (J (t + 1)) v v)) (y + 2) r) y v w = waD (sr J2 (y + 1) (dgR (J (t + 1)) v v)) y v w := fun r => by unfold waD; rw [sr_n (by omega)]
        have e2 : ∀ r h, hbD (sr (sr J2 (y + 1) (dgR (J (t + 1)) v v)) (y + 2) r) y v w h = hbD (sr J2 (y + 1) (dgR (J (t + 1)) v v)) y v w h := fun r h => by unfold hbD; rw [sr_n (by omega)]
        rw [sr_s, e1]
        refine ⟨this.1, fun h hh => ?_⟩
        rw [e2]
        exact this.2 h hh
      · rw [sr_n (by omega), sr_n (by omega)]
        exact hJ3 j (by omega) h8
    | succ g ih =>
      intro v hg
      have hv : v < nV := by omega
      have c1 : (nI nV ≤ nI v) = False := by rw [nIl (by omega) (by omega)]; exact eq_false (by omega)
      have i9 : v < 9 := by omega
      have i1 := wa_lt h9 hv
      refine hgo 20 [123] 123 _ _ _ _ _ ?_
      simp only [ixr_of, run_s, run_0, rDy_begin, rok_i, rok_z, bx_cons, bx_nil, eADD, eC0, eC1, eC3, eCS2, eCV1, eCm1, eGI, eGO, eGR, eIALD, eIAST, jICge, eINC2, eLA0, eLA1, eLI2, eMUL, ePI, eRV, eSI2, fDy_begin_0, fDy_begin_123, fDy_begin_131, fDy_begin_154, bDy_begin_0, bDy_begin_123, bDy_begin_131, bDy_begin_154, Option.toList_some, Option.toList_none, List.cons_append, List.nil_append, List.length_cons, List.length_nil, List.mem_cons, List.not_mem_nil, or_false, false_or, or_true, true_or, ↓reduceIte, true_and, and_true, Nat.reduceEqDiff, Nat.reduceAdd, Nat.reduceLeDiff, Nat.reduceLT, dl_i, dl_r, dl_n, dl_u, eq_self, not_true_eq_false, not_false_eq_true, n10, n01, nm0, n0m, ht, ty, e7, e8, et, c1, q0, t1, l1, g0', g0t', g0l', i9, i1, nI_ml, nI_add, up_sr, imp_t, imp_f]
      exact ih (v + 1) (by omega)
  have := loop nV 0 (by omega)
  rw [show sr J2 (y + 1) (dgR (J (t + 1)) nV 0) = J2 from by
    have e : dgR (J (t + 1)) nV 0 = J2 (y + 1) := (hJ3 1 (by decide) (by decide)).symm
    rw [e, sr_id]] at this
  exact this
end XDb
