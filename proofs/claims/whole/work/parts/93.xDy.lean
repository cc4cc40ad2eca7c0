/-! contracts of the class, 22: days, small -/
def DyA (sh : Sh) (E : Ev) (y : Nat) : Prop := tyc sh E y = 3 ∧ (rget sh E y 0 = .ref (y + 1) ∧ rget sh E y 1 = .ref (y + 2) ∧ rget sh E y 2 = .ref (y + 3) ∧ rget sh E y 3 = .ref (y + 4) ∧ rget sh E y 4 = .ref (y + 5) ∧ rget sh E y 5 = .ref (y + 6) ∧ rget sh E y 6 = .ref (y + 7)) ∧
  (tyc sh E (y + 1) = 101 ∧ tyc sh E (y + 2) = 101 ∧ tyc sh E (y + 3) = 101 ∧ tyc sh E (y + 4) = 101 ∧ tyc sh E (y + 5) = 101 ∧ tyc sh E (y + 6) = 101 ∧ tyc sh E (y + 7) = 101) ∧ len sh E (y + 1) = 252 ∧ len sh E (y + 2) = 180 ∧ len sh E (y + 3) = 9 ∧ len sh E (y + 4) = 27 ∧ len sh E (y + 5) = 27 ∧ len sh E (y + 6) = 9 ∧ len sh E (y + 7) = 4
/-- so many villages -/
def DyV (J : Iv) (y nV : Nat) : Prop := J y 7 = nI nV ∧ J y 8 = nI (1 + 3 * nV) ∧ nV ≤ 9
/-- the place of what w put of h in v's basin -/
def cl (nV v h w : Nat) : Nat := v * (1 + 3 * nV) + 1 + h * nV + w
theorem cl_lt {nV v h w : Nat} (h9 : nV ≤ 9) (hv : v < nV) (hh : h < 3) (hw : w < nV) : cl nV v h w < 252 := by
  unfold cl
  have h1 : h * nV + w < 3 * nV := by
    have : h * nV ≤ 2 * nV := Nat.mul_le_mul_right _ (by omega)
    omega
  have h2 : v * (1 + 3 * nV) + (1 + 3 * nV) ≤ nV * (1 + 3 * nV) := by
    have : (v + 1) * (1 + 3 * nV) ≤ nV * (1 + 3 * nV) := Nat.mul_le_mul_right _ hv
    rw [Nat.add_mul, Nat.one_mul] at this
    exact this
  have h3 : nV * (1 + 3 * nV) ≤ 9 * 28 := Nat.mul_le_mul h9 (by omega)
  omega
theorem wa_lt {nV v : Nat} (h9 : nV ≤ 9) (hv : v < nV) : v * (1 + 3 * nV) < 252 := by
  have h2 : v * (1 + 3 * nV) ≤ 8 * 28 := Nat.mul_le_mul (by omega) (by omega)
  omega
section XDy
variable {Γ : Gm} {l : Launch} {sh : Sh} {d : Nat} {J : Iv} {E : Ev} {kr : Kr} {kx : Kxx} {y nV : Nat}
theorem x_cell {v h w : Nat} (hA : DyA sh E y) (hV : DyV J y nV) (hk : kr (some (.int (nI (cl nV v h w)))) J E) : Ex Γ l sh (d + 1) (0, 0) mDy_cell [.ref y, .int (nI v), .int (nI h), .int (nI w)] J E kr kx := by
  refine ex_of (ls0 := [some (.ref y), some (.int (nI v)), some (.int (nI h)), some (.int (nI w))]) tDy_cell (by decide +kernel) kDy_cell rfl (Nat.le_of_ble_eq_true rfl) rfl ?_
  intro go hgo
  obtain ⟨ht, -⟩ := hA
  obtain ⟨v7, v8, -⟩ := hV
  refine hgo 20 [] 0 _ _ _ _ _ ?_
  simp only [ixr_of, run_s, run_0, rDy_cell, rok_i, rok_z, bx_cons, bx_nil, eADD, eC1, eGI, eLA0, eLI1, eLI2, eLI3, eMUL, eRI, fDy_cell_0, bDy_cell_0, Option.toList_some, Option.toList_none, List.cons_append, List.nil_append, List.length_cons, List.length_nil, List.mem_cons, List.not_mem_nil, or_false, false_or, or_true, true_or, ↓reduceIte, true_and, and_true, Nat.reduceEqDiff, Nat.reduceAdd, Nat.reduceLeDiff, Nat.reduceLT, dl_i, dl_r, dl_n, dl_u, eq_self, not_true_eq_false, not_false_eq_true, n10, n01, nm0, n0m, ht, v7, v8, nI_ml, nI_add, imp_t, imp_f]
  exact hk
theorem x_waterIn {v : Nat} (hA : DyA sh E y) (hV : DyV J y nV) (hv : v < nV) (hk : kr (some (.int (J (y + 1) (v * (1 + 3 * nV))))) J E) : Ex Γ l sh (d + 1) (0, 0) mDy_waterIn [.ref y, .int (nI v)] J E kr kx := by
  refine ex_of (ls0 := [some (.ref y), some (.int (nI v))]) tDy_waterIn (by decide +kernel) kDy_waterIn rfl (Nat.le_of_ble_eq_true rfl) rfl ?_
  intro go hgo
  obtain ⟨ht, ⟨q0, -⟩, ⟨t1, -⟩, l1, -⟩ := hA
  obtain ⟨v7, v8, v9⟩ := hV
  have i1 := wa_lt v9 hv
  refine hgo 20 [] 0 _ _ _ _ _ ?_
  simp only [ixr_of, run_s, run_0, rDy_waterIn, rok_i, rok_z, bx_cons, bx_nil, eGI, eGR, eIALD, eLA0, eLI1, eMUL, eRI, fDy_waterIn_0, bDy_waterIn_0, Option.toList_some, Option.toList_none, List.cons_append, List.nil_append, List.length_cons, List.length_nil, List.mem_cons, List.not_mem_nil, or_false, false_or, or_true, true_or, ↓reduceIte, true_and, and_true, Nat.reduceEqDiff, Nat.reduceAdd, Nat.reduceLeDiff, Nat.reduceLT, dl_i, dl_r, dl_n, dl_u, eq_self, not_true_eq_false, not_false_eq_true, n10, n01, nm0, n0m, ht, q0, t1, l1, v7, v8, nI_ml, i1, imp_t, imp_f]
  exact hk
theorem x_herbIn {v h : Nat} (hA : DyA sh E y) (hV : DyV J y nV) (hv : v < nV) (hh : h < 3) (hk : kr (some (.int (smI (fun w => J (y + 1) (cl nV v h w)) nV))) J E) : Ex Γ l sh (d + 2) (0, 0) mDy_herbIn [.ref y, .int (nI v), .int (nI h)] J E kr kx := by
  refine ex_of (ls0 := [some (.ref y), some (.int (nI v)), some (.int (nI h)), none, none, none]) tDy_herbIn (by decide +kernel) kDy_herbIn rfl (Nat.le_of_ble_eq_true rfl) rfl ?_
  intro go hgo
  have hA0 := hA
  obtain ⟨ht, ⟨q0, -⟩, ⟨t1, -⟩, l1, -⟩ := hA
  obtain ⟨v7, v8, v9⟩ := id hV
  have loop : ∀ (g w : Nat), g + w = nV → go 14 [some (.ref y), some (.int (nI v)), some (.int (nI h)), some (.int (nI (cl nV v h 0))), some (.int (smI (fun w => J (y + 1) (cl nV v h w)) w)), some (.int (nI w))] [] J E (0, 0) := by
    intro g
    induction g with
    | zero =>
      intro w hw
      have : w = nV := by omega
      subst this
      have c1 : (nI w ≤ nI w) = True := eq_true (Int32.le_refl _)
      refine hgo 20 [14] 14 _ _ _ _ _ ?_
      simp only [ixr_of, run_s, run_0, rDy_herbIn, rok_i, rok_z, bx_cons, bx_nil, eADD, eC0, eCV3, eGI, eGO, eGR, eIALD, jICge, eINC5, eLA0, eLI1, eLI2, eLI3, eLI4, eLI5, eRI, eSI3, eSI4, eSI5, fDy_herbIn_0, fDy_herbIn_14, fDy_herbIn_23, fDy_herbIn_43, bDy_herbIn_0, bDy_herbIn_14, bDy_herbIn_23, bDy_herbIn_43, Option.toList_some, Option.toList_none, List.cons_append, List.nil_append, List.length_cons, List.length_nil, List.mem_cons, List.not_mem_nil, or_false, false_or, or_true, true_or, ↓reduceIte, true_and, and_true, Nat.reduceEqDiff, Nat.reduceAdd, Nat.reduceLeDiff, Nat.reduceLT, dl_i, dl_r, dl_n, dl_u, eq_self, not_true_eq_false, not_false_eq_true, n10, n01, nm0, n0m, ht, v7, c1, imp_t, imp_f]
      exact hk
    | succ g ih =>
      intro w hw
      have c1 : (nI nV ≤ nI w) = False := by rw [nIl (by omega) (by omega)]; exact eq_false (by omega)
      have e1 : cl nV v h 0 + w = cl nV v h w := by unfold cl; omega
      have i1 := cl_lt v9 hv hh (show w < nV by omega)
      refine hgo 20 [14] 14 _ _ _ _ _ ?_
      simp only [ixr_of, run_s, run_0, rDy_herbIn, rok_i, rok_z, bx_cons, bx_nil, eADD, eC0, eCV3, eGI, eGO, eGR, eIALD, jICge, eINC5, eLA0, eLI1, eLI2, eLI3, eLI4, eLI5, eRI, eSI3, eSI4, eSI5, fDy_herbIn_0, fDy_herbIn_14, fDy_herbIn_23, fDy_herbIn_43, bDy_herbIn_0, bDy_herbIn_14, bDy_herbIn_23, bDy_herbIn_43, Option.toList_some, Option.toList_none, List.cons_append, List.nil_append, List.length_cons, List.length_nil, List.mem_cons, List.not_mem_nil, or_false, false_or, or_true, true_or, ↓reduceIte, true_and, and_true, Nat.reduceEqDiff, Nat.reduceAdd, Nat.reduceLeDiff, Nat.reduceLT, dl_i, dl_r, dl_n, dl_u, eq_self, not_true_eq_false, not_false_eq_true, n10, n01, nm0, n0m, ht, q0, t1, l1, v7, c1, nI_add, e1, i1, imp_t, imp_f]
      exact ih (w + 1) (by omega)
  refine hgo 20 [14] 0 _ _ _ _ _ ?_
  simp only [ixr_of, run_s, run_0, rDy_herbIn, rok_i, rok_z, bx_cons, bx_nil, eADD, eC0, eCV3, eGI, eGO, eGR, eIALD, jICge, eINC5, eLA0, eLI1, eLI2, eLI3, eLI4, eLI5, eRI, eSI3, eSI4, eSI5, fDy_herbIn_0, fDy_herbIn_14, fDy_herbIn_23, fDy_herbIn_43, bDy_herbIn_0, bDy_herbIn_14, bDy_herbIn_23, bDy_herbIn_43, Option.toList_some, Option.toList_none, List.cons_append, List.nil_append, List.length_cons, List.length_nil, List.mem_cons, List.not_mem_nil, or_false, false_or, or_true, true_or, ↓reduceIte, true_and, and_true, Nat.reduceEqDiff, Nat.reduceAdd, Nat.reduceLeDiff, Nat.reduceLT, dl_i, dl_r, dl_n, dl_u, eq_self, not_true_eq_false, not_false_eq_true, n10, n01, nm0, n0m, ht, imp_t, imp_f]
  refine call0 (x_cell (w := 0) hA0 hV ?_)
  simp only [ixr_of, run_s, run_0, rDy_herbIn, rok_i, rok_z, bx_cons, bx_nil, eADD, eC0, eCV3, eGI, eGO, eGR, eIALD, jICge, eINC5, eLA0, eLI1, eLI2, eLI3, eLI4, eLI5, eRI, eSI3, eSI4, eSI5, fDy_herbIn_0, fDy_herbIn_14, fDy_herbIn_23, fDy_herbIn_43, bDy_herbIn_0, bDy_herbIn_14, bDy_herbIn_23, bDy_herbIn_43, Option.toList_some, Option.toList_none, List.cons_append, List.nil_append, List.length_cons, List.length_nil, List.mem_cons, List.not_mem_nil, or_false, false_or, or_true, true_or, ↓reduceIte, true_and, and_true, Nat.reduceEqDiff, Nat.reduceAdd, Nat.reduceLeDiff, Nat.reduceLT, dl_i, dl_r, dl_n, dl_u, eq_self, not_true_eq_false, not_false_eq_true, n10, n01, nm0, n0m, imp_t, imp_f]
  exact loop nV 0 (by omega)
theorem x_herbsIn {v : Nat} (hA : DyA sh E y) (hV : DyV J y nV) (hv : v < nV) (hk : kr (some (.int (smI (fun h => smI (fun w => J (y + 1) (cl nV v h w)) nV) 3))) J E) : Ex Γ l sh (d + 3) (0, 0) mDy_herbsIn [.ref y, .int (nI v)] J E kr kx := by
  refine ex_of (ls0 := [some (.ref y), some (.int (nI v)), none, none]) tDy_herbsIn (by decide +kernel) kDy_herbsIn rfl (Nat.le_of_ble_eq_true rfl) rfl ?_
  intro go hgo
  have ht := hA.1
  have loop : ∀ (g h : Nat), g + h = 3 → go 4 [some (.ref y), some (.int (nI v)), some (.int (smI (fun h => smI (fun w => J (y + 1) (cl nV v h w)) nV) h)), some (.int (nI h))] [] J E (0, 0) := by
    intro g
    induction g with
    | zero =>
      intro h hw
      have : h = 3 := by omega
      subst this
      refine hgo 20 [4] 4 _ _ _ _ _ ?_
      simp only [ixr_of, run_s, run_0, rDy_herbsIn, rok_i, rok_z, bx_cons, bx_nil, eADD, eC0, eC3, eCV2, eGO, jICge, eINC3, eLA0, eLI1, eLI2, eLI3, eRI, eSI2, eSI3, fDy_herbsIn_0, fDy_herbsIn_4, fDy_herbsIn_9, fDy_herbsIn_24, bDy_herbsIn_0, bDy_herbsIn_4, bDy_herbsIn_9, bDy_herbsIn_24, Option.toList_some, Option.toList_none, List.cons_append, List.nil_append, List.length_cons, List.length_nil, List.mem_cons, List.not_mem_nil, or_false, false_or, or_true, true_or, ↓reduceIte, true_and, and_true, Nat.reduceEqDiff, Nat.reduceAdd, Nat.reduceLeDiff, Nat.reduceLT, dl_i, dl_r, dl_n, dl_u, eq_self, not_true_eq_false, not_false_eq_true, n10, n01, nm0, n0m, ht, imp_t, imp_f]
      exact ⟨fun _ => hk, fun q => absurd (Int32.le_refl _) q⟩
    | succ g ih =>
      intro h hw
      have c1 : (nI 3 ≤ nI h) = False := by rw [nIl (by omega) (by omega)]; exact eq_false (by omega)
      refine hgo 20 [4] 4 _ _ _ _ _ ?_
      simp only [ixr_of, run_s, run_0, rDy_herbsIn, rok_i, rok_z, bx_cons, bx_nil, eADD, eC0, eC3, eCV2, eGO, jICge, eINC3, eLA0, eLI1, eLI2, eLI3, eRI, eSI2, eSI3, fDy_herbsIn_0, fDy_herbsIn_4, fDy_herbsIn_9, fDy_herbsIn_24, bDy_herbsIn_0, bDy_herbsIn_4, bDy_herbsIn_9, bDy_herbsIn_24, Option.toList_some, Option.toList_none, List.cons_append, List.nil_append, List.length_cons, List.length_nil, List.mem_cons, List.not_mem_nil, or_false, false_or, or_true, true_or, ↓reduceIte, true_and, and_true, Nat.reduceEqDiff, Nat.reduceAdd, Nat.reduceLeDiff, Nat.reduceLT, dl_i, dl_r, dl_n, dl_u, eq_self, not_true_eq_false, not_false_eq_true, n10, n01, nm0, n0m, ht, c1, imp_t, imp_f]
      refine call0 (x_herbIn hA hV hv (by omega) ?_)
      simp only [ixr_of, run_s, run_0, rDy_herbsIn, rok_i, rok_z, bx_cons, bx_nil, eADD, eC0, eC3, eCV2, eGO, jICge, eINC3, eLA0, eLI1, eLI2, eLI3, eRI, eSI2, eSI3, fDy_herbsIn_0, fDy_herbsIn_4, fDy_herbsIn_9, fDy_herbsIn_24, bDy_herbsIn_0, bDy_herbsIn_4, bDy_herbsIn_9, bDy_herbsIn_24, Option.toList_some, Option.toList_none, List.cons_append, List.nil_append, List.length_cons, List.length_nil, List.mem_cons, List.not_mem_nil, or_false, false_or, or_true, true_or, ↓reduceIte, true_and, and_true, Nat.reduceEqDiff, Nat.reduceAdd, Nat.reduceLeDiff, Nat.reduceLT, dl_i, dl_r, dl_n, dl_u, eq_self, not_true_eq_false, not_false_eq_true, n10, n01, nm0, n0m, nI_add, imp_t, imp_f]
      exact ih (h + 1) (by omega)
  refine hgo 20 [4] 0 _ _ _ _ _ ?_
  simp only [ixr_of, run_s, run_0, rDy_herbsIn, rok_i, rok_z, bx_cons, bx_nil, eADD, eC0, eC3, eCV2, eGO, jICge, eINC3, eLA0, eLI1, eLI2, eLI3, eRI, eSI2, eSI3, fDy_herbsIn_0, fDy_herbsIn_4, fDy_herbsIn_9, fDy_herbsIn_24, bDy_herbsIn_0, bDy_herbsIn_4, bDy_herbsIn_9, bDy_herbsIn_24, Option.toList_some, Option.toList_none, List.cons_append, List.nil_append, List.length_cons, List.length_nil, List.mem_cons, List.not_mem_nil, or_false, false_or, or_true, true_or, ↓reduceIte, true_and, and_true, Nat.reduceEqDiff, Nat.reduceAdd, Nat.reduceLeDiff, Nat.reduceLT, dl_i, dl_r, dl_n, dl_u, eq_self, not_true_eq_false, not_false_eq_true, n10, n01, nm0, n0m, imp_t, imp_f]
  exact loop 3 0 (by omega)
theorem x_herbsInBasins (hA : DyA sh E y) (hV : DyV J y nV) (hk : kr (some (.int (smI (fun v => smI (fun h => smI (fun w => J (y + 1) (cl nV v h w)) nV) 3) nV))) J E) : Ex Γ l sh (d + 4) (0, 0) mDy_herbsInBasins [.ref y] J E kr kx := by
  refine ex_of (ls0 := [some (.ref y), none, none]) tDy_herbsInBasins (by decide +kernel) kDy_herbsInBasins rfl (Nat.le_of_ble_eq_true rfl) rfl ?_
  intro go hgo
  have ht := hA.1
  obtain ⟨v7, v8, v9⟩ := id hV
  have loop : ∀ (g v : Nat), g + v = nV → go 4 [some (.ref y), some (.int (smI (fun v => smI (fun h => smI (fun w => J (y + 1) (cl nV v h w)) nV) 3) v)), some (.int (nI v))] [] J E (0, 0) := by
    intro g
    induction g with
    | zero =>
      intro v hw
      have : v = nV := by omega
      subst this
      have c1 : (nI v ≤ nI v) = True := eq_true (Int32.le_refl _)
      refine hgo 20 [4] 4 _ _ _ _ _ ?_
      simp only [ixr_of, run_s, run_0, rDy_herbsInBasins, rok_i, rok_z, bx_cons, bx_nil, eADD, eC0, eCV1, eGI, eGO, jICge, eINC2, eLA0, eLI1, eLI2, eRI, eSI1, eSI2, fDy_herbsInBasins_0, fDy_herbsInBasins_4, fDy_herbsInBasins_12, fDy_herbsInBasins_26, bDy_herbsInBasins_0, bDy_herbsInBasins_4, bDy_herbsInBasins_12, bDy_herbsInBasins_26, Option.toList_some, Option.toList_none, List.cons_append, List.nil_append, List.length_cons, List.length_nil, List.mem_cons, List.not_mem_nil, or_false, false_or, or_true, true_or, ↓reduceIte, true_and, and_true, Nat.reduceEqDiff, Nat.reduceAdd, Nat.reduceLeDiff, Nat.reduceLT, dl_i, dl_r, dl_n, dl_u, eq_self, not_true_eq_false, not_false_eq_true, n10, n01, nm0, n0m, ht, v7, c1, imp_t, imp_f]
      exact hk
    | succ g ih =>
      intro v hw
      have c1 : (nI nV ≤ nI v) = False := by rw [nIl (by omega) (by omega)]; exact eq_false (by omega)
      refine hgo 20 [4] 4 _ _ _ _ _ ?_
      simp only [ixr_of, run_s, run_0, rDy_herbsInBasins, rok_i, rok_z, bx_cons, bx_nil, eADD, eC0, eCV1, eGI, eGO, jICge, eINC2, eLA0, eLI1, eLI2, eRI, eSI1, eSI2, fDy_herbsInBasins_0, fDy_herbsInBasins_4, fDy_herbsInBasins_12, fDy_herbsInBasins_26, bDy_herbsInBasins_0, bDy_herbsInBasins_4, bDy_herbsInBasins_12, bDy_herbsInBasins_26, Option.toList_some, Option.toList_none, List.cons_append, List.nil_append, List.length_cons, List.length_nil, List.mem_cons, List.not_mem_nil, or_false, false_or, or_true, true_or, ↓reduceIte, true_and, and_true, Nat.reduceEqDiff, Nat.reduceAdd, Nat.reduceLeDiff, Nat.reduceLT, dl_i, dl_r, dl_n, dl_u, eq_self, not_true_eq_false, not_false_eq_true, n10, n01, nm0, n0m, ht, v7, c1, imp_t, imp_f]
      refine call0 (x_herbsIn hA hV (by omega) ?_)
      simp only [ixr_of, run_s, run_0, rDy_herbsInBasins, rok_i, rok_z, bx_cons, bx_nil, eADD, eC0, eCV1, eGI, eGO, jICge, eINC2, eLA0, eLI1, eLI2, eRI, eSI1, eSI2, fDy_herbsInBasins_0, fDy_herbsInBasins_4, fDy_herbsInBasins_12, fDy_herbsInBasins_26, bDy_herbsInBasins_0, bDy_herbsInBasins_4, bDy_herbsInBasins_12, bDy_herbsInBasins_26, Option.toList_some, Option.toList_none, List.cons_append, List.nil_append, List.length_cons, List.length_nil, List.mem_cons, List.not_mem_nil, or_false, false_or, or_true, true_or, ↓reduceIte, true_and, and_true, Nat.reduceEqDiff, Nat.reduceAdd, Nat.reduceLeDiff, Nat.reduceLT, dl_i, dl_r, dl_n, dl_u, eq_self, not_true_eq_false, not_false_eq_true, n10, n01, nm0, n0m, nI_add, imp_t, imp_f]
      exact ih (v + 1) (by omega)
  refine hgo 20 [4] 0 _ _ _ _ _ ?_
  simp only [ixr_of, run_s, run_0, rDy_herbsInBasins, rok_i, rok_z, bx_cons, bx_nil, eADD, eC0, eCV1, eGI, eGO, jICge, eINC2, eLA0, eLI1, eLI2, eRI, eSI1, eSI2, fDy_herbsInBasins_0, fDy_herbsInBasins_4, fDy_herbsInBasins_12, fDy_herbsInBasins_26, bDy_herbsInBasins_0, bDy_herbsInBasins_4, bDy_herbsInBasins_12, bDy_herbsInBasins_26, Option.toList_some, Option.toList_none, List.cons_append, List.nil_append, List.length_cons, List.length_nil, List.mem_cons, List.not_mem_nil, or_false, false_or, or_true, true_or, ↓reduceIte, true_and, and_true, Nat.reduceEqDiff, Nat.reduceAdd, Nat.reduceLeDiff, Nat.reduceLT, dl_i, dl_r, dl_n, dl_u, eq_self, not_true_eq_false, not_false_eq_true, n10, n01, nm0, n0m, imp_t, imp_f]
  exact loop nV 0 (by omega)
end XDy
