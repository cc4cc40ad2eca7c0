/-! contracts of HerbWatersModel, 3: rows of days -/
def cp (I : Iv) (f t n : Nat) : Iv := fun i j => if i = t ∧ j < n then I f j else I i j
theorem cp_0 {I : Iv} {f t : Nat} : cp I f t 0 = I := by
  funext i j
  simp [cp]
theorem cp_s {I : Iv} {f t n : Nat} (h : f ≠ t) : up (cp I f t n) t n (cp I f t n f n) = cp I f t (n + 1) := by
  funext i j
  have e : cp I f t n f n = I f n := by simp [cp, h]
  rw [e]
  unfold up cp
  by_cases h1 : i = t
  · subst h1
    by_cases h2 : j = n
    · subst h2; simp
    · by_cases h3 : j < n
      · simp [h2, h3, show j < n + 1 by omega]
      · simp [h2, h3, show ¬ j < n + 1 by omega]
  · simp [h1]
section CM3
variable {Γ : Gm} {l : Launch} {d : Nat} {I : Iv} {E : Ev} {kr : Kr} {kx : Kxx}
theorem c_copies {f t : Nat} (hf : tyc shN E f = 101) (hfl : 502 ≤ len shN E f) (ht : tyc shN E t = 101) (htl : 502 ≤ len shN E t) (hft : f ≠ t) (h : kr none (cp I f t 502) E) : Ex Γ l shN (d + 1) (0, 0) mM_copies [.ref f, .ref t] I E kr kx := by
  refine ex_of (ls0 := [some (.ref f), some (.ref t), none]) tM_copies (by decide +kernel) kM_copies rfl (Nat.le_of_ble_eq_true rfl) rfl ?_
  intro go hgo
  have loop : ∀ (g k : Nat), g + k = 502 → go 2 [some (.ref f), some (.ref t), some (.int (nI k))] [] (cp I f t k) E (0, 0) := by
    intro g
    induction g with
    | zero =>
      intro k hk
      have : k = 502 := by omega
      subst this
      refine hgo 20 [2] 2 _ _ _ _ _ ?_
      simp only [run_s, run_0, rM_copies, rok_i, rok_z, bx_cons, bx_nil, eC0, eGO, eIALD, eIAST, jICge, eINC2, eLA0, eLA1, eLI2, eRV, eSI2, eSP, fM_copies_0, fM_copies_2, fM_copies_9, fM_copies_21, bM_copies_0, bM_copies_2, bM_copies_9, bM_copies_21, ty_m, Option.toList_some, Option.toList_none, List.cons_append, List.nil_append, List.length_cons, List.length_nil, List.mem_cons, List.not_mem_nil, or_false, false_or, or_true, true_or, ↓reduceIte, true_and, and_true, Nat.reduceEqDiff, Nat.reduceAdd, Nat.reduceLeDiff, dl_i, dl_r, dl_n, dl_u, eq_self, not_true_eq_false, not_false_eq_true, n10, n01, nm0, n0m, imp_t, imp_f]
      exact ⟨fun _ => h, fun q => absurd (by decide) q⟩
    | succ g ih =>
      intro k hk
      refine hgo 20 [2] 2 _ _ _ _ _ ?_
      simp only [run_s, run_0, rM_copies, rok_i, rok_z, bx_cons, bx_nil, eC0, eGO, eIALD, eIAST, jICge, eINC2, eLA0, eLA1, eLI2, eRV, eSI2, eSP, fM_copies_0, fM_copies_2, fM_copies_9, fM_copies_21, bM_copies_0, bM_copies_2, bM_copies_9, bM_copies_21, ty_m, Option.toList_some, Option.toList_none, List.cons_append, List.nil_append, List.length_cons, List.length_nil, List.mem_cons, List.not_mem_nil, or_false, false_or, or_true, true_or, ↓reduceIte, true_and, and_true, Nat.reduceEqDiff, Nat.reduceAdd, Nat.reduceLeDiff, dl_i, dl_r, dl_n, dl_u, eq_self, not_true_eq_false, not_false_eq_true, n10, n01, nm0, n0m, ht, hf, imp_t, imp_f]
      rw [nI_leI (by omega) (by omega)]
      refine ⟨fun q => absurd q (by omega), fun _ => ixr_n (by omega) (ixr_n (by omega) ?_)⟩
      rw [cp_s hft, nI_add]
      exact ih (k + 1) (by omega)
  have h0 := loop 502 0 rfl
  rw [cp_0] at h0
  refine hgo 20 [2] 0 _ _ _ _ _ ?_
  simp only [run_s, run_0, rM_copies, rok_i, rok_z, bx_cons, bx_nil, eC0, eGO, eIALD, eIAST, jICge, eINC2, eLA0, eLA1, eLI2, eRV, eSI2, eSP, fM_copies_0, fM_copies_2, fM_copies_9, fM_copies_21, bM_copies_0, bM_copies_2, bM_copies_9, bM_copies_21, ty_m, Option.toList_some, Option.toList_none, List.cons_append, List.nil_append, List.length_cons, List.length_nil, List.mem_cons, List.not_mem_nil, or_false, false_or, or_true, true_or, ↓reduceIte, true_and, and_true, Nat.reduceEqDiff, Nat.reduceAdd, Nat.reduceLeDiff, dl_i, dl_r, dl_n, dl_u, eq_self, not_true_eq_false, not_false_eq_true, n10, n01, nm0, n0m, imp_t, imp_f]
  exact h0
theorem c_settles (h : kr none (up (cp I 500124 500125 502) 500000 39 (nI 0)) E) : Ex Γ l shN (d + 2) (0, 0) mM_settles [.ref 500000] I E kr kx := by
  refine ex_of (ls0 := [some (.ref 500000)]) tM_settles (by decide +kernel) kM_settles rfl (Nat.le_of_ble_eq_true rfl) rfl ?_
  intro go hgo
  refine hgo 20 [] 0 _ _ _ _ _ ?_
  simp only [run_s, run_0, rM_settles, rok_i, rok_z, bx_cons, bx_nil, eC0, eCS2, eGR, eLA0, ePI, eRV, fM_settles_0, bM_settles_0, ln_mbase, ln_mnow, rg_m_32, rg_m_33, ty_m, ty_mbase, ty_mnow, Option.toList_some, Option.toList_none, List.cons_append, List.nil_append, List.length_cons, List.length_nil, List.mem_cons, List.not_mem_nil, or_false, false_or, or_true, true_or, ↓reduceIte, true_and, and_true, Nat.reduceEqDiff, Nat.reduceAdd, Nat.reduceLeDiff, dl_i, dl_r, dl_n, dl_u, eq_self, not_true_eq_false, not_false_eq_true, n10, n01, nm0, n0m, imp_t, imp_f]
  refine call0 (c_copies ty_mnow (by rw [ln_mnow]; decide) ty_mbase (by rw [ln_mbase]; decide) (by decide) ?_)
  simp only [run_s, run_0, rM_settles, rok_i, rok_z, bx_cons, bx_nil, eC0, eCS2, eGR, eLA0, ePI, eRV, fM_settles_0, bM_settles_0, ln_mbase, ln_mnow, rg_m_32, rg_m_33, ty_m, ty_mbase, ty_mnow, Option.toList_some, Option.toList_none, List.cons_append, List.nil_append, List.length_cons, List.length_nil, List.mem_cons, List.not_mem_nil, or_false, false_or, or_true, true_or, ↓reduceIte, true_and, and_true, Nat.reduceEqDiff, Nat.reduceAdd, Nat.reduceLeDiff, dl_i, dl_r, dl_n, dl_u, eq_self, not_true_eq_false, not_false_eq_true, n10, n01, nm0, n0m, imp_t, imp_f]
  exact h
theorem c_herbAt {v hb w : Nat} (h : kr (some (.int (nI (9 + 27 * v + 9 * hb + w)))) I E) : Ex Γ l shN (d + 1) (0, 0) mM_herbAt [.int (nI v), .int (nI hb), .int (nI w)] I E kr kx := by
  refine ex_of (ls0 := [some (.int (nI v)), some (.int (nI hb)), some (.int (nI w))]) tM_herbAt (by decide +kernel) kM_herbAt rfl (Nat.le_of_ble_eq_true rfl) rfl ?_
  intro go hgo
  refine hgo 20 [] 0 _ _ _ _ _ ?_
  simp only [run_s, run_0, rM_herbAt, rok_i, rok_z, bx_cons, bx_nil, eADD, eBP, eLI0, eLI1, eLI2, eMUL, eRI, fM_herbAt_0, bM_herbAt_0, ty_m, Option.toList_some, Option.toList_none, List.cons_append, List.nil_append, List.length_cons, List.length_nil, List.mem_cons, List.not_mem_nil, or_false, false_or, or_true, true_or, ↓reduceIte, true_and, and_true, Nat.reduceEqDiff, Nat.reduceAdd, Nat.reduceLeDiff, dl_i, dl_r, dl_n, dl_u, eq_self, not_true_eq_false, not_false_eq_true, n10, n01, nm0, n0m, pk_mul, nI_add, imp_t, imp_f]
  exact h
/-- a sum of the first n -/
def smI (f : Nat → Int32) : Nat → Int32
  | 0 => nI 0
  | n + 1 => smI f n + f n
theorem c_herbsOf {a v hb : Nat} (ha : tyc shN E a = 101) (hal : 502 ≤ len shN E a) (hv : v < 9) (hh : hb < 3) (h : kr (some (.int (smI (fun w => I a (9 + 27 * v + 9 * hb + w)) 9))) I E) : Ex Γ l shN (d + 2) (0, 0) mM_herbsOf [.ref a, .int (nI v), .int (nI hb)] I E kr kx := by
  refine ex_of (ls0 := [some (.ref a), some (.int (nI v)), some (.int (nI hb)), none, none]) tM_herbsOf (by decide +kernel) kM_herbsOf rfl (Nat.le_of_ble_eq_true rfl) rfl ?_
  intro go hgo
  have loop : ∀ (g k : Nat), g + k = 9 → go 5 [some (.ref a), some (.int (nI v)), some (.int (nI hb)), some (.int (smI (fun w => I a (9 + 27 * v + 9 * hb + w)) k)), some (.int (nI k))] [] I E (0, 0) := by
    intro g
    induction g with
    | zero =>
      intro k hk
      have : k = 9 := by omega
      subst this
      refine hgo 20 [5] 5 _ _ _ _ _ ?_
      simp only [run_s, run_0, rM_herbsOf, rok_i, rok_z, bx_cons, bx_nil, eADD, eBP, eC0, eCS3, eGO, eIALD, jICge, eINC4, eLA0, eLI1, eLI2, eLI3, eLI4, eRI, eSI3, eSI4, fM_herbsOf_0, fM_herbsOf_5, fM_herbsOf_12, fM_herbsOf_30, bM_herbsOf_0, bM_herbsOf_5, bM_herbsOf_12, bM_herbsOf_30, ty_m, Option.toList_some, Option.toList_none, List.cons_append, List.nil_append, List.length_cons, List.length_nil, List.mem_cons, List.not_mem_nil, or_false, false_or, or_true, true_or, ↓reduceIte, true_and, and_true, Nat.reduceEqDiff, Nat.reduceAdd, Nat.reduceLeDiff, dl_i, dl_r, dl_n, dl_u, eq_self, not_true_eq_false, not_false_eq_true, n10, n01, nm0, n0m, imp_t, imp_f]
      exact ⟨fun _ => h, fun q => absurd (by decide) q⟩
    | succ g ih =>
      intro k hk
      refine hgo 20 [5] 5 _ _ _ _ _ ?_
      simp only [run_s, run_0, rM_herbsOf, rok_i, rok_z, bx_cons, bx_nil, eADD, eBP, eC0, eCS3, eGO, eIALD, jICge, eINC4, eLA0, eLI1, eLI2, eLI3, eLI4, eRI, eSI3, eSI4, fM_herbsOf_0, fM_herbsOf_5, fM_herbsOf_12, fM_herbsOf_30, bM_herbsOf_0, bM_herbsOf_5, bM_herbsOf_12, bM_herbsOf_30, ty_m, Option.toList_some, Option.toList_none, List.cons_append, List.nil_append, List.length_cons, List.length_nil, List.mem_cons, List.not_mem_nil, or_false, false_or, or_true, true_or, ↓reduceIte, true_and, and_true, Nat.reduceEqDiff, Nat.reduceAdd, Nat.reduceLeDiff, dl_i, dl_r, dl_n, dl_u, eq_self, not_true_eq_false, not_false_eq_true, n10, n01, nm0, n0m, imp_t, imp_f]
      rw [nI_leI (by omega) (by omega)]
      refine ⟨fun q => absurd q (by omega), fun _ => ?_⟩
      refine call0 (c_herbAt ?_)
      simp only [run_s, run_0, rM_herbsOf, rok_i, rok_z, bx_cons, bx_nil, eADD, eBP, eC0, eCS3, eGO, eIALD, jICge, eINC4, eLA0, eLI1, eLI2, eLI3, eLI4, eRI, eSI3, eSI4, fM_herbsOf_0, fM_herbsOf_5, fM_herbsOf_12, fM_herbsOf_30, bM_herbsOf_0, bM_herbsOf_5, bM_herbsOf_12, bM_herbsOf_30, ty_m, Option.toList_some, Option.toList_none, List.cons_append, List.nil_append, List.length_cons, List.length_nil, List.mem_cons, List.not_mem_nil, or_false, false_or, or_true, true_or, ↓reduceIte, true_and, and_true, Nat.reduceEqDiff, Nat.reduceAdd, Nat.reduceLeDiff, dl_i, dl_r, dl_n, dl_u, eq_self, not_true_eq_false, not_false_eq_true, n10, n01, nm0, n0m, ha, imp_t, imp_f]
      refine ixr_n (by omega) ?_
      rw [nI_add]
      exact ih (k + 1) (by omega)
  refine hgo 20 [5] 0 _ _ _ _ _ ?_
  simp only [run_s, run_0, rM_herbsOf, rok_i, rok_z, bx_cons, bx_nil, eADD, eBP, eC0, eCS3, eGO, eIALD, jICge, eINC4, eLA0, eLI1, eLI2, eLI3, eLI4, eRI, eSI3, eSI4, fM_herbsOf_0, fM_herbsOf_5, fM_herbsOf_12, fM_herbsOf_30, bM_herbsOf_0, bM_herbsOf_5, bM_herbsOf_12, bM_herbsOf_30, ty_m, Option.toList_some, Option.toList_none, List.cons_append, List.nil_append, List.length_cons, List.length_nil, List.mem_cons, List.not_mem_nil, or_false, false_or, or_true, true_or, ↓reduceIte, true_and, and_true, Nat.reduceEqDiff, Nat.reduceAdd, Nat.reduceLeDiff, dl_i, dl_r, dl_n, dl_u, eq_self, not_true_eq_false, not_false_eq_true, n10, n01, nm0, n0m, imp_t, imp_f]
  exact loop 9 0 rfl
theorem c_basin {a v w : Nat} (ha : tyc shN E a = 101) (hal : 502 ≤ len shN E a) (hv : v < 9) (hw : w < 4) (h : kr (some (.int (if w = 0 then I a v else smI (fun k => I a (9 + 27 * v + 9 * (w - 1) + k)) 9))) I E) : Ex Γ l shN (d + 3) (0, 0) mM_basin [.ref a, .int (nI v), .int (nI w)] I E kr kx := by
  refine ex_of (ls0 := [some (.ref a), some (.int (nI v)), some (.int (nI w))]) tM_basin (by decide +kernel) kM_basin rfl (Nat.le_of_ble_eq_true rfl) rfl ?_
  intro go hgo
  refine hgo 20 [] 0 _ _ _ _ _ ?_
  simp only [run_s, run_0, rM_basin, rok_i, rok_z, bx_cons, bx_nil, eADD, eC0, eC1, eCS3, eGO, eIALD, jIFne, eLA0, eLI1, eLI2, eRI, eSUB, fM_basin_0, fM_basin_4, fM_basin_12, fM_basin_20, bM_basin_0, bM_basin_4, bM_basin_12, bM_basin_20, ty_m, Option.toList_some, Option.toList_none, List.cons_append, List.nil_append, List.length_cons, List.length_nil, List.mem_cons, List.not_mem_nil, or_false, false_or, or_true, true_or, ↓reduceIte, true_and, and_true, Nat.reduceEqDiff, Nat.reduceAdd, Nat.reduceLeDiff, dl_i, dl_r, dl_n, dl_u, eq_self, not_true_eq_false, not_false_eq_true, n10, n01, nm0, n0m, ha, imp_t, imp_f]
  rw [nI_eq (by omega) (by omega)]
  refine ⟨fun q => ?_, fun q => ?_⟩
  · rw [if_neg q] at h
    rw [pk_sub (by omega)]
    refine call0 (c_herbsOf ha hal hv (by omega) ?_)
    simp only [run_s, run_0, rM_basin, rok_i, rok_z, bx_cons, bx_nil, eADD, eC0, eC1, eCS3, eGO, eIALD, jIFne, eLA0, eLI1, eLI2, eRI, eSUB, fM_basin_0, fM_basin_4, fM_basin_12, fM_basin_20, bM_basin_0, bM_basin_4, bM_basin_12, bM_basin_20, ty_m, Option.toList_some, Option.toList_none, List.cons_append, List.nil_append, List.length_cons, List.length_nil, List.mem_cons, List.not_mem_nil, or_false, false_or, or_true, true_or, ↓reduceIte, true_and, and_true, Nat.reduceEqDiff, Nat.reduceAdd, Nat.reduceLeDiff, dl_i, dl_r, dl_n, dl_u, eq_self, not_true_eq_false, not_false_eq_true, n10, n01, nm0, n0m, imp_t, imp_f]
    exact h
  · rw [if_pos q] at h
    rw [nI_add]
    refine ixr_n (by omega) ?_
    rw [Nat.zero_add]
    exact h
/-- the view of a row -/
def vwI (r : Nat → Int32) : Int32 := (((nI 0) ||| (if nI 0 < r 498 then nI 1 <<< (nI 0 &&& 31) else nI 0)) ||| (if nI 0 < r 499 then nI 1 <<< (nI 1 &&& 31) else nI 0)) ||| (if nI 0 < r 500 then nI 1 <<< (nI 2 &&& 31) else nI 0)
theorem c_viewOf {a : Nat} (ha : tyc shN E a = 101) (hal : 502 ≤ len shN E a) (h : kr (some (.int (vwI (I a)))) I E) : Ex Γ l shN (d + 1) (0, 0) mM_viewOf [.ref a] I E kr kx := by
  refine ex_of (ls0 := [some (.ref a), none, none]) tM_viewOf (by decide +kernel) kM_viewOf rfl (Nat.le_of_ble_eq_true rfl) rfl ?_
  intro go hgo
  refine hgo 20 [4] 0 _ _ _ _ _ ?_
  simp only [run_s, run_0, rM_viewOf, rok_i, rok_z, bx_cons, bx_nil, eADD, eC0, eC1, eC3, eGO, eIALD, jICge, jIFle, eINC2, eLA0, eLI1, eLI2, eOR, eRI, eSHL, eSI1, eSI2, eSP, fM_viewOf_0, fM_viewOf_4, fM_viewOf_9, fM_viewOf_20, fM_viewOf_26, fM_viewOf_27, fM_viewOf_35, bM_viewOf_0, bM_viewOf_4, bM_viewOf_9, bM_viewOf_20, bM_viewOf_26, bM_viewOf_27, bM_viewOf_35, ty_m, Option.toList_some, Option.toList_none, List.cons_append, List.nil_append, List.length_cons, List.length_nil, List.mem_cons, List.not_mem_nil, or_false, false_or, or_true, true_or, ↓reduceIte, true_and, and_true, Nat.reduceEqDiff, Nat.reduceAdd, Nat.reduceLeDiff, dl_i, dl_r, dl_n, dl_u, eq_self, not_true_eq_false, not_false_eq_true, n10, n01, nm0, n0m, imp_t, imp_f]
  have body : ∀ (x : Int32) (k : Nat), k < 3 → go 4 [some (.ref a), some (.int (x ||| (if nI 0 < I a (498 + k) then nI 1 <<< (nI k &&& 31) else nI 0))), some (.int (nI (k + 1)))] [] I E (0, 0) → go 4 [some (.ref a), some (.int x), some (.int (nI k))] [] I E (0, 0) := by
    intro x k hk hn
    refine hgo 20 [4] 4 _ _ _ _ _ ?_
    simp only [run_s, run_0, rM_viewOf, rok_i, rok_z, bx_cons, bx_nil, eADD, eC0, eC1, eC3, eGO, eIALD, jICge, jIFle, eINC2, eLA0, eLI1, eLI2, eOR, eRI, eSHL, eSI1, eSI2, eSP, fM_viewOf_0, fM_viewOf_4, fM_viewOf_9, fM_viewOf_20, fM_viewOf_26, fM_viewOf_27, fM_viewOf_35, bM_viewOf_0, bM_viewOf_4, bM_viewOf_9, bM_viewOf_20, bM_viewOf_26, bM_viewOf_27, bM_viewOf_35, ty_m, Option.toList_some, Option.toList_none, List.cons_append, List.nil_append, List.length_cons, List.length_nil, List.mem_cons, List.not_mem_nil, or_false, false_or, or_true, true_or, ↓reduceIte, true_and, and_true, Nat.reduceEqDiff, Nat.reduceAdd, Nat.reduceLeDiff, dl_i, dl_r, dl_n, dl_u, eq_self, not_true_eq_false, not_false_eq_true, n10, n01, nm0, n0m, ha, imp_t, imp_f]
    rw [nI_leI (by omega) (by omega)]
    refine ⟨fun q => absurd q (by omega), fun _ => ?_⟩
    rw [nI_add]
    refine ixr_n (by omega) ?_
    rw [nI_add]
    refine ⟨fun q => ?_, fun q => ?_⟩
    · rw [if_neg (i32_nlt.mpr q)] at hn; exact hn
    · rw [if_pos (i32_nle.mp q)] at hn; exact hn
  refine body _ 0 (by decide) (body _ 1 (by decide) (body _ 2 (by decide) ?_))
  refine hgo 20 [4] 4 _ _ _ _ _ ?_
  simp only [run_s, run_0, rM_viewOf, rok_i, rok_z, bx_cons, bx_nil, eADD, eC0, eC1, eC3, eGO, eIALD, jICge, jIFle, eINC2, eLA0, eLI1, eLI2, eOR, eRI, eSHL, eSI1, eSI2, eSP, fM_viewOf_0, fM_viewOf_4, fM_viewOf_9, fM_viewOf_20, fM_viewOf_26, fM_viewOf_27, fM_viewOf_35, bM_viewOf_0, bM_viewOf_4, bM_viewOf_9, bM_viewOf_20, bM_viewOf_26, bM_viewOf_27, bM_viewOf_35, ty_m, Option.toList_some, Option.toList_none, List.cons_append, List.nil_append, List.length_cons, List.length_nil, List.mem_cons, List.not_mem_nil, or_false, false_or, or_true, true_or, ↓reduceIte, true_and, and_true, Nat.reduceEqDiff, Nat.reduceAdd, Nat.reduceLeDiff, dl_i, dl_r, dl_n, dl_u, eq_self, not_true_eq_false, not_false_eq_true, n10, n01, nm0, n0m, imp_t, imp_f]
  exact ⟨fun _ => h, fun q => absurd (by decide) q⟩
theorem c_asNow (h : kr none (up (up (up (up (up (up I 500000 41 (I 500000 37)) 500000 42 (I 500000 38)) 500000 49 (nI 1)) 500000 43 (-1)) 500000 46 (-1)) 500000 47 (nI 0)) E) : Ex Γ l shN (d + 1) (0, 0) mM_asNow [.ref 500000] I E kr kx := by
  refine ex_of (ls0 := [some (.ref 500000)]) tM_asNow (by decide +kernel) kM_asNow rfl (Nat.le_of_ble_eq_true rfl) rfl ?_
  intro go hgo
  refine hgo 20 [] 0 _ _ _ _ _ ?_
  simp only [run_s, run_0, rM_asNow, rok_i, rok_z, bx_cons, bx_nil, eC0, eC1, eCm1, eGI, eLA0, ePI, ePZ, eRV, fM_asNow_0, bM_asNow_0, ty_m, Option.toList_some, Option.toList_none, List.cons_append, List.nil_append, List.length_cons, List.length_nil, List.mem_cons, List.not_mem_nil, or_false, false_or, or_true, true_or, ↓reduceIte, true_and, and_true, Nat.reduceEqDiff, Nat.reduceAdd, Nat.reduceLeDiff, dl_i, dl_r, dl_n, dl_u, eq_self, not_true_eq_false, not_false_eq_true, n10, n01, nm0, n0m, imp_t, imp_f]
  rw [up_n (by omega)]
  exact h
theorem c_fromBegin {x : Int32} (h : kr none (cp (up (up (up (up (up (up I 500000 41 (nI 0)) 500000 42 x) 500000 49 (nI 0)) 500000 43 (-1)) 500000 46 (-1)) 500000 47 (nI 0)) 500127 500126 502) E) : Ex Γ l shN (d + 2) (0, 0) mM_fromBegin [.ref 500000, .int x] I E kr kx := by
  refine ex_of (ls0 := [some (.ref 500000), some (.int x)]) tM_fromBegin (by decide +kernel) kM_fromBegin rfl (Nat.le_of_ble_eq_true rfl) rfl ?_
  intro go hgo
  refine hgo 20 [] 0 _ _ _ _ _ ?_
  simp only [run_s, run_0, rM_fromBegin, rok_i, rok_z, bx_cons, bx_nil, eC0, eCS2, eCm1, eGR, eLA0, eLI1, ePI, ePZ, eRV, fM_fromBegin_0, bM_fromBegin_0, ln_mbegun, ln_mtrial, rg_m_34, rg_m_35, ty_m, ty_mbegun, ty_mtrial, Option.toList_some, Option.toList_none, List.cons_append, List.nil_append, List.length_cons, List.length_nil, List.mem_cons, List.not_mem_nil, or_false, false_or, or_true, true_or, ↓reduceIte, true_and, and_true, Nat.reduceEqDiff, Nat.reduceAdd, Nat.reduceLeDiff, dl_i, dl_r, dl_n, dl_u, eq_self, not_true_eq_false, not_false_eq_true, n10, n01, nm0, n0m, imp_t, imp_f]
  refine call0 (c_copies ty_mbegun (by rw [ln_mbegun]; decide) ty_mtrial (by rw [ln_mtrial]; decide) (by decide) ?_)
  simp only [run_s, run_0, rM_fromBegin, rok_i, rok_z, bx_cons, bx_nil, eC0, eCS2, eCm1, eGR, eLA0, eLI1, ePI, ePZ, eRV, fM_fromBegin_0, bM_fromBegin_0, ln_mbegun, ln_mtrial, rg_m_34, rg_m_35, ty_m, ty_mbegun, ty_mtrial, Option.toList_some, Option.toList_none, List.cons_append, List.nil_append, List.length_cons, List.length_nil, List.mem_cons, List.not_mem_nil, or_false, false_or, or_true, true_or, ↓reduceIte, true_and, and_true, Nat.reduceEqDiff, Nat.reduceAdd, Nat.reduceLeDiff, dl_i, dl_r, dl_n, dl_u, eq_self, not_true_eq_false, not_false_eq_true, n10, n01, nm0, n0m, imp_t, imp_f]
  exact h
theorem c_ones {x : Int32} (h : kr (some (.int (smI (fun k => x >>> (nI k &&& 31) &&& nI 1) 9))) I E) : Ex Γ l shN (d + 1) (0, 0) mM_ones [.int x] I E kr kx := by
  refine ex_of (ls0 := [some (.int x), none, none]) tM_ones (by decide +kernel) kM_ones rfl (Nat.le_of_ble_eq_true rfl) rfl ?_
  intro go hgo
  have loop : ∀ (g k : Nat), g + k = 9 → go 4 [some (.int x), some (.int (smI (fun k => x >>> (nI k &&& 31) &&& nI 1) k)), some (.int (nI k))] [] I E (0, 0) := by
    intro g
    induction g with
    | zero =>
      intro k hk
      have : k = 9 := by omega
      subst this
      refine hgo 20 [4] 4 _ _ _ _ _ ?_
      simp only [run_s, run_0, rM_ones, rok_i, rok_z, bx_cons, bx_nil, eADD, eAND, eBP, eC0, eC1, eGO, jICge, eINC2, eLI0, eLI1, eLI2, eRI, eSHR, eSI1, eSI2, fM_ones_0, fM_ones_4, fM_ones_10, fM_ones_24, bM_ones_0, bM_ones_4, bM_ones_10, bM_ones_24, ty_m, Option.toList_some, Option.toList_none, List.cons_append, List.nil_append, List.length_cons, List.length_nil, List.mem_cons, List.not_mem_nil, or_false, false_or, or_true, true_or, ↓reduceIte, true_and, and_true, Nat.reduceEqDiff, Nat.reduceAdd, Nat.reduceLeDiff, dl_i, dl_r, dl_n, dl_u, eq_self, not_true_eq_false, not_false_eq_true, n10, n01, nm0, n0m, imp_t, imp_f]
      exact ⟨fun _ => h, fun q => absurd (by decide) q⟩
    | succ g ih =>
      intro k hk
      refine hgo 20 [4] 4 _ _ _ _ _ ?_
      simp only [run_s, run_0, rM_ones, rok_i, rok_z, bx_cons, bx_nil, eADD, eAND, eBP, eC0, eC1, eGO, jICge, eINC2, eLI0, eLI1, eLI2, eRI, eSHR, eSI1, eSI2, fM_ones_0, fM_ones_4, fM_ones_10, fM_ones_24, bM_ones_0, bM_ones_4, bM_ones_10, bM_ones_24, ty_m, Option.toList_some, Option.toList_none, List.cons_append, List.nil_append, List.length_cons, List.length_nil, List.mem_cons, List.not_mem_nil, or_false, false_or, or_true, true_or, ↓reduceIte, true_and, and_true, Nat.reduceEqDiff, Nat.reduceAdd, Nat.reduceLeDiff, dl_i, dl_r, dl_n, dl_u, eq_self, not_true_eq_false, not_false_eq_true, n10, n01, nm0, n0m, imp_t, imp_f]
      rw [nI_leI (by omega) (by omega), nI_add]
      exact ⟨fun q => absurd q (by omega), fun _ => ih (k + 1) (by omega)⟩
  refine hgo 20 [4] 0 _ _ _ _ _ ?_
  simp only [run_s, run_0, rM_ones, rok_i, rok_z, bx_cons, bx_nil, eADD, eAND, eBP, eC0, eC1, eGO, jICge, eINC2, eLI0, eLI1, eLI2, eRI, eSHR, eSI1, eSI2, fM_ones_0, fM_ones_4, fM_ones_10, fM_ones_24, bM_ones_0, bM_ones_4, bM_ones_10, bM_ones_24, ty_m, Option.toList_some, Option.toList_none, List.cons_append, List.nil_append, List.length_cons, List.length_nil, List.mem_cons, List.not_mem_nil, or_false, false_or, or_true, true_or, ↓reduceIte, true_and, and_true, Nat.reduceEqDiff, Nat.reduceAdd, Nat.reduceLeDiff, dl_i, dl_r, dl_n, dl_u, eq_self, not_true_eq_false, not_false_eq_true, n10, n01, nm0, n0m, imp_t, imp_f]
  exact loop 9 0 rfl
end CM3
