/-! contracts of HerbWatersModel, 15: the face, 5 -/
section CM16
variable {Γ : Gm} {l : Launch} {d : Nat} {I : Iv} {E : Ev} {kr : Kr} {kx : Kxx}
theorem c_sums {x : Int32} (h1 : ¬ (nI 0 ≤ x ∧ x ≤ nI 4) → kr (some (.int (nI 0))) (ref1 (up I 500000 0 (nI 0)) (nI 1) 1) E)
    (h2 : x = nI 0 → kr (some (.int (smI (fun k => I 500124 (441 + k)) 27))) (up I 500000 0 (nI 0)) E)
    (h3 : x = nI 1 → kr (some (.int (smI (fun k => I 500124 (468 + k)) 27))) (up I 500000 0 (nI 0)) E)
    (h4 : x = nI 2 → kr (some (.int (I 500124 495))) (up I 500000 0 (nI 0)) E)
    (h5 : x = nI 3 → kr (some (.int (I 500124 496))) (up I 500000 0 (nI 0)) E)
    (h6 : x = nI 4 → kr (some (.int (smI (fun k => I 500124 (9 + k)) 243))) (up I 500000 0 (nI 0)) E) : Ex Γ l shN (d + 2) (0, 0) mM_sums [.ref 500000, .int x] I E kr kx := by
  refine ex_of (ls0 := [some (.ref 500000), some (.int x), none, none]) tM_sums (by decide +kernel) kM_sums rfl (Nat.le_of_ble_eq_true rfl) rfl ?_
  intro go hgo
  have e0 : up I 500000 0 (nI 0) 500124 = I 500124 := by funext z; exact up_n (by omega)
  refine hgo 20 [38, 70, 131] 0 _ _ _ _ _ ?_
  simp only [ixr_of, run_s, run_0, rM_sums, rok_i, rok_z, bx_cons, bx_nil, eADD, eBP, eC0, eC1, eC2, eC3, eC4, eCS3, eCV3, eGO, eGR, eIALD, jICge, jICne, jIFeq, jIFne, eINC3, eLA0, eLI1, eLI2, eLI3, ePI, eRI, eSI2, eSI3, eSP, fM_sums_0, fM_sums_15, fM_sums_19, fM_sums_20, fM_sums_28, fM_sums_30, fM_sums_36, fM_sums_38, fM_sums_44, fM_sums_63, fM_sums_68, fM_sums_70, fM_sums_76, fM_sums_95, fM_sums_100, fM_sums_109, fM_sums_114, fM_sums_123, fM_sums_128, fM_sums_131, fM_sums_138, fM_sums_153, bM_sums_0, bM_sums_15, bM_sums_19, bM_sums_20, bM_sums_28, bM_sums_30, bM_sums_36, bM_sums_38, bM_sums_44, bM_sums_63, bM_sums_68, bM_sums_70, bM_sums_76, bM_sums_95, bM_sums_100, bM_sums_109, bM_sums_114, bM_sums_123, bM_sums_128, bM_sums_131, bM_sums_138, bM_sums_153, ln_mnow, rg_m_32, ty_m, ty_mnow, Option.toList_some, Option.toList_none, List.cons_append, List.nil_append, List.length_cons, List.length_nil, List.mem_cons, List.not_mem_nil, or_false, false_or, or_true, true_or, ↓reduceIte, true_and, and_true, Nat.reduceEqDiff, Nat.reduceAdd, Nat.reduceLeDiff, Nat.reduceLT, dl_i, dl_r, dl_n, dl_u, eq_self, not_true_eq_false, not_false_eq_true, n10, n01, nm0, n0m, imp_t, imp_f]
  refine call0 (c_in ?_)
  simp only [ixr_of, run_s, run_0, rM_sums, rok_i, rok_z, bx_cons, bx_nil, eADD, eBP, eC0, eC1, eC2, eC3, eC4, eCS3, eCV3, eGO, eGR, eIALD, jICge, jICne, jIFeq, jIFne, eINC3, eLA0, eLI1, eLI2, eLI3, ePI, eRI, eSI2, eSI3, eSP, fM_sums_0, fM_sums_15, fM_sums_19, fM_sums_20, fM_sums_28, fM_sums_30, fM_sums_36, fM_sums_38, fM_sums_44, fM_sums_63, fM_sums_68, fM_sums_70, fM_sums_76, fM_sums_95, fM_sums_100, fM_sums_109, fM_sums_114, fM_sums_123, fM_sums_128, fM_sums_131, fM_sums_138, fM_sums_153, bM_sums_0, bM_sums_15, bM_sums_19, bM_sums_20, bM_sums_28, bM_sums_30, bM_sums_36, bM_sums_38, bM_sums_44, bM_sums_63, bM_sums_68, bM_sums_70, bM_sums_76, bM_sums_95, bM_sums_100, bM_sums_109, bM_sums_114, bM_sums_123, bM_sums_128, bM_sums_131, bM_sums_138, bM_sums_153, ln_mnow, rg_m_32, ty_m, ty_mnow, Option.toList_some, Option.toList_none, List.cons_append, List.nil_append, List.length_cons, List.length_nil, List.mem_cons, List.not_mem_nil, or_false, false_or, or_true, true_or, ↓reduceIte, true_and, and_true, Nat.reduceEqDiff, Nat.reduceAdd, Nat.reduceLeDiff, Nat.reduceLT, dl_i, dl_r, dl_n, dl_u, eq_self, not_true_eq_false, not_false_eq_true, n10, n01, nm0, n0m, imp_t, imp_f]
  by_cases hc0 : nI 0 ≤ x ∧ x ≤ nI 4
  rotate_left
  · rw [bi_f hc0]
    refine ⟨fun q => absurd rfl q, fun _ => ?_⟩
    refine call0 (c_bad0 (by decide) (by decide) up_s (fun q => absurd q n10) (fun _ => ?_))
    simp only [ixr_of, run_s, run_0, rM_sums, rok_i, rok_z, bx_cons, bx_nil, eADD, eBP, eC0, eC1, eC2, eC3, eC4, eCS3, eCV3, eGO, eGR, eIALD, jICge, jICne, jIFeq, jIFne, eINC3, eLA0, eLI1, eLI2, eLI3, ePI, eRI, eSI2, eSI3, eSP, fM_sums_0, fM_sums_15, fM_sums_19, fM_sums_20, fM_sums_28, fM_sums_30, fM_sums_36, fM_sums_38, fM_sums_44, fM_sums_63, fM_sums_68, fM_sums_70, fM_sums_76, fM_sums_95, fM_sums_100, fM_sums_109, fM_sums_114, fM_sums_123, fM_sums_128, fM_sums_131, fM_sums_138, fM_sums_153, bM_sums_0, bM_sums_15, bM_sums_19, bM_sums_20, bM_sums_28, bM_sums_30, bM_sums_36, bM_sums_38, bM_sums_44, bM_sums_63, bM_sums_68, bM_sums_70, bM_sums_76, bM_sums_95, bM_sums_100, bM_sums_109, bM_sums_114, bM_sums_123, bM_sums_128, bM_sums_131, bM_sums_138, bM_sums_153, ln_mnow, rg_m_32, ty_m, ty_mnow, Option.toList_some, Option.toList_none, List.cons_append, List.nil_append, List.length_cons, List.length_nil, List.mem_cons, List.not_mem_nil, or_false, false_or, or_true, true_or, ↓reduceIte, true_and, and_true, Nat.reduceEqDiff, Nat.reduceAdd, Nat.reduceLeDiff, Nat.reduceLT, dl_i, dl_r, dl_n, dl_u, eq_self, not_true_eq_false, not_false_eq_true, n10, n01, nm0, n0m, imp_t, imp_f]
    exact h1  hc0
  rw [bi_t hc0]
  refine ⟨fun _ => ?_, fun q => absurd q n10⟩
  refine call0 (c_bad0 (by decide) (by decide) up_s (fun _ => ?_) (fun q => absurd rfl q))
  simp only [ixr_of, run_s, run_0, rM_sums, rok_i, rok_z, bx_cons, bx_nil, eADD, eBP, eC0, eC1, eC2, eC3, eC4, eCS3, eCV3, eGO, eGR, eIALD, jICge, jICne, jIFeq, jIFne, eINC3, eLA0, eLI1, eLI2, eLI3, ePI, eRI, eSI2, eSI3, eSP, fM_sums_0, fM_sums_15, fM_sums_19, fM_sums_20, fM_sums_28, fM_sums_30, fM_sums_36, fM_sums_38, fM_sums_44, fM_sums_63, fM_sums_68, fM_sums_70, fM_sums_76, fM_sums_95, fM_sums_100, fM_sums_109, fM_sums_114, fM_sums_123, fM_sums_128, fM_sums_131, fM_sums_138, fM_sums_153, bM_sums_0, bM_sums_15, bM_sums_19, bM_sums_20, bM_sums_28, bM_sums_30, bM_sums_36, bM_sums_38, bM_sums_44, bM_sums_63, bM_sums_68, bM_sums_70, bM_sums_76, bM_sums_95, bM_sums_100, bM_sums_109, bM_sums_114, bM_sums_123, bM_sums_128, bM_sums_131, bM_sums_138, bM_sums_153, ln_mnow, rg_m_32, ty_m, ty_mnow, Option.toList_some, Option.toList_none, List.cons_append, List.nil_append, List.length_cons, List.length_nil, List.mem_cons, List.not_mem_nil, or_false, false_or, or_true, true_or, ↓reduceIte, true_and, and_true, Nat.reduceEqDiff, Nat.reduceAdd, Nat.reduceLeDiff, Nat.reduceLT, dl_i, dl_r, dl_n, dl_u, eq_self, not_true_eq_false, not_false_eq_true, n10, n01, nm0, n0m, imp_t, imp_f]
  obtain ⟨n, hn, rfl⟩ := rng (by decide) hc0
  have hn8 : n = 0 ∨ n = 1 ∨ n = 2 ∨ n = 3 ∨ n = 4 := by omega
  rcases hn8 with rfl | rfl | rfl | rfl | rfl
  · have loop : ∀ (g k : Nat), g + k = 27 → go 38 [some (.ref 500000), some (.int (nI 0)), some (.int (smI (fun k => I 500124 (441 + k)) k)), some (.int (nI k))] [] (up I 500000 0 (nI 0)) E (0, 0) := by
      intro g
      induction g with
      | zero =>
        intro k hk
        have : k = 27 := by omega
        subst this
        refine hgo 20 [38, 70, 131] 38 _ _ _ _ _ ?_
        simp only [ixr_of, run_s, run_0, rM_sums, rok_i, rok_z, bx_cons, bx_nil, eADD, eBP, eC0, eC1, eC2, eC3, eC4, eCS3, eCV3, eGO, eGR, eIALD, jICge, jICne, jIFeq, jIFne, eINC3, eLA0, eLI1, eLI2, eLI3, ePI, eRI, eSI2, eSI3, eSP, fM_sums_0, fM_sums_15, fM_sums_19, fM_sums_20, fM_sums_28, fM_sums_30, fM_sums_36, fM_sums_38, fM_sums_44, fM_sums_63, fM_sums_68, fM_sums_70, fM_sums_76, fM_sums_95, fM_sums_100, fM_sums_109, fM_sums_114, fM_sums_123, fM_sums_128, fM_sums_131, fM_sums_138, fM_sums_153, bM_sums_0, bM_sums_15, bM_sums_19, bM_sums_20, bM_sums_28, bM_sums_30, bM_sums_36, bM_sums_38, bM_sums_44, bM_sums_63, bM_sums_68, bM_sums_70, bM_sums_76, bM_sums_95, bM_sums_100, bM_sums_109, bM_sums_114, bM_sums_123, bM_sums_128, bM_sums_131, bM_sums_138, bM_sums_153, ln_mnow, rg_m_32, ty_m, ty_mnow, Option.toList_some, Option.toList_none, List.cons_append, List.nil_append, List.length_cons, List.length_nil, List.mem_cons, List.not_mem_nil, or_false, false_or, or_true, true_or, ↓reduceIte, true_and, and_true, Nat.reduceEqDiff, Nat.reduceAdd, Nat.reduceLeDiff, Nat.reduceLT, dl_i, dl_r, dl_n, dl_u, eq_self, not_true_eq_false, not_false_eq_true, n10, n01, nm0, n0m, nIe, nIl, imp_t, imp_f]
        exact h2 rfl
      | succ g ih =>
        intro k hk
        have hi : 441 + k < 502 := by omega
        refine hgo 20 [38, 70, 131] 38 _ _ _ _ _ ?_
        simp only [ixr_of, run_s, run_0, rM_sums, rok_i, rok_z, bx_cons, bx_nil, eADD, eBP, eC0, eC1, eC2, eC3, eC4, eCS3, eCV3, eGO, eGR, eIALD, jICge, jICne, jIFeq, jIFne, eINC3, eLA0, eLI1, eLI2, eLI3, ePI, eRI, eSI2, eSI3, eSP, fM_sums_0, fM_sums_15, fM_sums_19, fM_sums_20, fM_sums_28, fM_sums_30, fM_sums_36, fM_sums_38, fM_sums_44, fM_sums_63, fM_sums_68, fM_sums_70, fM_sums_76, fM_sums_95, fM_sums_100, fM_sums_109, fM_sums_114, fM_sums_123, fM_sums_128, fM_sums_131, fM_sums_138, fM_sums_153, bM_sums_0, bM_sums_15, bM_sums_19, bM_sums_20, bM_sums_28, bM_sums_30, bM_sums_36, bM_sums_38, bM_sums_44, bM_sums_63, bM_sums_68, bM_sums_70, bM_sums_76, bM_sums_95, bM_sums_100, bM_sums_109, bM_sums_114, bM_sums_123, bM_sums_128, bM_sums_131, bM_sums_138, bM_sums_153, ln_mnow, rg_m_32, ty_m, ty_mnow, Option.toList_some, Option.toList_none, List.cons_append, List.nil_append, List.length_cons, List.length_nil, List.mem_cons, List.not_mem_nil, or_false, false_or, or_true, true_or, ↓reduceIte, true_and, and_true, Nat.reduceEqDiff, Nat.reduceAdd, Nat.reduceLeDiff, Nat.reduceLT, dl_i, dl_r, dl_n, dl_u, eq_self, not_true_eq_false, not_false_eq_true, n10, n01, nm0, n0m, nI_add, e0, hi, imp_t, imp_f]
        rw [nI_leI (by omega) (by omega)]
        exact ⟨fun q => absurd q (by omega), fun _ => ih (k + 1) (by omega)⟩
    simp only [imp_t, imp_f, true_and, and_true, not_true_eq_false, eq_self]
    exact loop 27 0 rfl
  · have loop : ∀ (g k : Nat), g + k = 27 → go 70 [some (.ref 500000), some (.int (nI 1)), some (.int (smI (fun k => I 500124 (468 + k)) k)), some (.int (nI k))] [] (up I 500000 0 (nI 0)) E (0, 0) := by
      intro g
      induction g with
      | zero =>
        intro k hk
        have : k = 27 := by omega
        subst this
        refine hgo 20 [38, 70, 131] 70 _ _ _ _ _ ?_
        simp only [ixr_of, run_s, run_0, rM_sums, rok_i, rok_z, bx_cons, bx_nil, eADD, eBP, eC0, eC1, eC2, eC3, eC4, eCS3, eCV3, eGO, eGR, eIALD, jICge, jICne, jIFeq, jIFne, eINC3, eLA0, eLI1, eLI2, eLI3, ePI, eRI, eSI2, eSI3, eSP, fM_sums_0, fM_sums_15, fM_sums_19, fM_sums_20, fM_sums_28, fM_sums_30, fM_sums_36, fM_sums_38, fM_sums_44, fM_sums_63, fM_sums_68, fM_sums_70, fM_sums_76, fM_sums_95, fM_sums_100, fM_sums_109, fM_sums_114, fM_sums_123, fM_sums_128, fM_sums_131, fM_sums_138, fM_sums_153, bM_sums_0, bM_sums_15, bM_sums_19, bM_sums_20, bM_sums_28, bM_sums_30, bM_sums_36, bM_sums_38, bM_sums_44, bM_sums_63, bM_sums_68, bM_sums_70, bM_sums_76, bM_sums_95, bM_sums_100, bM_sums_109, bM_sums_114, bM_sums_123, bM_sums_128, bM_sums_131, bM_sums_138, bM_sums_153, ln_mnow, rg_m_32, ty_m, ty_mnow, Option.toList_some, Option.toList_none, List.cons_append, List.nil_append, List.length_cons, List.length_nil, List.mem_cons, List.not_mem_nil, or_false, false_or, or_true, true_or, ↓reduceIte, true_and, and_true, Nat.reduceEqDiff, Nat.reduceAdd, Nat.reduceLeDiff, Nat.reduceLT, dl_i, dl_r, dl_n, dl_u, eq_self, not_true_eq_false, not_false_eq_true, n10, n01, nm0, n0m, nIe, nIl, imp_t, imp_f]
        exact h3 rfl
      | succ g ih =>
        intro k hk
        have hi : 468 + k < 502 := by omega
        refine hgo 20 [38, 70, 131] 70 _ _ _ _ _ ?_
        simp only [ixr_of, run_s, run_0, rM_sums, rok_i, rok_z, bx_cons, bx_nil, eADD, eBP, eC0, eC1, eC2, eC3, eC4, eCS3, eCV3, eGO, eGR, eIALD, jICge, jICne, jIFeq, jIFne, eINC3, eLA0, eLI1, eLI2, eLI3, ePI, eRI, eSI2, eSI3, eSP, fM_sums_0, fM_sums_15, fM_sums_19, fM_sums_20, fM_sums_28, fM_sums_30, fM_sums_36, fM_sums_38, fM_sums_44, fM_sums_63, fM_sums_68, fM_sums_70, fM_sums_76, fM_sums_95, fM_sums_100, fM_sums_109, fM_sums_114, fM_sums_123, fM_sums_128, fM_sums_131, fM_sums_138, fM_sums_153, bM_sums_0, bM_sums_15, bM_sums_19, bM_sums_20, bM_sums_28, bM_sums_30, bM_sums_36, bM_sums_38, bM_sums_44, bM_sums_63, bM_sums_68, bM_sums_70, bM_sums_76, bM_sums_95, bM_sums_100, bM_sums_109, bM_sums_114, bM_sums_123, bM_sums_128, bM_sums_131, bM_sums_138, bM_sums_153, ln_mnow, rg_m_32, ty_m, ty_mnow, Option.toList_some, Option.toList_none, List.cons_append, List.nil_append, List.length_cons, List.length_nil, List.mem_cons, List.not_mem_nil, or_false, false_or, or_true, true_or, ↓reduceIte, true_and, and_true, Nat.reduceEqDiff, Nat.reduceAdd, Nat.reduceLeDiff, Nat.reduceLT, dl_i, dl_r, dl_n, dl_u, eq_self, not_true_eq_false, not_false_eq_true, n10, n01, nm0, n0m, nI_add, e0, hi, imp_t, imp_f]
        rw [nI_leI (by omega) (by omega)]
        exact ⟨fun q => absurd q (by omega), fun _ => ih (k + 1) (by omega)⟩
    simp only [ixr_of, run_s, run_0, rM_sums, rok_i, rok_z, bx_cons, bx_nil, eADD, eBP, eC0, eC1, eC2, eC3, eC4, eCS3, eCV3, eGO, eGR, eIALD, jICge, jICne, jIFeq, jIFne, eINC3, eLA0, eLI1, eLI2, eLI3, ePI, eRI, eSI2, eSI3, eSP, fM_sums_0, fM_sums_15, fM_sums_19, fM_sums_20, fM_sums_28, fM_sums_30, fM_sums_36, fM_sums_38, fM_sums_44, fM_sums_63, fM_sums_68, fM_sums_70, fM_sums_76, fM_sums_95, fM_sums_100, fM_sums_109, fM_sums_114, fM_sums_123, fM_sums_128, fM_sums_131, fM_sums_138, fM_sums_153, bM_sums_0, bM_sums_15, bM_sums_19, bM_sums_20, bM_sums_28, bM_sums_30, bM_sums_36, bM_sums_38, bM_sums_44, bM_sums_63, bM_sums_68, bM_sums_70, bM_sums_76, bM_sums_95, bM_sums_100, bM_sums_109, bM_sums_114, bM_sums_123, bM_sums_128, bM_sums_131, bM_sums_138, bM_sums_153, ln_mnow, rg_m_32, ty_m, ty_mnow, Option.toList_some, Option.toList_none, List.cons_append, List.nil_append, List.length_cons, List.length_nil, List.mem_cons, List.not_mem_nil, or_false, false_or, or_true, true_or, ↓reduceIte, true_and, and_true, Nat.reduceEqDiff, Nat.reduceAdd, Nat.reduceLeDiff, Nat.reduceLT, dl_i, dl_r, dl_n, dl_u, eq_self, not_true_eq_false, not_false_eq_true, n10, n01, nm0, n0m, nIe, nIl, imp_t, imp_f]
    exact loop 27 0 rfl
  · simp only [ixr_of, run_s, run_0, rM_sums, rok_i, rok_z, bx_cons, bx_nil, eADD, eBP, eC0, eC1, eC2, eC3, eC4, eCS3, eCV3, eGO, eGR, eIALD, jICge, jICne, jIFeq, jIFne, eINC3, eLA0, eLI1, eLI2, eLI3, ePI, eRI, eSI2, eSI3, eSP, fM_sums_0, fM_sums_15, fM_sums_19, fM_sums_20, fM_sums_28, fM_sums_30, fM_sums_36, fM_sums_38, fM_sums_44, fM_sums_63, fM_sums_68, fM_sums_70, fM_sums_76, fM_sums_95, fM_sums_100, fM_sums_109, fM_sums_114, fM_sums_123, fM_sums_128, fM_sums_131, fM_sums_138, fM_sums_153, bM_sums_0, bM_sums_15, bM_sums_19, bM_sums_20, bM_sums_28, bM_sums_30, bM_sums_36, bM_sums_38, bM_sums_44, bM_sums_63, bM_sums_68, bM_sums_70, bM_sums_76, bM_sums_95, bM_sums_100, bM_sums_109, bM_sums_114, bM_sums_123, bM_sums_128, bM_sums_131, bM_sums_138, bM_sums_153, ln_mnow, rg_m_32, ty_m, ty_mnow, Option.toList_some, Option.toList_none, List.cons_append, List.nil_append, List.length_cons, List.length_nil, List.mem_cons, List.not_mem_nil, or_false, false_or, or_true, true_or, ↓reduceIte, true_and, and_true, Nat.reduceEqDiff, Nat.reduceAdd, Nat.reduceLeDiff, Nat.reduceLT, dl_i, dl_r, dl_n, dl_u, eq_self, not_true_eq_false, not_false_eq_true, n10, n01, nm0, n0m, nIe, nIl, e0, imp_t, imp_f]
    exact h4 rfl
  · simp only [ixr_of, run_s, run_0, rM_sums, rok_i, rok_z, bx_cons, bx_nil, eADD, eBP, eC0, eC1, eC2, eC3, eC4, eCS3, eCV3, eGO, eGR, eIALD, jICge, jICne, jIFeq, jIFne, eINC3, eLA0, eLI1, eLI2, eLI3, ePI, eRI, eSI2, eSI3, eSP, fM_sums_0, fM_sums_15, fM_sums_19, fM_sums_20, fM_sums_28, fM_sums_30, fM_sums_36, fM_sums_38, fM_sums_44, fM_sums_63, fM_sums_68, fM_sums_70, fM_sums_76, fM_sums_95, fM_sums_100, fM_sums_109, fM_sums_114, fM_sums_123, fM_sums_128, fM_sums_131, fM_sums_138, fM_sums_153, bM_sums_0, bM_sums_15, bM_sums_19, bM_sums_20, bM_sums_28, bM_sums_30, bM_sums_36, bM_sums_38, bM_sums_44, bM_sums_63, bM_sums_68, bM_sums_70, bM_sums_76, bM_sums_95, bM_sums_100, bM_sums_109, bM_sums_114, bM_sums_123, bM_sums_128, bM_sums_131, bM_sums_138, bM_sums_153, ln_mnow, rg_m_32, ty_m, ty_mnow, Option.toList_some, Option.toList_none, List.cons_append, List.nil_append, List.length_cons, List.length_nil, List.mem_cons, List.not_mem_nil, or_false, false_or, or_true, true_or, ↓reduceIte, true_and, and_true, Nat.reduceEqDiff, Nat.reduceAdd, Nat.reduceLeDiff, Nat.reduceLT, dl_i, dl_r, dl_n, dl_u, eq_self, not_true_eq_false, not_false_eq_true, n10, n01, nm0, n0m, nIe, nIl, e0, imp_t, imp_f]
    exact h5 rfl
  · have loop : ∀ (g k : Nat), g + k = 243 → go 131 [some (.ref 500000), some (.int (nI 4)), some (.int (smI (fun k => I 500124 (9 + k)) k)), some (.int (nI (9 + k)))] [] (up I 500000 0 (nI 0)) E (0, 0) := by
      intro g
      induction g with
      | zero =>
        intro k hk
        have : k = 243 := by omega
        subst this
        refine hgo 20 [38, 70, 131] 131 _ _ _ _ _ ?_
        simp only [ixr_of, run_s, run_0, rM_sums, rok_i, rok_z, bx_cons, bx_nil, eADD, eBP, eC0, eC1, eC2, eC3, eC4, eCS3, eCV3, eGO, eGR, eIALD, jICge, jICne, jIFeq, jIFne, eINC3, eLA0, eLI1, eLI2, eLI3, ePI, eRI, eSI2, eSI3, eSP, fM_sums_0, fM_sums_15, fM_sums_19, fM_sums_20, fM_sums_28, fM_sums_30, fM_sums_36, fM_sums_38, fM_sums_44, fM_sums_63, fM_sums_68, fM_sums_70, fM_sums_76, fM_sums_95, fM_sums_100, fM_sums_109, fM_sums_114, fM_sums_123, fM_sums_128, fM_sums_131, fM_sums_138, fM_sums_153, bM_sums_0, bM_sums_15, bM_sums_19, bM_sums_20, bM_sums_28, bM_sums_30, bM_sums_36, bM_sums_38, bM_sums_44, bM_sums_63, bM_sums_68, bM_sums_70, bM_sums_76, bM_sums_95, bM_sums_100, bM_sums_109, bM_sums_114, bM_sums_123, bM_sums_128, bM_sums_131, bM_sums_138, bM_sums_153, ln_mnow, rg_m_32, ty_m, ty_mnow, Option.toList_some, Option.toList_none, List.cons_append, List.nil_append, List.length_cons, List.length_nil, List.mem_cons, List.not_mem_nil, or_false, false_or, or_true, true_or, ↓reduceIte, true_and, and_true, Nat.reduceEqDiff, Nat.reduceAdd, Nat.reduceLeDiff, Nat.reduceLT, dl_i, dl_r, dl_n, dl_u, eq_self, not_true_eq_false, not_false_eq_true, n10, n01, nm0, n0m, nIe, nIl, imp_t, imp_f]
        exact h6 rfl
      | succ g ih =>
        intro k hk
        have hi : 9 + k < 502 := by omega
        refine hgo 20 [38, 70, 131] 131 _ _ _ _ _ ?_
        simp only [ixr_of, run_s, run_0, rM_sums, rok_i, rok_z, bx_cons, bx_nil, eADD, eBP, eC0, eC1, eC2, eC3, eC4, eCS3, eCV3, eGO, eGR, eIALD, jICge, jICne, jIFeq, jIFne, eINC3, eLA0, eLI1, eLI2, eLI3, ePI, eRI, eSI2, eSI3, eSP, fM_sums_0, fM_sums_15, fM_sums_19, fM_sums_20, fM_sums_28, fM_sums_30, fM_sums_36, fM_sums_38, fM_sums_44, fM_sums_63, fM_sums_68, fM_sums_70, fM_sums_76, fM_sums_95, fM_sums_100, fM_sums_109, fM_sums_114, fM_sums_123, fM_sums_128, fM_sums_131, fM_sums_138, fM_sums_153, bM_sums_0, bM_sums_15, bM_sums_19, bM_sums_20, bM_sums_28, bM_sums_30, bM_sums_36, bM_sums_38, bM_sums_44, bM_sums_63, bM_sums_68, bM_sums_70, bM_sums_76, bM_sums_95, bM_sums_100, bM_sums_109, bM_sums_114, bM_sums_123, bM_sums_128, bM_sums_131, bM_sums_138, bM_sums_153, ln_mnow, rg_m_32, ty_m, ty_mnow, Option.toList_some, Option.toList_none, List.cons_append, List.nil_append, List.length_cons, List.length_nil, List.mem_cons, List.not_mem_nil, or_false, false_or, or_true, true_or, ↓reduceIte, true_and, and_true, Nat.reduceEqDiff, Nat.reduceAdd, Nat.reduceLeDiff, Nat.reduceLT, dl_i, dl_r, dl_n, dl_u, eq_self, not_true_eq_false, not_false_eq_true, n10, n01, nm0, n0m, nI_add, e0, hi, imp_t, imp_f]
        rw [nI_leI (by omega) (by omega)]
        exact ⟨fun q => absurd q (by omega), fun _ => ih (k + 1) (by omega)⟩
    simp only [ixr_of, run_s, run_0, rM_sums, rok_i, rok_z, bx_cons, bx_nil, eADD, eBP, eC0, eC1, eC2, eC3, eC4, eCS3, eCV3, eGO, eGR, eIALD, jICge, jICne, jIFeq, jIFne, eINC3, eLA0, eLI1, eLI2, eLI3, ePI, eRI, eSI2, eSI3, eSP, fM_sums_0, fM_sums_15, fM_sums_19, fM_sums_20, fM_sums_28, fM_sums_30, fM_sums_36, fM_sums_38, fM_sums_44, fM_sums_63, fM_sums_68, fM_sums_70, fM_sums_76, fM_sums_95, fM_sums_100, fM_sums_109, fM_sums_114, fM_sums_123, fM_sums_128, fM_sums_131, fM_sums_138, fM_sums_153, bM_sums_0, bM_sums_15, bM_sums_19, bM_sums_20, bM_sums_28, bM_sums_30, bM_sums_36, bM_sums_38, bM_sums_44, bM_sums_63, bM_sums_68, bM_sums_70, bM_sums_76, bM_sums_95, bM_sums_100, bM_sums_109, bM_sums_114, bM_sums_123, bM_sums_128, bM_sums_131, bM_sums_138, bM_sums_153, ln_mnow, rg_m_32, ty_m, ty_mnow, Option.toList_some, Option.toList_none, List.cons_append, List.nil_append, List.length_cons, List.length_nil, List.mem_cons, List.not_mem_nil, or_false, false_or, or_true, true_or, ↓reduceIte, true_and, and_true, Nat.reduceEqDiff, Nat.reduceAdd, Nat.reduceLeDiff, Nat.reduceLT, dl_i, dl_r, dl_n, dl_u, eq_self, not_true_eq_false, not_false_eq_true, n10, n01, nm0, n0m, nIe, nIl, imp_t, imp_f]
    exact loop 243 0 rfl
/-- parts that stay -/
def styI (I : Iv) (v : Nat) : Nat → Int32
  | 0 => nI 8 - I (500016 + v) 2 - (if I 500004 2 = nI v then I 500004 3 else nI 0)
  | c + 1 => styI I v c - (if I (500047 + c) 0 = nI v then I (500047 + c) 2 else nI 0)
theorem c_staying {v nC : Nat} (hv : v < 9) (h1 : I 500004 1 = nI nC) (hC : nC ≤ 20) (h : kr (some (.int (styI I v nC))) I E) : Ex Γ l shN (d + 1) (0, 0) mM_staying [.ref 500000, .int (nI v)] I E kr kx := by
  refine ex_of (ls0 := [some (.ref 500000), some (.int (nI v)), none, none]) tM_staying (by decide +kernel) kM_staying rfl (Nat.le_of_ble_eq_true rfl) rfl ?_
  intro go hgo
  have loop : ∀ (g k : Nat), g + k = nC → go 35 [some (.ref 500000), some (.int (nI v)), some (.int (styI I v k)), some (.int (nI k))] [] I E (0, 0) := by
    intro g
    induction g with
    | zero =>
      intro k hk
      have : k = nC := by omega
      subst this
      refine hgo 20 [35] 35 _ _ _ _ _ ?_
      simp only [ixr_of, run_s, run_0, rM_staying, rok_i, rok_z, bx_cons, bx_nil, eAALD107, eBP, eC0, eC1, eC2, eC3, eGO, eGR, eIALD, jICge, jICne, eINC3, eLA0, eLI1, eLI2, eLI3, eRI, eSI2, eSI3, eSUB, fM_staying_0, fM_staying_21, fM_staying_30, fM_staying_31, fM_staying_35, fM_staying_45, fM_staying_58, fM_staying_69, fM_staying_70, fM_staying_78, bM_staying_0, bM_staying_21, bM_staying_30, bM_staying_31, bM_staying_35, bM_staying_45, bM_staying_58, bM_staying_69, bM_staying_70, bM_staying_78, ln_mchannel, ln_mtold, ln_mvillage, rg_m_12, rg_m_14, rg_m_16, ty_m, ty_mchannel, ty_mtold, ty_mvillage, Option.toList_some, Option.toList_none, List.cons_append, List.nil_append, List.length_cons, List.length_nil, List.mem_cons, List.not_mem_nil, or_false, false_or, or_true, true_or, ↓reduceIte, true_and, and_true, Nat.reduceEqDiff, Nat.reduceAdd, Nat.reduceLeDiff, Nat.reduceLT, dl_i, dl_r, dl_n, dl_u, eq_self, not_true_eq_false, not_false_eq_true, n10, n01, nm0, n0m, h1, imp_t, imp_f]
      exact ⟨fun _ => h, fun q => absurd (Int32.le_refl _) q⟩
    | succ g ih =>
      intro k hk
      have hc20 : k < 20 := by omega
      refine hgo 20 [35] 35 _ _ _ _ _ ?_
      simp only [ixr_of, run_s, run_0, rM_staying, rok_i, rok_z, bx_cons, bx_nil, eAALD107, eBP, eC0, eC1, eC2, eC3, eGO, eGR, eIALD, jICge, jICne, eINC3, eLA0, eLI1, eLI2, eLI3, eRI, eSI2, eSI3, eSUB, fM_staying_0, fM_staying_21, fM_staying_30, fM_staying_31, fM_staying_35, fM_staying_45, fM_staying_58, fM_staying_69, fM_staying_70, fM_staying_78, bM_staying_0, bM_staying_21, bM_staying_30, bM_staying_31, bM_staying_35, bM_staying_45, bM_staying_58, bM_staying_69, bM_staying_70, bM_staying_78, ln_mchannel, ln_mtold, ln_mvillage, rg_m_12, rg_m_14, rg_m_16, ty_m, ty_mchannel, ty_mtold, ty_mvillage, Option.toList_some, Option.toList_none, List.cons_append, List.nil_append, List.length_cons, List.length_nil, List.mem_cons, List.not_mem_nil, or_false, false_or, or_true, true_or, ↓reduceIte, true_and, and_true, Nat.reduceEqDiff, Nat.reduceAdd, Nat.reduceLeDiff, Nat.reduceLT, dl_i, dl_r, dl_n, dl_u, eq_self, not_true_eq_false, not_false_eq_true, n10, n01, nm0, n0m, h1, hc20, rg_mchannel hc20, tr_mchannel hc20, lr_mchannel hc20, nI_add, imp_t, imp_f]
      rw [nI_leI (by omega) (by omega)]
      have ih' := ih (k + 1) (by omega)
      unfold styI at ih'
      refine ⟨fun q => absurd q (by omega), fun _ => ⟨fun q => ?_, fun q => ?_⟩⟩
      · rw [if_neg q] at ih'; exact ih'
      · rw [if_pos q] at ih'; exact ih'
  have hv9 : v < 9 := hv
  refine hgo 20 [35] 0 _ _ _ _ _ ?_
  simp only [ixr_of, run_s, run_0, rM_staying, rok_i, rok_z, bx_cons, bx_nil, eAALD107, eBP, eC0, eC1, eC2, eC3, eGO, eGR, eIALD, jICge, jICne, eINC3, eLA0, eLI1, eLI2, eLI3, eRI, eSI2, eSI3, eSUB, fM_staying_0, fM_staying_21, fM_staying_30, fM_staying_31, fM_staying_35, fM_staying_45, fM_staying_58, fM_staying_69, fM_staying_70, fM_staying_78, bM_staying_0, bM_staying_21, bM_staying_30, bM_staying_31, bM_staying_35, bM_staying_45, bM_staying_58, bM_staying_69, bM_staying_70, bM_staying_78, ln_mchannel, ln_mtold, ln_mvillage, rg_m_12, rg_m_14, rg_m_16, ty_m, ty_mchannel, ty_mtold, ty_mvillage, Option.toList_some, Option.toList_none, List.cons_append, List.nil_append, List.length_cons, List.length_nil, List.mem_cons, List.not_mem_nil, or_false, false_or, or_true, true_or, ↓reduceIte, true_and, and_true, Nat.reduceEqDiff, Nat.reduceAdd, Nat.reduceLeDiff, Nat.reduceLT, dl_i, dl_r, dl_n, dl_u, eq_self, not_true_eq_false, not_false_eq_true, n10, n01, nm0, n0m, hv9, rg_mvillage hv9, tr_mvillage hv9, lr_mvillage hv9, imp_t, imp_f]
  have l0 := loop nC 0 (by omega)
  unfold styI at l0
  refine ⟨fun q => ?_, fun q => ?_⟩
  · rw [if_neg q] at l0; exact l0
  · rw [if_pos q] at l0; exact l0
theorem styI_up {x : Int32} {v : Nat} : ∀ c, styI (up I 500000 0 x) v c = styI I v c
  | 0 => by
    unfold styI
    rw [up_n (by omega), up_n (by omega), up_n (by omega)]
  | c + 1 => by
    unfold styI
    rw [styI_up c, up_n (by omega), up_n (by omega)]
theorem c_village {v x : Int32} {nV nC : Nat} (hV : VS I nV nC) (h1 : ¬ (nI 0 ≤ v ∧ v ≤ I 500004 0 - nI 1) → kr (some (.int (nI 0))) (ref1 (up I 500000 0 (nI 0)) (nI 1) 0) E)
    (h2 : (nI 0 ≤ v ∧ v ≤ I 500004 0 - nI 1) → ¬ (nI 0 ≤ x ∧ x ≤ nI 8) → kr (some (.int (nI 0))) (ref1 (up I 500000 0 (nI 0)) (nI 2) 1) E)
    (h3 : ∀ w n, w < nV → v = nI w → n ≤ 8 → x = nI n → kr (some (.int (if n = 4 then I (500016 + w) 1 else if n = 5 then I (500016 + w) 3 else if n = 6 then I (500016 + w) 4 else if n = 7 then styI I w nC else if n = 8 then I 500123 w else if n = 0 then I 500124 w else smI (fun k => I 500124 (9 + 27 * w + 9 * (n - 1) + k)) 9))) (up I 500000 0 (nI 0)) E) : Ex Γ l shN (d + 4) (0, 0) mM_village [.ref 500000, .int v, .int x] I E kr kx := by
  obtain ⟨h0, h9, hc, hC, _⟩ := hV
  refine ex_of (ls0 := [some (.ref 500000), some (.int v), some (.int x)]) tM_village (by decide +kernel) kM_village rfl (Nat.le_of_ble_eq_true rfl) rfl ?_
  intro go hgo
  refine hgo 20 [] 0 _ _ _ _ _ ?_
  simp only [ixr_of, run_s, run_0, rM_village, rok_i, rok_z, bx_cons, bx_nil, eAALD107, eBP, eC0, eC1, eC2, eC3, eC4, eCS3, eCV1, eCV3, eGO, eGR, eIALD, jIFeq, jIFne, eLA0, eLI1, eLI2, ePI, eRI, eSW, jswA_c, swA_n, fM_village_0, fM_village_14, fM_village_18, fM_village_19, fM_village_27, fM_village_38, fM_village_42, fM_village_43, fM_village_51, fM_village_53, fM_village_88, fM_village_97, fM_village_106, fM_village_115, fM_village_121, fM_village_128, bM_village_0, bM_village_14, bM_village_18, bM_village_19, bM_village_27, bM_village_38, bM_village_42, bM_village_43, bM_village_51, bM_village_53, bM_village_88, bM_village_97, bM_village_106, bM_village_115, bM_village_121, bM_village_128, ln_mgrade, ln_mnow, ln_mvillage, rg_m_14, rg_m_31, rg_m_32, ty_m, ty_mgrade, ty_mnow, ty_mvillage, Option.toList_some, Option.toList_none, List.cons_append, List.nil_append, List.length_cons, List.length_nil, List.mem_cons, List.not_mem_nil, or_false, false_or, or_true, true_or, ↓reduceIte, true_and, and_true, Nat.reduceEqDiff, Nat.reduceAdd, Nat.reduceLeDiff, Nat.reduceLT, dl_i, dl_r, dl_n, dl_u, eq_self, not_true_eq_false, not_false_eq_true, n10, n01, nm0, n0m, imp_t, imp_f]
  refine call0 (c_isV ?_)
  simp only [ixr_of, run_s, run_0, rM_village, rok_i, rok_z, bx_cons, bx_nil, eAALD107, eBP, eC0, eC1, eC2, eC3, eC4, eCS3, eCV1, eCV3, eGO, eGR, eIALD, jIFeq, jIFne, eLA0, eLI1, eLI2, ePI, eRI, eSW, jswA_c, swA_n, fM_village_0, fM_village_14, fM_village_18, fM_village_19, fM_village_27, fM_village_38, fM_village_42, fM_village_43, fM_village_51, fM_village_53, fM_village_88, fM_village_97, fM_village_106, fM_village_115, fM_village_121, fM_village_128, bM_village_0, bM_village_14, bM_village_18, bM_village_19, bM_village_27, bM_village_38, bM_village_42, bM_village_43, bM_village_51, bM_village_53, bM_village_88, bM_village_97, bM_village_106, bM_village_115, bM_village_121, bM_village_128, ln_mgrade, ln_mnow, ln_mvillage, rg_m_14, rg_m_31, rg_m_32, ty_m, ty_mgrade, ty_mnow, ty_mvillage, Option.toList_some, Option.toList_none, List.cons_append, List.nil_append, List.length_cons, List.length_nil, List.mem_cons, List.not_mem_nil, or_false, false_or, or_true, true_or, ↓reduceIte, true_and, and_true, Nat.reduceEqDiff, Nat.reduceAdd, Nat.reduceLeDiff, Nat.reduceLT, dl_i, dl_r, dl_n, dl_u, eq_self, not_true_eq_false, not_false_eq_true, n10, n01, nm0, n0m, imp_t, imp_f]
  by_cases hc0 : nI 0 ≤ v ∧ v ≤ I 500004 0 - nI 1
  rotate_left
  · rw [bi_f hc0]
    refine ⟨fun q => absurd rfl q, fun _ => ?_⟩
    refine call0 (c_bad0 (by decide) (by decide) up_s (fun q => absurd q n10) (fun _ => ?_))
    simp only [ixr_of, run_s, run_0, rM_village, rok_i, rok_z, bx_cons, bx_nil, eAALD107, eBP, eC0, eC1, eC2, eC3, eC4, eCS3, eCV1, eCV3, eGO, eGR, eIALD, jIFeq, jIFne, eLA0, eLI1, eLI2, ePI, eRI, eSW, jswA_c, swA_n, fM_village_0, fM_village_14, fM_village_18, fM_village_19, fM_village_27, fM_village_38, fM_village_42, fM_village_43, fM_village_51, fM_village_53, fM_village_88, fM_village_97, fM_village_106, fM_village_115, fM_village_121, fM_village_128, bM_village_0, bM_village_14, bM_village_18, bM_village_19, bM_village_27, bM_village_38, bM_village_42, bM_village_43, bM_village_51, bM_village_53, bM_village_88, bM_village_97, bM_village_106, bM_village_115, bM_village_121, bM_village_128, ln_mgrade, ln_mnow, ln_mvillage, rg_m_14, rg_m_31, rg_m_32, ty_m, ty_mgrade, ty_mnow, ty_mvillage, Option.toList_some, Option.toList_none, List.cons_append, List.nil_append, List.length_cons, List.length_nil, List.mem_cons, List.not_mem_nil, or_false, false_or, or_true, true_or, ↓reduceIte, true_and, and_true, Nat.reduceEqDiff, Nat.reduceAdd, Nat.reduceLeDiff, Nat.reduceLT, dl_i, dl_r, dl_n, dl_u, eq_self, not_true_eq_false, not_false_eq_true, n10, n01, nm0, n0m, imp_t, imp_f]
    exact h1  hc0
  rw [bi_t hc0]
  refine ⟨fun _ => ?_, fun q => absurd q n10⟩
  refine call0 (c_bad0 (by decide) (by decide) up_s (fun _ => ?_) (fun q => absurd rfl q))
  simp only [ixr_of, run_s, run_0, rM_village, rok_i, rok_z, bx_cons, bx_nil, eAALD107, eBP, eC0, eC1, eC2, eC3, eC4, eCS3, eCV1, eCV3, eGO, eGR, eIALD, jIFeq, jIFne, eLA0, eLI1, eLI2, ePI, eRI, eSW, jswA_c, swA_n, fM_village_0, fM_village_14, fM_village_18, fM_village_19, fM_village_27, fM_village_38, fM_village_42, fM_village_43, fM_village_51, fM_village_53, fM_village_88, fM_village_97, fM_village_106, fM_village_115, fM_village_121, fM_village_128, bM_village_0, bM_village_14, bM_village_18, bM_village_19, bM_village_27, bM_village_38, bM_village_42, bM_village_43, bM_village_51, bM_village_53, bM_village_88, bM_village_97, bM_village_106, bM_village_115, bM_village_121, bM_village_128, ln_mgrade, ln_mnow, ln_mvillage, rg_m_14, rg_m_31, rg_m_32, ty_m, ty_mgrade, ty_mnow, ty_mvillage, Option.toList_some, Option.toList_none, List.cons_append, List.nil_append, List.length_cons, List.length_nil, List.mem_cons, List.not_mem_nil, or_false, false_or, or_true, true_or, ↓reduceIte, true_and, and_true, Nat.reduceEqDiff, Nat.reduceAdd, Nat.reduceLeDiff, Nat.reduceLT, dl_i, dl_r, dl_n, dl_u, eq_self, not_true_eq_false, not_false_eq_true, n10, n01, nm0, n0m, imp_t, imp_f]
  refine call0 (c_in ?_)
  simp only [ixr_of, run_s, run_0, rM_village, rok_i, rok_z, bx_cons, bx_nil, eAALD107, eBP, eC0, eC1, eC2, eC3, eC4, eCS3, eCV1, eCV3, eGO, eGR, eIALD, jIFeq, jIFne, eLA0, eLI1, eLI2, ePI, eRI, eSW, jswA_c, swA_n, fM_village_0, fM_village_14, fM_village_18, fM_village_19, fM_village_27, fM_village_38, fM_village_42, fM_village_43, fM_village_51, fM_village_53, fM_village_88, fM_village_97, fM_village_106, fM_village_115, fM_village_121, fM_village_128, bM_village_0, bM_village_14, bM_village_18, bM_village_19, bM_village_27, bM_village_38, bM_village_42, bM_village_43, bM_village_51, bM_village_53, bM_village_88, bM_village_97, bM_village_106, bM_village_115, bM_village_121, bM_village_128, ln_mgrade, ln_mnow, ln_mvillage, rg_m_14, rg_m_31, rg_m_32, ty_m, ty_mgrade, ty_mnow, ty_mvillage, Option.toList_some, Option.toList_none, List.cons_append, List.nil_append, List.length_cons, List.length_nil, List.mem_cons, List.not_mem_nil, or_false, false_or, or_true, true_or, ↓reduceIte, true_and, and_true, Nat.reduceEqDiff, Nat.reduceAdd, Nat.reduceLeDiff, Nat.reduceLT, dl_i, dl_r, dl_n, dl_u, eq_self, not_true_eq_false, not_false_eq_true, n10, n01, nm0, n0m, imp_t, imp_f]
  by_cases hc1 : nI 0 ≤ x ∧ x ≤ nI 8
  rotate_left
  · rw [bi_f hc1]
    refine ⟨fun q => absurd rfl q, fun _ => ?_⟩
    refine call0 (c_bad0 (by decide) (by decide) up_s (fun q => absurd q n10) (fun _ => ?_))
    simp only [ixr_of, run_s, run_0, rM_village, rok_i, rok_z, bx_cons, bx_nil, eAALD107, eBP, eC0, eC1, eC2, eC3, eC4, eCS3, eCV1, eCV3, eGO, eGR, eIALD, jIFeq, jIFne, eLA0, eLI1, eLI2, ePI, eRI, eSW, jswA_c, swA_n, fM_village_0, fM_village_14, fM_village_18, fM_village_19, fM_village_27, fM_village_38, fM_village_42, fM_village_43, fM_village_51, fM_village_53, fM_village_88, fM_village_97, fM_village_106, fM_village_115, fM_village_121, fM_village_128, bM_village_0, bM_village_14, bM_village_18, bM_village_19, bM_village_27, bM_village_38, bM_village_42, bM_village_43, bM_village_51, bM_village_53, bM_village_88, bM_village_97, bM_village_106, bM_village_115, bM_village_121, bM_village_128, ln_mgrade, ln_mnow, ln_mvillage, rg_m_14, rg_m_31, rg_m_32, ty_m, ty_mgrade, ty_mnow, ty_mvillage, Option.toList_some, Option.toList_none, List.cons_append, List.nil_append, List.length_cons, List.length_nil, List.mem_cons, List.not_mem_nil, or_false, false_or, or_true, true_or, ↓reduceIte, true_and, and_true, Nat.reduceEqDiff, Nat.reduceAdd, Nat.reduceLeDiff, Nat.reduceLT, dl_i, dl_r, dl_n, dl_u, eq_self, not_true_eq_false, not_false_eq_true, n10, n01, nm0, n0m, imp_t, imp_f]
    exact h2 hc0 hc1
  rw [bi_t hc1]
  refine ⟨fun _ => ?_, fun q => absurd q n10⟩
  refine call0 (c_bad0 (by decide) (by decide) up_s (fun _ => ?_) (fun q => absurd rfl q))
  simp only [ixr_of, run_s, run_0, rM_village, rok_i, rok_z, bx_cons, bx_nil, eAALD107, eBP, eC0, eC1, eC2, eC3, eC4, eCS3, eCV1, eCV3, eGO, eGR, eIALD, jIFeq, jIFne, eLA0, eLI1, eLI2, ePI, eRI, eSW, jswA_c, swA_n, fM_village_0, fM_village_14, fM_village_18, fM_village_19, fM_village_27, fM_village_38, fM_village_42, fM_village_43, fM_village_51, fM_village_53, fM_village_88, fM_village_97, fM_village_106, fM_village_115, fM_village_121, fM_village_128, bM_village_0, bM_village_14, bM_village_18, bM_village_19, bM_village_27, bM_village_38, bM_village_42, bM_village_43, bM_village_51, bM_village_53, bM_village_88, bM_village_97, bM_village_106, bM_village_115, bM_village_121, bM_village_128, ln_mgrade, ln_mnow, ln_mvillage, rg_m_14, rg_m_31, rg_m_32, ty_m, ty_mgrade, ty_mnow, ty_mvillage, Option.toList_some, Option.toList_none, List.cons_append, List.nil_append, List.length_cons, List.length_nil, List.mem_cons, List.not_mem_nil, or_false, false_or, or_true, true_or, ↓reduceIte, true_and, and_true, Nat.reduceEqDiff, Nat.reduceAdd, Nat.reduceLeDiff, Nat.reduceLT, dl_i, dl_r, dl_n, dl_u, eq_self, not_true_eq_false, not_false_eq_true, n10, n01, nm0, n0m, imp_t, imp_f]
  obtain ⟨n, hn, rfl⟩ := rng (by decide) hc1
  obtain ⟨w, hw, rfl⟩ := isV_n h0 h9 hc0
  have hw9 : w < 9 := by omega
  have h4 := h3 w n hw rfl hn rfl
  have e0 : up I 500000 0 (nI 0) 500124 = I 500124 := by funext z; exact up_n (by omega)
  have e1 : up I 500000 0 (nI 0) (500016 + w) = I (500016 + w) := by funext z; exact up_n (by omega)
  have e2 : up I 500000 0 (nI 0) 500123 = I 500123 := by funext z; exact up_n (by omega)
  have hn8 : n < 4 ∨ n = 4 ∨ n = 5 ∨ n = 6 ∨ n = 7 ∨ n = 8 := by omega
  rcases hn8 with q | rfl | rfl | rfl | rfl | rfl
  · rw [if_neg (by omega), if_neg (by omega), if_neg (by omega), if_neg (by omega), if_neg (by omega)] at h4
    rw [nIe (by omega) (by omega), nIe (by omega) (by omega), nIe (by omega) (by omega), nIe (by omega) (by omega), nIe (by omega) (by omega)]
    refine ⟨⟨fun q => absurd q (by omega), fun q => absurd q (by omega), fun q => absurd q (by omega), fun q => absurd q (by omega), fun q => absurd q (by omega)⟩, fun _ => ?_⟩
    refine call0 (c_basin ty_mnow (by rw [ln_mnow]; decide) (by omega) (by omega) ?_)
    simp only [ixr_of, run_s, run_0, rM_village, rok_i, rok_z, bx_cons, bx_nil, eAALD107, eBP, eC0, eC1, eC2, eC3, eC4, eCS3, eCV1, eCV3, eGO, eGR, eIALD, jIFeq, jIFne, eLA0, eLI1, eLI2, ePI, eRI, eSW, jswA_c, swA_n, fM_village_0, fM_village_14, fM_village_18, fM_village_19, fM_village_27, fM_village_38, fM_village_42, fM_village_43, fM_village_51, fM_village_53, fM_village_88, fM_village_97, fM_village_106, fM_village_115, fM_village_121, fM_village_128, bM_village_0, bM_village_14, bM_village_18, bM_village_19, bM_village_27, bM_village_38, bM_village_42, bM_village_43, bM_village_51, bM_village_53, bM_village_88, bM_village_97, bM_village_106, bM_village_115, bM_village_121, bM_village_128, ln_mgrade, ln_mnow, ln_mvillage, rg_m_14, rg_m_31, rg_m_32, ty_m, ty_mgrade, ty_mnow, ty_mvillage, Option.toList_some, Option.toList_none, List.cons_append, List.nil_append, List.length_cons, List.length_nil, List.mem_cons, List.not_mem_nil, or_false, false_or, or_true, true_or, ↓reduceIte, true_and, and_true, Nat.reduceEqDiff, Nat.reduceAdd, Nat.reduceLeDiff, Nat.reduceLT, dl_i, dl_r, dl_n, dl_u, eq_self, not_true_eq_false, not_false_eq_true, n10, n01, nm0, n0m, e0, imp_t, imp_f]
    exact h4
  · simp only [ixr_of, run_s, run_0, rM_village, rok_i, rok_z, bx_cons, bx_nil, eAALD107, eBP, eC0, eC1, eC2, eC3, eC4, eCS3, eCV1, eCV3, eGO, eGR, eIALD, jIFeq, jIFne, eLA0, eLI1, eLI2, ePI, eRI, eSW, jswA_c, swA_n, fM_village_0, fM_village_14, fM_village_18, fM_village_19, fM_village_27, fM_village_38, fM_village_42, fM_village_43, fM_village_51, fM_village_53, fM_village_88, fM_village_97, fM_village_106, fM_village_115, fM_village_121, fM_village_128, bM_village_0, bM_village_14, bM_village_18, bM_village_19, bM_village_27, bM_village_38, bM_village_42, bM_village_43, bM_village_51, bM_village_53, bM_village_88, bM_village_97, bM_village_106, bM_village_115, bM_village_121, bM_village_128, ln_mgrade, ln_mnow, ln_mvillage, rg_m_14, rg_m_31, rg_m_32, ty_m, ty_mgrade, ty_mnow, ty_mvillage, Option.toList_some, Option.toList_none, List.cons_append, List.nil_append, List.length_cons, List.length_nil, List.mem_cons, List.not_mem_nil, or_false, false_or, or_true, true_or, ↓reduceIte, true_and, and_true, Nat.reduceEqDiff, Nat.reduceAdd, Nat.reduceLeDiff, Nat.reduceLT, dl_i, dl_r, dl_n, dl_u, eq_self, not_true_eq_false, not_false_eq_true, n10, n01, nm0, n0m, hw9, rg_mvillage hw9, tr_mvillage hw9, lr_mvillage hw9, nIe, e1, imp_t, imp_f]
    exact ⟨h4, (fun q => by first | exact absurd rfl (q 0 (by decide)) | exact absurd rfl (q 1 (by decide)) | exact absurd rfl (q 2 (by decide)) | exact absurd rfl (q 3 (by decide)) | exact absurd rfl (q 4 (by decide)) | exact absurd rfl (q 5 (by decide)) | exact absurd rfl (q 6 (by decide)) | exact absurd rfl (q 7 (by decide)) | exact absurd rfl (q 8 (by decide)) | exact absurd rfl (q 9 (by decide)))⟩
  · simp only [ixr_of, run_s, run_0, rM_village, rok_i, rok_z, bx_cons, bx_nil, eAALD107, eBP, eC0, eC1, eC2, eC3, eC4, eCS3, eCV1, eCV3, eGO, eGR, eIALD, jIFeq, jIFne, eLA0, eLI1, eLI2, ePI, eRI, eSW, jswA_c, swA_n, fM_village_0, fM_village_14, fM_village_18, fM_village_19, fM_village_27, fM_village_38, fM_village_42, fM_village_43, fM_village_51, fM_village_53, fM_village_88, fM_village_97, fM_village_106, fM_village_115, fM_village_121, fM_village_128, bM_village_0, bM_village_14, bM_village_18, bM_village_19, bM_village_27, bM_village_38, bM_village_42, bM_village_43, bM_village_51, bM_village_53, bM_village_88, bM_village_97, bM_village_106, bM_village_115, bM_village_121, bM_village_128, ln_mgrade, ln_mnow, ln_mvillage, rg_m_14, rg_m_31, rg_m_32, ty_m, ty_mgrade, ty_mnow, ty_mvillage, Option.toList_some, Option.toList_none, List.cons_append, List.nil_append, List.length_cons, List.length_nil, List.mem_cons, List.not_mem_nil, or_false, false_or, or_true, true_or, ↓reduceIte, true_and, and_true, Nat.reduceEqDiff, Nat.reduceAdd, Nat.reduceLeDiff, Nat.reduceLT, dl_i, dl_r, dl_n, dl_u, eq_self, not_true_eq_false, not_false_eq_true, n10, n01, nm0, n0m, hw9, rg_mvillage hw9, tr_mvillage hw9, lr_mvillage hw9, nIe, e1, imp_t, imp_f]
    exact ⟨h4, (fun q => by first | exact absurd rfl (q 0 (by decide)) | exact absurd rfl (q 1 (by decide)) | exact absurd rfl (q 2 (by decide)) | exact absurd rfl (q 3 (by decide)) | exact absurd rfl (q 4 (by decide)) | exact absurd rfl (q 5 (by decide)) | exact absurd rfl (q 6 (by decide)) | exact absurd rfl (q 7 (by decide)) | exact absurd rfl (q 8 (by decide)) | exact absurd rfl (q 9 (by decide)))⟩
  · simp only [ixr_of, run_s, run_0, rM_village, rok_i, rok_z, bx_cons, bx_nil, eAALD107, eBP, eC0, eC1, eC2, eC3, eC4, eCS3, eCV1, eCV3, eGO, eGR, eIALD, jIFeq, jIFne, eLA0, eLI1, eLI2, ePI, eRI, eSW, jswA_c, swA_n, fM_village_0, fM_village_14, fM_village_18, fM_village_19, fM_village_27, fM_village_38, fM_village_42, fM_village_43, fM_village_51, fM_village_53, fM_village_88, fM_village_97, fM_village_106, fM_village_115, fM_village_121, fM_village_128, bM_village_0, bM_village_14, bM_village_18, bM_village_19, bM_village_27, bM_village_38, bM_village_42, bM_village_43, bM_village_51, bM_village_53, bM_village_88, bM_village_97, bM_village_106, bM_village_115, bM_village_121, bM_village_128, ln_mgrade, ln_mnow, ln_mvillage, rg_m_14, rg_m_31, rg_m_32, ty_m, ty_mgrade, ty_mnow, ty_mvillage, Option.toList_some, Option.toList_none, List.cons_append, List.nil_append, List.length_cons, List.length_nil, List.mem_cons, List.not_mem_nil, or_false, false_or, or_true, true_or, ↓reduceIte, true_and, and_true, Nat.reduceEqDiff, Nat.reduceAdd, Nat.reduceLeDiff, Nat.reduceLT, dl_i, dl_r, dl_n, dl_u, eq_self, not_true_eq_false, not_false_eq_true, n10, n01, nm0, n0m, hw9, rg_mvillage hw9, tr_mvillage hw9, lr_mvillage hw9, nIe, e1, imp_t, imp_f]
    exact ⟨h4, (fun q => by first | exact absurd rfl (q 0 (by decide)) | exact absurd rfl (q 1 (by decide)) | exact absurd rfl (q 2 (by decide)) | exact absurd rfl (q 3 (by decide)) | exact absurd rfl (q 4 (by decide)) | exact absurd rfl (q 5 (by decide)) | exact absurd rfl (q 6 (by decide)) | exact absurd rfl (q 7 (by decide)) | exact absurd rfl (q 8 (by decide)) | exact absurd rfl (q 9 (by decide)))⟩
  · simp only [ixr_of, run_s, run_0, rM_village, rok_i, rok_z, bx_cons, bx_nil, eAALD107, eBP, eC0, eC1, eC2, eC3, eC4, eCS3, eCV1, eCV3, eGO, eGR, eIALD, jIFeq, jIFne, eLA0, eLI1, eLI2, ePI, eRI, eSW, jswA_c, swA_n, fM_village_0, fM_village_14, fM_village_18, fM_village_19, fM_village_27, fM_village_38, fM_village_42, fM_village_43, fM_village_51, fM_village_53, fM_village_88, fM_village_97, fM_village_106, fM_village_115, fM_village_121, fM_village_128, bM_village_0, bM_village_14, bM_village_18, bM_village_19, bM_village_27, bM_village_38, bM_village_42, bM_village_43, bM_village_51, bM_village_53, bM_village_88, bM_village_97, bM_village_106, bM_village_115, bM_village_121, bM_village_128, ln_mgrade, ln_mnow, ln_mvillage, rg_m_14, rg_m_31, rg_m_32, ty_m, ty_mgrade, ty_mnow, ty_mvillage, Option.toList_some, Option.toList_none, List.cons_append, List.nil_append, List.length_cons, List.length_nil, List.mem_cons, List.not_mem_nil, or_false, false_or, or_true, true_or, ↓reduceIte, true_and, and_true, Nat.reduceEqDiff, Nat.reduceAdd, Nat.reduceLeDiff, Nat.reduceLT, dl_i, dl_r, dl_n, dl_u, eq_self, not_true_eq_false, not_false_eq_true, n10, n01, nm0, n0m, hw9, rg_mvillage hw9, tr_mvillage hw9, lr_mvillage hw9, nIe, e1, imp_t, imp_f]
    refine ⟨?_, (fun q => by first | exact absurd rfl (q 0 (by decide)) | exact absurd rfl (q 1 (by decide)) | exact absurd rfl (q 2 (by decide)) | exact absurd rfl (q 3 (by decide)) | exact absurd rfl (q 4 (by decide)) | exact absurd rfl (q 5 (by decide)) | exact absurd rfl (q 6 (by decide)) | exact absurd rfl (q 7 (by decide)) | exact absurd rfl (q 8 (by decide)) | exact absurd rfl (q 9 (by decide)))⟩
    refine call0 (c_staying hw9 (by rw [up_n (by decide)]; exact hc) hC ?_)
    simp only [ixr_of, run_s, run_0, rM_village, rok_i, rok_z, bx_cons, bx_nil, eAALD107, eBP, eC0, eC1, eC2, eC3, eC4, eCS3, eCV1, eCV3, eGO, eGR, eIALD, jIFeq, jIFne, eLA0, eLI1, eLI2, ePI, eRI, eSW, jswA_c, swA_n, fM_village_0, fM_village_14, fM_village_18, fM_village_19, fM_village_27, fM_village_38, fM_village_42, fM_village_43, fM_village_51, fM_village_53, fM_village_88, fM_village_97, fM_village_106, fM_village_115, fM_village_121, fM_village_128, bM_village_0, bM_village_14, bM_village_18, bM_village_19, bM_village_27, bM_village_38, bM_village_42, bM_village_43, bM_village_51, bM_village_53, bM_village_88, bM_village_97, bM_village_106, bM_village_115, bM_village_121, bM_village_128, ln_mgrade, ln_mnow, ln_mvillage, rg_m_14, rg_m_31, rg_m_32, ty_m, ty_mgrade, ty_mnow, ty_mvillage, Option.toList_some, Option.toList_none, List.cons_append, List.nil_append, List.length_cons, List.length_nil, List.mem_cons, List.not_mem_nil, or_false, false_or, or_true, true_or, ↓reduceIte, true_and, and_true, Nat.reduceEqDiff, Nat.reduceAdd, Nat.reduceLeDiff, Nat.reduceLT, dl_i, dl_r, dl_n, dl_u, eq_self, not_true_eq_false, not_false_eq_true, n10, n01, nm0, n0m, styI_up, imp_t, imp_f]
    exact h4
  · simp only [ixr_of, run_s, run_0, rM_village, rok_i, rok_z, bx_cons, bx_nil, eAALD107, eBP, eC0, eC1, eC2, eC3, eC4, eCS3, eCV1, eCV3, eGO, eGR, eIALD, jIFeq, jIFne, eLA0, eLI1, eLI2, ePI, eRI, eSW, jswA_c, swA_n, fM_village_0, fM_village_14, fM_village_18, fM_village_19, fM_village_27, fM_village_38, fM_village_42, fM_village_43, fM_village_51, fM_village_53, fM_village_88, fM_village_97, fM_village_106, fM_village_115, fM_village_121, fM_village_128, bM_village_0, bM_village_14, bM_village_18, bM_village_19, bM_village_27, bM_village_38, bM_village_42, bM_village_43, bM_village_51, bM_village_53, bM_village_88, bM_village_97, bM_village_106, bM_village_115, bM_village_121, bM_village_128, ln_mgrade, ln_mnow, ln_mvillage, rg_m_14, rg_m_31, rg_m_32, ty_m, ty_mgrade, ty_mnow, ty_mvillage, Option.toList_some, Option.toList_none, List.cons_append, List.nil_append, List.length_cons, List.length_nil, List.mem_cons, List.not_mem_nil, or_false, false_or, or_true, true_or, ↓reduceIte, true_and, and_true, Nat.reduceEqDiff, Nat.reduceAdd, Nat.reduceLeDiff, Nat.reduceLT, dl_i, dl_r, dl_n, dl_u, eq_self, not_true_eq_false, not_false_eq_true, n10, n01, nm0, n0m, hw9, rg_mvillage hw9, tr_mvillage hw9, lr_mvillage hw9, nIe, e2, imp_t, imp_f]
    exact ⟨h4, (fun q => by first | exact absurd rfl (q 0 (by decide)) | exact absurd rfl (q 1 (by decide)) | exact absurd rfl (q 2 (by decide)) | exact absurd rfl (q 3 (by decide)) | exact absurd rfl (q 4 (by decide)) | exact absurd rfl (q 5 (by decide)) | exact absurd rfl (q 6 (by decide)) | exact absurd rfl (q 7 (by decide)) | exact absurd rfl (q 8 (by decide)) | exact absurd rfl (q 9 (by decide)))⟩
/-- the row of an image, its first so many grades kept -/
def imR (I : Iv) (m v : Nat) : Nat → Int32 := fun k => if k < 502 then I 500124 k else if k = 502 then I 500000 37 else if k = 503 then I 500000 38 else if k < 504 + v then I 500123 (k - 504) else I (500120 + m) k
theorem imR_s {m v : Nat} : ru (imR I m v) (504 + v) (I 500123 v) = imR I m (v + 1) := by
  funext k
  unfold ru imR
  by_cases e : k = 504 + v
  · subst e
    rw [if_pos rfl, if_neg (by omega), if_neg (by omega), if_neg (by omega), if_pos (by omega), show 504 + v - 504 = v by omega]
  · rw [if_neg e]
    by_cases e1 : k < 502
    · rw [if_pos e1, if_pos e1]
    · rw [if_neg e1, if_neg e1]
      by_cases e2 : k = 502
      · rw [if_pos e2, if_pos e2]
      · rw [if_neg e2, if_neg e2]
        by_cases e3 : k = 503
        · rw [if_pos e3, if_pos e3]
        · rw [if_neg e3, if_neg e3]
          by_cases e4 : k < 504 + v
          · rw [if_pos e4, if_pos (by omega)]
          · rw [if_neg e4, if_neg (by omega)]
theorem c_image {nI' : Nat} (him : I 500000 40 = nI nI') (hm3 : nI' ≤ 3) (h1 : nI' = 3 → kr (some (.int (-1))) (up I 500000 0 (nI 0)) E)
    (h2 : nI' < 3 → kr (some (.int (nI (nI' + 1)))) (up (sr (up I 500000 0 (nI 0)) (500120 + nI') (imR I nI' 9)) 500000 40 (nI (nI' + 1))) E) : Ex Γ l shN (d + 2) (0, 0) mM_image [.ref 500000] I E kr kx := by
  refine ex_of (ls0 := [some (.ref 500000), none, none]) tM_image (by decide +kernel) kM_image rfl (Nat.le_of_ble_eq_true rfl) rfl ?_
  intro go hgo
  refine hgo 20 [53] 0 _ _ _ _ _ ?_
  simp only [ixr_of, run_s, run_0, rM_image, rok_i, rok_z, bx_cons, bx_nil, eAALD107, eADD, eBP, eC0, eC1, eC3, eCS2, eCm1, eDUPr, eGI, eGO, eGR, eIALD, eIAST, jICge, jICne, eINC2, eLA0, eLA1, eLI2, ePI, eRI, eSA1, eSI2, eSP, fM_image_0, fM_image_13, fM_image_15, fM_image_53, fM_image_59, fM_image_78, bM_image_0, bM_image_13, bM_image_15, bM_image_53, bM_image_59, bM_image_78, ln_mgrade, ln_mkept, ln_mnow, rg_m_30, rg_m_31, rg_m_32, ty_m, ty_mgrade, ty_mkept, ty_mnow, Option.toList_some, Option.toList_none, List.cons_append, List.nil_append, List.length_cons, List.length_nil, List.mem_cons, List.not_mem_nil, or_false, false_or, or_true, true_or, ↓reduceIte, true_and, and_true, Nat.reduceEqDiff, Nat.reduceAdd, Nat.reduceLeDiff, Nat.reduceLT, dl_i, dl_r, dl_n, dl_u, eq_self, not_true_eq_false, not_false_eq_true, n10, n01, nm0, n0m, imp_t, imp_f]
  rw [up_n (by decide), him, nIe (by omega) (by decide)]
  refine ⟨fun q => ?_, fun q => h1 q⟩
  have hm : nI' < 3 := by omega
  simp only [ixr_of, run_s, run_0, rM_image, rok_i, rok_z, bx_cons, bx_nil, eAALD107, eADD, eBP, eC0, eC1, eC3, eCS2, eCm1, eDUPr, eGI, eGO, eGR, eIALD, eIAST, jICge, jICne, eINC2, eLA0, eLA1, eLI2, ePI, eRI, eSA1, eSI2, eSP, fM_image_0, fM_image_13, fM_image_15, fM_image_53, fM_image_59, fM_image_78, bM_image_0, bM_image_13, bM_image_15, bM_image_53, bM_image_59, bM_image_78, ln_mgrade, ln_mkept, ln_mnow, rg_m_30, rg_m_31, rg_m_32, ty_m, ty_mgrade, ty_mkept, ty_mnow, Option.toList_some, Option.toList_none, List.cons_append, List.nil_append, List.length_cons, List.length_nil, List.mem_cons, List.not_mem_nil, or_false, false_or, or_true, true_or, ↓reduceIte, true_and, and_true, Nat.reduceEqDiff, Nat.reduceAdd, Nat.reduceLeDiff, Nat.reduceLT, dl_i, dl_r, dl_n, dl_u, eq_self, not_true_eq_false, not_false_eq_true, n10, n01, nm0, n0m, hm, rg_mkept hm, tr_mkept hm, lr_mkept hm, imp_t, imp_f]
  refine call0 (c_copies ty_mnow (by rw [ln_mnow]; decide) (by rw [tr_mkept hm]) (by rw [lr_mkept hm]; decide) (by omega) ?_)
  simp only [ixr_of, run_s, run_0, rM_image, rok_i, rok_z, bx_cons, bx_nil, eAALD107, eADD, eBP, eC0, eC1, eC3, eCS2, eCm1, eDUPr, eGI, eGO, eGR, eIALD, eIAST, jICge, jICne, eINC2, eLA0, eLA1, eLI2, ePI, eRI, eSA1, eSI2, eSP, fM_image_0, fM_image_13, fM_image_15, fM_image_53, fM_image_59, fM_image_78, bM_image_0, bM_image_13, bM_image_15, bM_image_53, bM_image_59, bM_image_78, ln_mgrade, ln_mkept, ln_mnow, rg_m_30, rg_m_31, rg_m_32, ty_m, ty_mgrade, ty_mkept, ty_mnow, Option.toList_some, Option.toList_none, List.cons_append, List.nil_append, List.length_cons, List.length_nil, List.mem_cons, List.not_mem_nil, or_false, false_or, or_true, true_or, ↓reduceIte, true_and, and_true, Nat.reduceEqDiff, Nat.reduceAdd, Nat.reduceLeDiff, Nat.reduceLT, dl_i, dl_r, dl_n, dl_u, eq_self, not_true_eq_false, not_false_eq_true, n10, n01, nm0, n0m, hm, rg_mkept hm, tr_mkept hm, lr_mkept hm, imp_t, imp_f]
  have e1 : up (up (cp (up I 500000 0 (nI 0)) 500124 (500120 + nI') 502) (500120 + nI') 502 (cp (up I 500000 0 (nI 0)) 500124 (500120 + nI') 502 500000 37)) (500120 + nI') 503 (up (cp (up I 500000 0 (nI 0)) 500124 (500120 + nI') 502) (500120 + nI') 502 (cp (up I 500000 0 (nI 0)) 500124 (500120 + nI') 502 500000 37) 500000 38) = sr (up I 500000 0 (nI 0)) (500120 + nI') (imR I nI' 0) := by
    funext i j
    unfold up cp sr imR
    by_cases e : i = 500120 + nI'
    · subst e
      have n1 : ¬ 500120 + nI' = 500000 := by omega
      have n2 : ¬ 500000 = 500120 + nI' := by omega
      simp only [n1, n2, true_and, false_and, if_true, if_false]
      by_cases e1 : j = 503
      · subst e1; simp
      · by_cases e2 : j = 502
        · subst e2; simp
        · by_cases e3 : j < 502
          · simp [e1, e2, e3]
          · have e4 : ¬ j < 504 := by omega
            simp [e1, e2, e3, e4]
    · simp [e]
  rw [e1]
  have loop : ∀ (g k : Nat), g + k = 9 → go 53 [some (.ref 500000), some (.ref (500120 + nI')), some (.int (nI k))] [] (sr (up I 500000 0 (nI 0)) (500120 + nI') (imR I nI' k)) E (0, 0) := by
    intro g
    induction g with
    | zero =>
      intro k hk
      have : k = 9 := by omega
      subst this
      refine hgo 20 [53] 53 _ _ _ _ _ ?_
      simp only [ixr_of, run_s, run_0, rM_image, rok_i, rok_z, bx_cons, bx_nil, eAALD107, eADD, eBP, eC0, eC1, eC3, eCS2, eCm1, eDUPr, eGI, eGO, eGR, eIALD, eIAST, jICge, jICne, eINC2, eLA0, eLA1, eLI2, ePI, eRI, eSA1, eSI2, eSP, fM_image_0, fM_image_13, fM_image_15, fM_image_53, fM_image_59, fM_image_78, bM_image_0, bM_image_13, bM_image_15, bM_image_53, bM_image_59, bM_image_78, ln_mgrade, ln_mkept, ln_mnow, rg_m_30, rg_m_31, rg_m_32, ty_m, ty_mgrade, ty_mkept, ty_mnow, Option.toList_some, Option.toList_none, List.cons_append, List.nil_append, List.length_cons, List.length_nil, List.mem_cons, List.not_mem_nil, or_false, false_or, or_true, true_or, ↓reduceIte, true_and, and_true, Nat.reduceEqDiff, Nat.reduceAdd, Nat.reduceLeDiff, Nat.reduceLT, dl_i, dl_r, dl_n, dl_u, eq_self, not_true_eq_false, not_false_eq_true, n10, n01, nm0, n0m, nIl, imp_t, imp_f]
      have e : sr (up I 500000 0 (nI 0)) (500120 + nI') (imR I nI' 9) 500000 40 = nI nI' := by rw [sr_n (by omega), up_n (by decide), him]
      rw [up_s, e, nI_add]
      exact h2 hm
    | succ g ih =>
      intro k hk
      have hk9 : k < 9 := by omega
      have hi : 504 + k < 513 := by omega
      refine hgo 20 [53] 53 _ _ _ _ _ ?_
      simp only [ixr_of, run_s, run_0, rM_image, rok_i, rok_z, bx_cons, bx_nil, eAALD107, eADD, eBP, eC0, eC1, eC3, eCS2, eCm1, eDUPr, eGI, eGO, eGR, eIALD, eIAST, jICge, jICne, eINC2, eLA0, eLA1, eLI2, ePI, eRI, eSA1, eSI2, eSP, fM_image_0, fM_image_13, fM_image_15, fM_image_53, fM_image_59, fM_image_78, bM_image_0, bM_image_13, bM_image_15, bM_image_53, bM_image_59, bM_image_78, ln_mgrade, ln_mkept, ln_mnow, rg_m_30, rg_m_31, rg_m_32, ty_m, ty_mgrade, ty_mkept, ty_mnow, Option.toList_some, Option.toList_none, List.cons_append, List.nil_append, List.length_cons, List.length_nil, List.mem_cons, List.not_mem_nil, or_false, false_or, or_true, true_or, ↓reduceIte, true_and, and_true, Nat.reduceEqDiff, Nat.reduceAdd, Nat.reduceLeDiff, Nat.reduceLT, dl_i, dl_r, dl_n, dl_u, eq_self, not_true_eq_false, not_false_eq_true, n10, n01, nm0, n0m, nI_add, tr_mkept hm, lr_mkept hm, hk9, hi, up_sr, imp_t, imp_f]
      rw [nI_leI (by omega) (by omega)]
      refine ⟨fun q => absurd q (by omega), fun _ => ?_⟩
      rw [sr_n (by omega), up_n (by omega), imR_s]
      exact ih (k + 1) (by omega)
  exact loop 9 0 rfl
/-- the first so many grades from an image -/
def grR (I : Iv) (m v : Nat) : Nat → Int32 := fun k => if k < v then I (500120 + m) (504 + k) else I 500123 k
theorem grR_s {m v : Nat} : ru (grR I m v) v (I (500120 + m) (504 + v)) = grR I m (v + 1) := by
  funext k
  unfold ru grR
  by_cases e : k = v
  · subst e
    rw [if_pos rfl, if_pos (by omega)]
  · rw [if_neg e]
    by_cases e1 : k < v
    · rw [if_pos e1, if_pos (by omega)]
    · rw [if_neg e1, if_neg (by omega)]
theorem c_restore {m : Nat} (him : I 500000 40 = nI m) (hm3 : m ≤ 3) (h1 : m = 0 → kr (some (.int (-1))) (up I 500000 0 (nI 0)) E)
    (h2 : ∀ n, m = n + 1 → kr (some (.int (nI n))) (up (sr (sr (up (up (sr (up (up I 500000 0 (nI 0)) 500000 40 (nI n)) 500124 (I (500120 + n))) 500000 37 (I (500120 + n) 502)) 500000 38 (I (500120 + n) 503)) 500123 (grR I n 9)) 500125 (I (500120 + n))) 500000 39 (nI 0)) E) : Ex Γ l shN (d + 3) (0, 0) mM_restore [.ref 500000] I E kr kx := by
  refine ex_of (ls0 := [some (.ref 500000), none, none]) tM_restore (by decide +kernel) kM_restore rfl (Nat.le_of_ble_eq_true rfl) rfl ?_
  intro go hgo
  refine hgo 20 [62] 0 _ _ _ _ _ ?_
  simp only [ixr_of, run_s, run_0, rM_restore, rok_i, rok_z, bx_cons, bx_nil, eAALD107, eADD, eBP, eC0, eC1, eCS2, eCV0, eCm1, eDUPr, eGI, eGO, eGR, eIALD, eIAST, jICge, jIFne, eINC2, eLA0, eLA1, eLI2, ePI, eRI, eSA1, eSI2, eSP, eSUB, fM_restore_0, fM_restore_12, fM_restore_14, fM_restore_62, fM_restore_68, fM_restore_87, bM_restore_0, bM_restore_12, bM_restore_14, bM_restore_62, bM_restore_68, bM_restore_87, ln_mgrade, ln_mkept, ln_mnow, rg_m_30, rg_m_31, rg_m_32, ty_m, ty_mgrade, ty_mkept, ty_mnow, Option.toList_some, Option.toList_none, List.cons_append, List.nil_append, List.length_cons, List.length_nil, List.mem_cons, List.not_mem_nil, or_false, false_or, or_true, true_or, ↓reduceIte, true_and, and_true, Nat.reduceEqDiff, Nat.reduceAdd, Nat.reduceLeDiff, Nat.reduceLT, dl_i, dl_r, dl_n, dl_u, eq_self, not_true_eq_false, not_false_eq_true, n10, n01, nm0, n0m, imp_t, imp_f]
  rw [up_n (by decide), him, nIe (by omega) (by decide)]
  refine ⟨fun q => ?_, fun q => h1 q⟩
  obtain ⟨n, rfl⟩ : ∃ n, m = n + 1 := ⟨m - 1, by omega⟩
  have hm : n < 3 := by omega
  rw [pk_sub (by omega), show n + 1 - 1 = n by omega]
  simp only [ixr_of, run_s, run_0, rM_restore, rok_i, rok_z, bx_cons, bx_nil, eAALD107, eADD, eBP, eC0, eC1, eCS2, eCV0, eCm1, eDUPr, eGI, eGO, eGR, eIALD, eIAST, jICge, jIFne, eINC2, eLA0, eLA1, eLI2, ePI, eRI, eSA1, eSI2, eSP, eSUB, fM_restore_0, fM_restore_12, fM_restore_14, fM_restore_62, fM_restore_68, fM_restore_87, bM_restore_0, bM_restore_12, bM_restore_14, bM_restore_62, bM_restore_68, bM_restore_87, ln_mgrade, ln_mkept, ln_mnow, rg_m_30, rg_m_31, rg_m_32, ty_m, ty_mgrade, ty_mkept, ty_mnow, Option.toList_some, Option.toList_none, List.cons_append, List.nil_append, List.length_cons, List.length_nil, List.mem_cons, List.not_mem_nil, or_false, false_or, or_true, true_or, ↓reduceIte, true_and, and_true, Nat.reduceEqDiff, Nat.reduceAdd, Nat.reduceLeDiff, Nat.reduceLT, dl_i, dl_r, dl_n, dl_u, eq_self, not_true_eq_false, not_false_eq_true, n10, n01, nm0, n0m, hm, rg_mkept hm, tr_mkept hm, lr_mkept hm, up_s, imp_t, imp_f]
  refine call0 (c_copies' (by rw [tr_mkept hm]) (by rw [lr_mkept hm]; decide) ty_mnow ln_mnow (by omega) ?_)
  simp only [ixr_of, run_s, run_0, rM_restore, rok_i, rok_z, bx_cons, bx_nil, eAALD107, eADD, eBP, eC0, eC1, eCS2, eCV0, eCm1, eDUPr, eGI, eGO, eGR, eIALD, eIAST, jICge, jIFne, eINC2, eLA0, eLA1, eLI2, ePI, eRI, eSA1, eSI2, eSP, eSUB, fM_restore_0, fM_restore_12, fM_restore_14, fM_restore_62, fM_restore_68, fM_restore_87, bM_restore_0, bM_restore_12, bM_restore_14, bM_restore_62, bM_restore_68, bM_restore_87, ln_mgrade, ln_mkept, ln_mnow, rg_m_30, rg_m_31, rg_m_32, ty_m, ty_mgrade, ty_mkept, ty_mnow, Option.toList_some, Option.toList_none, List.cons_append, List.nil_append, List.length_cons, List.length_nil, List.mem_cons, List.not_mem_nil, or_false, false_or, or_true, true_or, ↓reduceIte, true_and, and_true, Nat.reduceEqDiff, Nat.reduceAdd, Nat.reduceLeDiff, Nat.reduceLT, dl_i, dl_r, dl_n, dl_u, eq_self, not_true_eq_false, not_false_eq_true, n10, n01, nm0, n0m, hm, rg_mkept hm, tr_mkept hm, lr_mkept hm, imp_t, imp_f]
  have e1 : up (up I 500000 0 (nI 0)) 500000 40 (nI n) (500120 + n) = I (500120 + n) := by funext z; rw [up_n (by omega), up_n (by omega)]
  rw [e1, up_n (by omega), sr_n (show 500120 + n ≠ 500124 by omega), e1]
  obtain ⟨S, hS⟩ : ∃ S, S = up (up (sr (up (up I 500000 0 (nI 0)) 500000 40 (nI n)) 500124 (I (500120 + n))) 500000 37 (I (500120 + n) 502)) 500000 38 (I (500120 + n) 503) := ⟨_, rfl⟩
  have s1 : S (500120 + n) = I (500120 + n) := by
    rw [hS]; funext z
    rw [up_n (by omega), up_n (by omega), sr_n (by omega), e1]
  have s2 : S 500123 = I 500123 := by
    rw [hS]; funext z
    rw [up_n (by omega), up_n (by omega), sr_n (by omega), up_n (by omega), up_n (by omega)]
  have s3 : S 500124 = I (500120 + n) := by
    rw [hS]; funext z
    rw [up_n (by omega), up_n (by omega), sr_s]
  have s4 : S 500000 40 = nI n := by
    rw [hS, up_n (by decide), up_n (by decide), sr_n (by decide), up_s]
  have h3 := h2 n rfl
  rw [← hS] at h3 ⊢
  have loop : ∀ (g k : Nat), g + k = 9 → go 62 [some (.ref 500000), some (.ref (500120 + n)), some (.int (nI k))] [] (sr S 500123 (grR I n k)) E (0, 0) := by
    intro g
    induction g with
    | zero =>
      intro k hk
      have : k = 9 := by omega
      subst this
      refine hgo 20 [62] 62 _ _ _ _ _ ?_
      simp only [ixr_of, run_s, run_0, rM_restore, rok_i, rok_z, bx_cons, bx_nil, eAALD107, eADD, eBP, eC0, eC1, eCS2, eCV0, eCm1, eDUPr, eGI, eGO, eGR, eIALD, eIAST, jICge, jIFne, eINC2, eLA0, eLA1, eLI2, ePI, eRI, eSA1, eSI2, eSP, eSUB, fM_restore_0, fM_restore_12, fM_restore_14, fM_restore_62, fM_restore_68, fM_restore_87, bM_restore_0, bM_restore_12, bM_restore_14, bM_restore_62, bM_restore_68, bM_restore_87, ln_mgrade, ln_mkept, ln_mnow, rg_m_30, rg_m_31, rg_m_32, ty_m, ty_mgrade, ty_mkept, ty_mnow, Option.toList_some, Option.toList_none, List.cons_append, List.nil_append, List.length_cons, List.length_nil, List.mem_cons, List.not_mem_nil, or_false, false_or, or_true, true_or, ↓reduceIte, true_and, and_true, Nat.reduceEqDiff, Nat.reduceAdd, Nat.reduceLeDiff, Nat.reduceLT, dl_i, dl_r, dl_n, dl_u, eq_self, not_true_eq_false, not_false_eq_true, n10, n01, nm0, n0m, nIl, imp_t, imp_f]
      refine call0 (c_settles' ?_)
      simp only [ixr_of, run_s, run_0, rM_restore, rok_i, rok_z, bx_cons, bx_nil, eAALD107, eADD, eBP, eC0, eC1, eCS2, eCV0, eCm1, eDUPr, eGI, eGO, eGR, eIALD, eIAST, jICge, jIFne, eINC2, eLA0, eLA1, eLI2, ePI, eRI, eSA1, eSI2, eSP, eSUB, fM_restore_0, fM_restore_12, fM_restore_14, fM_restore_62, fM_restore_68, fM_restore_87, bM_restore_0, bM_restore_12, bM_restore_14, bM_restore_62, bM_restore_68, bM_restore_87, ln_mgrade, ln_mkept, ln_mnow, rg_m_30, rg_m_31, rg_m_32, ty_m, ty_mgrade, ty_mkept, ty_mnow, Option.toList_some, Option.toList_none, List.cons_append, List.nil_append, List.length_cons, List.length_nil, List.mem_cons, List.not_mem_nil, or_false, false_or, or_true, true_or, ↓reduceIte, true_and, and_true, Nat.reduceEqDiff, Nat.reduceAdd, Nat.reduceLeDiff, Nat.reduceLT, dl_i, dl_r, dl_n, dl_u, eq_self, not_true_eq_false, not_false_eq_true, n10, n01, nm0, n0m, imp_t, imp_f]
      rw [up_n (by decide), sr_n (by decide), sr_n (by decide), sr_n (by decide), s3, s4]
      exact h3
    | succ g ih =>
      intro k hk
      have hk9 : k < 9 := by omega
      have hi : 504 + k < 513 := by omega
      refine hgo 20 [62] 62 _ _ _ _ _ ?_
      simp only [ixr_of, run_s, run_0, rM_restore, rok_i, rok_z, bx_cons, bx_nil, eAALD107, eADD, eBP, eC0, eC1, eCS2, eCV0, eCm1, eDUPr, eGI, eGO, eGR, eIALD, eIAST, jICge, jIFne, eINC2, eLA0, eLA1, eLI2, ePI, eRI, eSA1, eSI2, eSP, eSUB, fM_restore_0, fM_restore_12, fM_restore_14, fM_restore_62, fM_restore_68, fM_restore_87, bM_restore_0, bM_restore_12, bM_restore_14, bM_restore_62, bM_restore_68, bM_restore_87, ln_mgrade, ln_mkept, ln_mnow, rg_m_30, rg_m_31, rg_m_32, ty_m, ty_mgrade, ty_mkept, ty_mnow, Option.toList_some, Option.toList_none, List.cons_append, List.nil_append, List.length_cons, List.length_nil, List.mem_cons, List.not_mem_nil, or_false, false_or, or_true, true_or, ↓reduceIte, true_and, and_true, Nat.reduceEqDiff, Nat.reduceAdd, Nat.reduceLeDiff, Nat.reduceLT, dl_i, dl_r, dl_n, dl_u, eq_self, not_true_eq_false, not_false_eq_true, n10, n01, nm0, n0m, nI_add, tr_mkept hm, lr_mkept hm, hk9, hi, up_sr, imp_t, imp_f]
      rw [nI_leI (by omega) (by omega)]
      refine ⟨fun q => absurd q (by omega), fun _ => ?_⟩
      rw [sr_n (by omega), s1, grR_s]
      exact ih (k + 1) (by omega)
  have l0 := loop 9 0 rfl
  rw [show grR I n 0 = S 500123 by rw [s2]; rfl, sr_id] at l0
  exact l0
end CM16
