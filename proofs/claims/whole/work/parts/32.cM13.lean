/-! contracts of HerbWatersModel, 13: the face, 3 -/
theorem isV_n {I : Iv} {nV : Nat} {v : Int32} (h0 : I 500004 0 = nI nV) (h9 : nV ≤ 9) (h : nI 0 ≤ v ∧ v ≤ I 500004 0 - nI 1) : ∃ n, n < nV ∧ v = nI n := by
  rw [h0] at h
  by_cases e : nV = 0
  · subst e
    have h2 : v ≤ -1 := h.2
    exact absurd (Int32.le_trans h.1 h2) (by decide)
  · rw [pk_sub (by omega)] at h
    obtain ⟨k, hk, rfl⟩ := rng (by omega) h
    exact ⟨k, by omega, rfl⟩
theorem asV_n {I : Iv} {nV : Nat} {v : Int32} (h0 : I 500004 0 = nI nV) (h9 : nV ≤ 9) (h : nI 0 ≤ v ∧ v ≤ nI 1 <<< (I 500004 0 &&& 31) - nI 1) : ∃ n, n < 2 ^ nV ∧ v = nI n := by
  rw [h0] at h
  have e : ∀ k, k ≤ 9 → nI 1 <<< (nI k &&& 31) - nI 1 = nI (2 ^ k - 1) := by decide
  rw [e nV h9] at h
  have : 2 ^ nV ≤ 2 ^ 9 := Nat.pow_le_pow_right (by decide) h9
  obtain ⟨k, hk, rfl⟩ := rng (by omega) h
  exact ⟨k, by have : 0 < 2 ^ nV := Nat.two_pow_pos nV; omega, rfl⟩
section CM13
variable {Γ : Gm} {l : Launch} {d : Nat} {I : Iv} {E : Ev} {kr : Kr} {kx : Kxx}
theorem c_isV {v x : Int32} (h : kr (some (.int (bi (nI 0 ≤ v ∧ v ≤ I 500004 0 - nI 1)))) (up I 500000 0 x) E) : Ex Γ l shN (d + 2) (0, 0) mM_isVillage [.ref 500000, .int v] (up I 500000 0 x) E kr kx := c_isVillage (by rw [up_n (by decide)]; exact h)
theorem c_areV {v x : Int32} (h : kr (some (.int (bi (nI 0 ≤ v ∧ v ≤ nI 1 <<< (I 500004 0 &&& 31) - nI 1)))) (up I 500000 0 x) E) : Ex Γ l shN (d + 2) (0, 0) mM_areVillages [.ref 500000, .int v] (up I 500000 0 x) E kr kx := c_areVillages (by rw [up_n (by decide)]; exact h)
theorem c_tap {x : Int32} (h1 : ¬ (nI 0 ≤ x ∧ x ≤ nI 4) → kr (some (.int (nI 0))) (ref1 (up I 500000 0 (nI 0)) (nI 1) 1) E)
    (h2 : ∀ n, n < 4 → x = nI n → kr (some (.int (I 500124 (497 + n)))) (up I 500000 0 (nI 0)) E)
    (h3 : x = nI 4 → kr (some (.int (vwI (I 500124)))) (up I 500000 0 (nI 0)) E) : Ex Γ l shN (d + 2) (0, 0) mM_tap [.ref 500000, .int x] I E kr kx := by
  refine ex_of (ls0 := [some (.ref 500000), some (.int x)]) tM_tap (by decide +kernel) kM_tap rfl (Nat.le_of_ble_eq_true rfl) rfl ?_
  intro go hgo
  refine hgo 20 [] 0 _ _ _ _ _ ?_
  simp only [ixr_of, run_s, run_0, rM_tap, rok_i, rok_z, bx_cons, bx_nil, eADD, eC0, eC1, eC4, eCS1, eCS3, eCV3, eGO, eGR, eIALD, jICge, jIFeq, jIFne, eLA0, eLI1, ePI, eRI, eSP, fM_tap_0, fM_tap_15, fM_tap_19, fM_tap_20, fM_tap_28, fM_tap_30, fM_tap_35, fM_tap_48, fM_tap_55, bM_tap_0, bM_tap_15, bM_tap_19, bM_tap_20, bM_tap_28, bM_tap_30, bM_tap_35, bM_tap_48, bM_tap_55, ln_mnow, rg_m_32, ty_m, ty_mnow, Option.toList_some, Option.toList_none, List.cons_append, List.nil_append, List.length_cons, List.length_nil, List.mem_cons, List.not_mem_nil, or_false, false_or, or_true, true_or, ↓reduceIte, true_and, and_true, Nat.reduceEqDiff, Nat.reduceAdd, Nat.reduceLeDiff, Nat.reduceLT, dl_i, dl_r, dl_n, dl_u, eq_self, not_true_eq_false, not_false_eq_true, n10, n01, nm0, n0m, imp_t, imp_f]
  refine call0 (c_in ?_)
  simp only [ixr_of, run_s, run_0, rM_tap, rok_i, rok_z, bx_cons, bx_nil, eADD, eC0, eC1, eC4, eCS1, eCS3, eCV3, eGO, eGR, eIALD, jICge, jIFeq, jIFne, eLA0, eLI1, ePI, eRI, eSP, fM_tap_0, fM_tap_15, fM_tap_19, fM_tap_20, fM_tap_28, fM_tap_30, fM_tap_35, fM_tap_48, fM_tap_55, bM_tap_0, bM_tap_15, bM_tap_19, bM_tap_20, bM_tap_28, bM_tap_30, bM_tap_35, bM_tap_48, bM_tap_55, ln_mnow, rg_m_32, ty_m, ty_mnow, Option.toList_some, Option.toList_none, List.cons_append, List.nil_append, List.length_cons, List.length_nil, List.mem_cons, List.not_mem_nil, or_false, false_or, or_true, true_or, ↓reduceIte, true_and, and_true, Nat.reduceEqDiff, Nat.reduceAdd, Nat.reduceLeDiff, Nat.reduceLT, dl_i, dl_r, dl_n, dl_u, eq_self, not_true_eq_false, not_false_eq_true, n10, n01, nm0, n0m, imp_t, imp_f]
  by_cases hc0 : nI 0 ≤ x ∧ x ≤ nI 4
  rotate_left
  · rw [bi_f hc0]
    refine ⟨fun q => absurd rfl q, fun _ => ?_⟩
    refine call0 (c_bad0 (by decide) (by decide) up_s (fun q => absurd q n10) (fun _ => ?_))
    simp only [ixr_of, run_s, run_0, rM_tap, rok_i, rok_z, bx_cons, bx_nil, eADD, eC0, eC1, eC4, eCS1, eCS3, eCV3, eGO, eGR, eIALD, jICge, jIFeq, jIFne, eLA0, eLI1, ePI, eRI, eSP, fM_tap_0, fM_tap_15, fM_tap_19, fM_tap_20, fM_tap_28, fM_tap_30, fM_tap_35, fM_tap_48, fM_tap_55, bM_tap_0, bM_tap_15, bM_tap_19, bM_tap_20, bM_tap_28, bM_tap_30, bM_tap_35, bM_tap_48, bM_tap_55, ln_mnow, rg_m_32, ty_m, ty_mnow, Option.toList_some, Option.toList_none, List.cons_append, List.nil_append, List.length_cons, List.length_nil, List.mem_cons, List.not_mem_nil, or_false, false_or, or_true, true_or, ↓reduceIte, true_and, and_true, Nat.reduceEqDiff, Nat.reduceAdd, Nat.reduceLeDiff, Nat.reduceLT, dl_i, dl_r, dl_n, dl_u, eq_self, not_true_eq_false, not_false_eq_true, n10, n01, nm0, n0m, imp_t, imp_f]
    exact h1  hc0
  rw [bi_t hc0]
  refine ⟨fun _ => ?_, fun q => absurd q n10⟩
  refine call0 (c_bad0 (by decide) (by decide) up_s (fun _ => ?_) (fun q => absurd rfl q))
  simp only [ixr_of, run_s, run_0, rM_tap, rok_i, rok_z, bx_cons, bx_nil, eADD, eC0, eC1, eC4, eCS1, eCS3, eCV3, eGO, eGR, eIALD, jICge, jIFeq, jIFne, eLA0, eLI1, ePI, eRI, eSP, fM_tap_0, fM_tap_15, fM_tap_19, fM_tap_20, fM_tap_28, fM_tap_30, fM_tap_35, fM_tap_48, fM_tap_55, bM_tap_0, bM_tap_15, bM_tap_19, bM_tap_20, bM_tap_28, bM_tap_30, bM_tap_35, bM_tap_48, bM_tap_55, ln_mnow, rg_m_32, ty_m, ty_mnow, Option.toList_some, Option.toList_none, List.cons_append, List.nil_append, List.length_cons, List.length_nil, List.mem_cons, List.not_mem_nil, or_false, false_or, or_true, true_or, ↓reduceIte, true_and, and_true, Nat.reduceEqDiff, Nat.reduceAdd, Nat.reduceLeDiff, Nat.reduceLT, dl_i, dl_r, dl_n, dl_u, eq_self, not_true_eq_false, not_false_eq_true, n10, n01, nm0, n0m, imp_t, imp_f]
  obtain ⟨n, hn, rfl⟩ := rng (by decide) hc0
  rw [nI_leI (by omega) (by omega)]
  refine ⟨fun q => ?_, fun q => ?_⟩
  · refine call0 (c_viewOf ty_mnow (by rw [ln_mnow]; decide) ?_)
    simp only [ixr_of, run_s, run_0, rM_tap, rok_i, rok_z, bx_cons, bx_nil, eADD, eC0, eC1, eC4, eCS1, eCS3, eCV3, eGO, eGR, eIALD, jICge, jIFeq, jIFne, eLA0, eLI1, ePI, eRI, eSP, fM_tap_0, fM_tap_15, fM_tap_19, fM_tap_20, fM_tap_28, fM_tap_30, fM_tap_35, fM_tap_48, fM_tap_55, bM_tap_0, bM_tap_15, bM_tap_19, bM_tap_20, bM_tap_28, bM_tap_30, bM_tap_35, bM_tap_48, bM_tap_55, ln_mnow, rg_m_32, ty_m, ty_mnow, Option.toList_some, Option.toList_none, List.cons_append, List.nil_append, List.length_cons, List.length_nil, List.mem_cons, List.not_mem_nil, or_false, false_or, or_true, true_or, ↓reduceIte, true_and, and_true, Nat.reduceEqDiff, Nat.reduceAdd, Nat.reduceLeDiff, Nat.reduceLT, dl_i, dl_r, dl_n, dl_u, eq_self, not_true_eq_false, not_false_eq_true, n10, n01, nm0, n0m, imp_t, imp_f]
    have : n = 4 := by omega
    subst this
    rw [show up I 500000 0 (nI 0) 500124 = I 500124 by funext z; exact up_n (by omega)]
    exact h3 rfl
  · have hn4 : n < 4 := by omega
    have hi : 497 + n < 502 := by omega
    simp only [nI_add]
    refine ixr_n hi ?_
    rw [up_n (by omega)]
    exact h2 n hn4 rfl
theorem c_put {v x : Int32} {nV : Nat} (h0 : I 500004 0 = nI nV) (h9 : nV ≤ 9) (h1 : ¬ (nI 0 ≤ v ∧ v ≤ I 500004 0 - nI 1) → kr (some (.int (nI 0))) (ref1 (up I 500000 0 (nI 0)) (nI 1) 0) E)
    (h2 : (nI 0 ≤ v ∧ v ≤ I 500004 0 - nI 1) → ¬ (nI 0 ≤ x ∧ x ≤ nI 5) → kr (some (.int (nI 0))) (ref1 (up I 500000 0 (nI 0)) (nI 2) 1) E)
    (h3 : ∀ w n, w < nV → v = nI w → n < 3 → x = nI n → kr (some (.int (I 500124 (441 + 3 * w + n)))) (up I 500000 0 (nI 0)) E)
    (h4 : ∀ w n, w < nV → v = nI w → n < 3 → x = nI (n + 3) → kr (some (.int (I 500124 (468 + 3 * w + n)))) (up I 500000 0 (nI 0)) E) : Ex Γ l shN (d + 3) (0, 0) mM_put [.ref 500000, .int v, .int x] I E kr kx := by
  refine ex_of (ls0 := [some (.ref 500000), some (.int v), some (.int x)]) tM_put (by decide +kernel) kM_put rfl (Nat.le_of_ble_eq_true rfl) rfl ?_
  intro go hgo
  refine hgo 20 [] 0 _ _ _ _ _ ?_
  simp only [ixr_of, run_s, run_0, rM_put, rok_i, rok_z, bx_cons, bx_nil, eADD, eC0, eC1, eC2, eC3, eC5, eCS3, eCV1, eCV3, eGO, eGR, eIALD, jICge, jIFeq, jIFne, eLA0, eLI1, eLI2, eMUL, ePI, eRI, eSP, eSUB, fM_put_0, fM_put_14, fM_put_18, fM_put_19, fM_put_27, fM_put_37, fM_put_41, fM_put_42, fM_put_50, fM_put_52, fM_put_57, fM_put_74, fM_put_90, bM_put_0, bM_put_14, bM_put_18, bM_put_19, bM_put_27, bM_put_37, bM_put_41, bM_put_42, bM_put_50, bM_put_52, bM_put_57, bM_put_74, bM_put_90, ln_mnow, rg_m_32, ty_m, ty_mnow, Option.toList_some, Option.toList_none, List.cons_append, List.nil_append, List.length_cons, List.length_nil, List.mem_cons, List.not_mem_nil, or_false, false_or, or_true, true_or, ↓reduceIte, true_and, and_true, Nat.reduceEqDiff, Nat.reduceAdd, Nat.reduceLeDiff, Nat.reduceLT, dl_i, dl_r, dl_n, dl_u, eq_self, not_true_eq_false, not_false_eq_true, n10, n01, nm0, n0m, imp_t, imp_f]
  refine call0 (c_isV ?_)
  simp only [ixr_of, run_s, run_0, rM_put, rok_i, rok_z, bx_cons, bx_nil, eADD, eC0, eC1, eC2, eC3, eC5, eCS3, eCV1, eCV3, eGO, eGR, eIALD, jICge, jIFeq, jIFne, eLA0, eLI1, eLI2, eMUL, ePI, eRI, eSP, eSUB, fM_put_0, fM_put_14, fM_put_18, fM_put_19, fM_put_27, fM_put_37, fM_put_41, fM_put_42, fM_put_50, fM_put_52, fM_put_57, fM_put_74, fM_put_90, bM_put_0, bM_put_14, bM_put_18, bM_put_19, bM_put_27, bM_put_37, bM_put_41, bM_put_42, bM_put_50, bM_put_52, bM_put_57, bM_put_74, bM_put_90, ln_mnow, rg_m_32, ty_m, ty_mnow, Option.toList_some, Option.toList_none, List.cons_append, List.nil_append, List.length_cons, List.length_nil, List.mem_cons, List.not_mem_nil, or_false, false_or, or_true, true_or, ↓reduceIte, true_and, and_true, Nat.reduceEqDiff, Nat.reduceAdd, Nat.reduceLeDiff, Nat.reduceLT, dl_i, dl_r, dl_n, dl_u, eq_self, not_true_eq_false, not_false_eq_true, n10, n01, nm0, n0m, imp_t, imp_f]
  by_cases hc0 : nI 0 ≤ v ∧ v ≤ I 500004 0 - nI 1
  rotate_left
  · rw [bi_f hc0]
    refine ⟨fun q => absurd rfl q, fun _ => ?_⟩
    refine call0 (c_bad0 (by decide) (by decide) up_s (fun q => absurd q n10) (fun _ => ?_))
    simp only [ixr_of, run_s, run_0, rM_put, rok_i, rok_z, bx_cons, bx_nil, eADD, eC0, eC1, eC2, eC3, eC5, eCS3, eCV1, eCV3, eGO, eGR, eIALD, jICge, jIFeq, jIFne, eLA0, eLI1, eLI2, eMUL, ePI, eRI, eSP, eSUB, fM_put_0, fM_put_14, fM_put_18, fM_put_19, fM_put_27, fM_put_37, fM_put_41, fM_put_42, fM_put_50, fM_put_52, fM_put_57, fM_put_74, fM_put_90, bM_put_0, bM_put_14, bM_put_18, bM_put_19, bM_put_27, bM_put_37, bM_put_41, bM_put_42, bM_put_50, bM_put_52, bM_put_57, bM_put_74, bM_put_90, ln_mnow, rg_m_32, ty_m, ty_mnow, Option.toList_some, Option.toList_none, List.cons_append, List.nil_append, List.length_cons, List.length_nil, List.mem_cons, List.not_mem_nil, or_false, false_or, or_true, true_or, ↓reduceIte, true_and, and_true, Nat.reduceEqDiff, Nat.reduceAdd, Nat.reduceLeDiff, Nat.reduceLT, dl_i, dl_r, dl_n, dl_u, eq_self, not_true_eq_false, not_false_eq_true, n10, n01, nm0, n0m, imp_t, imp_f]
    exact h1  hc0
  rw [bi_t hc0]
  refine ⟨fun _ => ?_, fun q => absurd q n10⟩
  refine call0 (c_bad0 (by decide) (by decide) up_s (fun _ => ?_) (fun q => absurd rfl q))
  simp only [ixr_of, run_s, run_0, rM_put, rok_i, rok_z, bx_cons, bx_nil, eADD, eC0, eC1, eC2, eC3, eC5, eCS3, eCV1, eCV3, eGO, eGR, eIALD, jICge, jIFeq, jIFne, eLA0, eLI1, eLI2, eMUL, ePI, eRI, eSP, eSUB, fM_put_0, fM_put_14, fM_put_18, fM_put_19, fM_put_27, fM_put_37, fM_put_41, fM_put_42, fM_put_50, fM_put_52, fM_put_57, fM_put_74, fM_put_90, bM_put_0, bM_put_14, bM_put_18, bM_put_19, bM_put_27, bM_put_37, bM_put_41, bM_put_42, bM_put_50, bM_put_52, bM_put_57, bM_put_74, bM_put_90, ln_mnow, rg_m_32, ty_m, ty_mnow, Option.toList_some, Option.toList_none, List.cons_append, List.nil_append, List.length_cons, List.length_nil, List.mem_cons, List.not_mem_nil, or_false, false_or, or_true, true_or, ↓reduceIte, true_and, and_true, Nat.reduceEqDiff, Nat.reduceAdd, Nat.reduceLeDiff, Nat.reduceLT, dl_i, dl_r, dl_n, dl_u, eq_self, not_true_eq_false, not_false_eq_true, n10, n01, nm0, n0m, imp_t, imp_f]
  refine call0 (c_in ?_)
  simp only [ixr_of, run_s, run_0, rM_put, rok_i, rok_z, bx_cons, bx_nil, eADD, eC0, eC1, eC2, eC3, eC5, eCS3, eCV1, eCV3, eGO, eGR, eIALD, jICge, jIFeq, jIFne, eLA0, eLI1, eLI2, eMUL, ePI, eRI, eSP, eSUB, fM_put_0, fM_put_14, fM_put_18, fM_put_19, fM_put_27, fM_put_37, fM_put_41, fM_put_42, fM_put_50, fM_put_52, fM_put_57, fM_put_74, fM_put_90, bM_put_0, bM_put_14, bM_put_18, bM_put_19, bM_put_27, bM_put_37, bM_put_41, bM_put_42, bM_put_50, bM_put_52, bM_put_57, bM_put_74, bM_put_90, ln_mnow, rg_m_32, ty_m, ty_mnow, Option.toList_some, Option.toList_none, List.cons_append, List.nil_append, List.length_cons, List.length_nil, List.mem_cons, List.not_mem_nil, or_false, false_or, or_true, true_or, ↓reduceIte, true_and, and_true, Nat.reduceEqDiff, Nat.reduceAdd, Nat.reduceLeDiff, Nat.reduceLT, dl_i, dl_r, dl_n, dl_u, eq_self, not_true_eq_false, not_false_eq_true, n10, n01, nm0, n0m, imp_t, imp_f]
  by_cases hc1 : nI 0 ≤ x ∧ x ≤ nI 5
  rotate_left
  · rw [bi_f hc1]
    refine ⟨fun q => absurd rfl q, fun _ => ?_⟩
    refine call0 (c_bad0 (by decide) (by decide) up_s (fun q => absurd q n10) (fun _ => ?_))
    simp only [ixr_of, run_s, run_0, rM_put, rok_i, rok_z, bx_cons, bx_nil, eADD, eC0, eC1, eC2, eC3, eC5, eCS3, eCV1, eCV3, eGO, eGR, eIALD, jICge, jIFeq, jIFne, eLA0, eLI1, eLI2, eMUL, ePI, eRI, eSP, eSUB, fM_put_0, fM_put_14, fM_put_18, fM_put_19, fM_put_27, fM_put_37, fM_put_41, fM_put_42, fM_put_50, fM_put_52, fM_put_57, fM_put_74, fM_put_90, bM_put_0, bM_put_14, bM_put_18, bM_put_19, bM_put_27, bM_put_37, bM_put_41, bM_put_42, bM_put_50, bM_put_52, bM_put_57, bM_put_74, bM_put_90, ln_mnow, rg_m_32, ty_m, ty_mnow, Option.toList_some, Option.toList_none, List.cons_append, List.nil_append, List.length_cons, List.length_nil, List.mem_cons, List.not_mem_nil, or_false, false_or, or_true, true_or, ↓reduceIte, true_and, and_true, Nat.reduceEqDiff, Nat.reduceAdd, Nat.reduceLeDiff, Nat.reduceLT, dl_i, dl_r, dl_n, dl_u, eq_self, not_true_eq_false, not_false_eq_true, n10, n01, nm0, n0m, imp_t, imp_f]
    exact h2 hc0 hc1
  rw [bi_t hc1]
  refine ⟨fun _ => ?_, fun q => absurd q n10⟩
  refine call0 (c_bad0 (by decide) (by decide) up_s (fun _ => ?_) (fun q => absurd rfl q))
  simp only [ixr_of, run_s, run_0, rM_put, rok_i, rok_z, bx_cons, bx_nil, eADD, eC0, eC1, eC2, eC3, eC5, eCS3, eCV1, eCV3, eGO, eGR, eIALD, jICge, jIFeq, jIFne, eLA0, eLI1, eLI2, eMUL, ePI, eRI, eSP, eSUB, fM_put_0, fM_put_14, fM_put_18, fM_put_19, fM_put_27, fM_put_37, fM_put_41, fM_put_42, fM_put_50, fM_put_52, fM_put_57, fM_put_74, fM_put_90, bM_put_0, bM_put_14, bM_put_18, bM_put_19, bM_put_27, bM_put_37, bM_put_41, bM_put_42, bM_put_50, bM_put_52, bM_put_57, bM_put_74, bM_put_90, ln_mnow, rg_m_32, ty_m, ty_mnow, Option.toList_some, Option.toList_none, List.cons_append, List.nil_append, List.length_cons, List.length_nil, List.mem_cons, List.not_mem_nil, or_false, false_or, or_true, true_or, ↓reduceIte, true_and, and_true, Nat.reduceEqDiff, Nat.reduceAdd, Nat.reduceLeDiff, Nat.reduceLT, dl_i, dl_r, dl_n, dl_u, eq_self, not_true_eq_false, not_false_eq_true, n10, n01, nm0, n0m, imp_t, imp_f]
  obtain ⟨n, hn, rfl⟩ := rng (by decide) hc1
  obtain ⟨w, hw, rfl⟩ := isV_n h0 h9 hc0
  rw [nI_leI (by omega) (by omega)]
  refine ⟨fun q => ?_, fun q => ?_⟩
  · rw [pk_mul, nI_add, nI_add, pk_sub (by omega), show 468 + 3 * w + n - 3 = 468 + 3 * w + (n - 3) by omega]
    refine ixr_n (by omega) ?_
    rw [up_n (by omega)]
    exact h4 w (n - 3) hw rfl (by omega) (by congr 1; omega)
  · rw [pk_mul, nI_add, nI_add]
    refine ixr_n (by omega) ?_
    rw [up_n (by omega)]
    exact h3 w n hw rfl (by omega) rfl
theorem c_led {v x y : Int32} {nV : Nat} (h0 : I 500004 0 = nI nV) (h9 : nV ≤ 9) (h1 : ¬ ((nI 0 ≤ v ∧ v ≤ I 500004 0 - nI 1) ∧ (nI 0 ≤ y ∧ y ≤ I 500004 0 - nI 1)) → kr (some (.int (nI 0))) (ref1 (up I 500000 0 (nI 0)) (nI 1) 0) E)
    (h2 : ((nI 0 ≤ v ∧ v ≤ I 500004 0 - nI 1) ∧ (nI 0 ≤ y ∧ y ≤ I 500004 0 - nI 1)) → ¬ (nI 0 ≤ x ∧ x ≤ nI 2) → kr (some (.int (nI 0))) (ref1 (up I 500000 0 (nI 0)) (nI 2) 1) E)
    (h3 : ∀ w n u, w < nV → v = nI w → u < nV → y = nI u → n < 3 → x = nI n → kr (some (.int (I 500124 (9 + 27 * w + 9 * n + u)))) (up I 500000 0 (nI 0)) E) : Ex Γ l shN (d + 3) (0, 0) mM_led [.ref 500000, .int v, .int x, .int y] I E kr kx := by
  refine ex_of (ls0 := [some (.ref 500000), some (.int v), some (.int x), some (.int y)]) tM_led (by decide +kernel) kM_led rfl (Nat.le_of_ble_eq_true rfl) rfl ?_
  intro go hgo
  refine hgo 20 [] 0 _ _ _ _ _ ?_
  simp only [ixr_of, run_s, run_0, rM_led, rok_i, rok_z, bx_cons, bx_nil, eC0, eC1, eC2, eCS3, eCV1, eCV3, eGO, eGR, eIALD, jIFeq, jIFne, eLA0, eLI1, eLI2, eLI3, ePI, eRI, fM_led_0, fM_led_14, fM_led_22, fM_led_26, fM_led_27, fM_led_35, fM_led_45, fM_led_49, fM_led_50, fM_led_58, fM_led_60, bM_led_0, bM_led_14, bM_led_22, bM_led_26, bM_led_27, bM_led_35, bM_led_45, bM_led_49, bM_led_50, bM_led_58, bM_led_60, ln_mnow, rg_m_32, ty_m, ty_mnow, Option.toList_some, Option.toList_none, List.cons_append, List.nil_append, List.length_cons, List.length_nil, List.mem_cons, List.not_mem_nil, or_false, false_or, or_true, true_or, ↓reduceIte, true_and, and_true, Nat.reduceEqDiff, Nat.reduceAdd, Nat.reduceLeDiff, Nat.reduceLT, dl_i, dl_r, dl_n, dl_u, eq_self, not_true_eq_false, not_false_eq_true, n10, n01, nm0, n0m, imp_t, imp_f]
  refine call0 (c_isV ?_)
  simp only [ixr_of, run_s, run_0, rM_led, rok_i, rok_z, bx_cons, bx_nil, eC0, eC1, eC2, eCS3, eCV1, eCV3, eGO, eGR, eIALD, jIFeq, jIFne, eLA0, eLI1, eLI2, eLI3, ePI, eRI, fM_led_0, fM_led_14, fM_led_22, fM_led_26, fM_led_27, fM_led_35, fM_led_45, fM_led_49, fM_led_50, fM_led_58, fM_led_60, bM_led_0, bM_led_14, bM_led_22, bM_led_26, bM_led_27, bM_led_35, bM_led_45, bM_led_49, bM_led_50, bM_led_58, bM_led_60, ln_mnow, rg_m_32, ty_m, ty_mnow, Option.toList_some, Option.toList_none, List.cons_append, List.nil_append, List.length_cons, List.length_nil, List.mem_cons, List.not_mem_nil, or_false, false_or, or_true, true_or, ↓reduceIte, true_and, and_true, Nat.reduceEqDiff, Nat.reduceAdd, Nat.reduceLeDiff, Nat.reduceLT, dl_i, dl_r, dl_n, dl_u, eq_self, not_true_eq_false, not_false_eq_true, n10, n01, nm0, n0m, imp_t, imp_f]
  by_cases hc0 : nI 0 ≤ v ∧ v ≤ I 500004 0 - nI 1
  rotate_left
  · rw [bi_f hc0]
    refine ⟨fun _ => ?_, fun q => absurd rfl q⟩
    refine call0 (c_bad0 (by decide) (by decide) up_s (fun q => absurd q n10) (fun _ => ?_))
    simp only [ixr_of, run_s, run_0, rM_led, rok_i, rok_z, bx_cons, bx_nil, eC0, eC1, eC2, eCS3, eCV1, eCV3, eGO, eGR, eIALD, jIFeq, jIFne, eLA0, eLI1, eLI2, eLI3, ePI, eRI, fM_led_0, fM_led_14, fM_led_22, fM_led_26, fM_led_27, fM_led_35, fM_led_45, fM_led_49, fM_led_50, fM_led_58, fM_led_60, bM_led_0, bM_led_14, bM_led_22, bM_led_26, bM_led_27, bM_led_35, bM_led_45, bM_led_49, bM_led_50, bM_led_58, bM_led_60, ln_mnow, rg_m_32, ty_m, ty_mnow, Option.toList_some, Option.toList_none, List.cons_append, List.nil_append, List.length_cons, List.length_nil, List.mem_cons, List.not_mem_nil, or_false, false_or, or_true, true_or, ↓reduceIte, true_and, and_true, Nat.reduceEqDiff, Nat.reduceAdd, Nat.reduceLeDiff, Nat.reduceLT, dl_i, dl_r, dl_n, dl_u, eq_self, not_true_eq_false, not_false_eq_true, n10, n01, nm0, n0m, imp_t, imp_f]
    exact h1  (fun q => hc0 q.1)
  rw [bi_t hc0]
  refine ⟨fun q => absurd q n10, fun _ => ?_⟩
  refine call0 (c_isV ?_)
  simp only [ixr_of, run_s, run_0, rM_led, rok_i, rok_z, bx_cons, bx_nil, eC0, eC1, eC2, eCS3, eCV1, eCV3, eGO, eGR, eIALD, jIFeq, jIFne, eLA0, eLI1, eLI2, eLI3, ePI, eRI, fM_led_0, fM_led_14, fM_led_22, fM_led_26, fM_led_27, fM_led_35, fM_led_45, fM_led_49, fM_led_50, fM_led_58, fM_led_60, bM_led_0, bM_led_14, bM_led_22, bM_led_26, bM_led_27, bM_led_35, bM_led_45, bM_led_49, bM_led_50, bM_led_58, bM_led_60, ln_mnow, rg_m_32, ty_m, ty_mnow, Option.toList_some, Option.toList_none, List.cons_append, List.nil_append, List.length_cons, List.length_nil, List.mem_cons, List.not_mem_nil, or_false, false_or, or_true, true_or, ↓reduceIte, true_and, and_true, Nat.reduceEqDiff, Nat.reduceAdd, Nat.reduceLeDiff, Nat.reduceLT, dl_i, dl_r, dl_n, dl_u, eq_self, not_true_eq_false, not_false_eq_true, n10, n01, nm0, n0m, imp_t, imp_f]
  by_cases hc1 : nI 0 ≤ y ∧ y ≤ I 500004 0 - nI 1
  rotate_left
  · rw [bi_f hc1]
    refine ⟨fun q => absurd rfl q, fun _ => ?_⟩
    refine call0 (c_bad0 (by decide) (by decide) up_s (fun q => absurd q n10) (fun _ => ?_))
    simp only [ixr_of, run_s, run_0, rM_led, rok_i, rok_z, bx_cons, bx_nil, eC0, eC1, eC2, eCS3, eCV1, eCV3, eGO, eGR, eIALD, jIFeq, jIFne, eLA0, eLI1, eLI2, eLI3, ePI, eRI, fM_led_0, fM_led_14, fM_led_22, fM_led_26, fM_led_27, fM_led_35, fM_led_45, fM_led_49, fM_led_50, fM_led_58, fM_led_60, bM_led_0, bM_led_14, bM_led_22, bM_led_26, bM_led_27, bM_led_35, bM_led_45, bM_led_49, bM_led_50, bM_led_58, bM_led_60, ln_mnow, rg_m_32, ty_m, ty_mnow, Option.toList_some, Option.toList_none, List.cons_append, List.nil_append, List.length_cons, List.length_nil, List.mem_cons, List.not_mem_nil, or_false, false_or, or_true, true_or, ↓reduceIte, true_and, and_true, Nat.reduceEqDiff, Nat.reduceAdd, Nat.reduceLeDiff, Nat.reduceLT, dl_i, dl_r, dl_n, dl_u, eq_self, not_true_eq_false, not_false_eq_true, n10, n01, nm0, n0m, imp_t, imp_f]
    exact h1  (fun q => hc1 q.2)
  rw [bi_t hc1]
  refine ⟨fun _ => ?_, fun q => absurd q n10⟩
  refine call0 (c_bad0 (by decide) (by decide) up_s (fun _ => ?_) (fun q => absurd rfl q))
  simp only [ixr_of, run_s, run_0, rM_led, rok_i, rok_z, bx_cons, bx_nil, eC0, eC1, eC2, eCS3, eCV1, eCV3, eGO, eGR, eIALD, jIFeq, jIFne, eLA0, eLI1, eLI2, eLI3, ePI, eRI, fM_led_0, fM_led_14, fM_led_22, fM_led_26, fM_led_27, fM_led_35, fM_led_45, fM_led_49, fM_led_50, fM_led_58, fM_led_60, bM_led_0, bM_led_14, bM_led_22, bM_led_26, bM_led_27, bM_led_35, bM_led_45, bM_led_49, bM_led_50, bM_led_58, bM_led_60, ln_mnow, rg_m_32, ty_m, ty_mnow, Option.toList_some, Option.toList_none, List.cons_append, List.nil_append, List.length_cons, List.length_nil, List.mem_cons, List.not_mem_nil, or_false, false_or, or_true, true_or, ↓reduceIte, true_and, and_true, Nat.reduceEqDiff, Nat.reduceAdd, Nat.reduceLeDiff, Nat.reduceLT, dl_i, dl_r, dl_n, dl_u, eq_self, not_true_eq_false, not_false_eq_true, n10, n01, nm0, n0m, imp_t, imp_f]
  refine call0 (c_in ?_)
  simp only [ixr_of, run_s, run_0, rM_led, rok_i, rok_z, bx_cons, bx_nil, eC0, eC1, eC2, eCS3, eCV1, eCV3, eGO, eGR, eIALD, jIFeq, jIFne, eLA0, eLI1, eLI2, eLI3, ePI, eRI, fM_led_0, fM_led_14, fM_led_22, fM_led_26, fM_led_27, fM_led_35, fM_led_45, fM_led_49, fM_led_50, fM_led_58, fM_led_60, bM_led_0, bM_led_14, bM_led_22, bM_led_26, bM_led_27, bM_led_35, bM_led_45, bM_led_49, bM_led_50, bM_led_58, bM_led_60, ln_mnow, rg_m_32, ty_m, ty_mnow, Option.toList_some, Option.toList_none, List.cons_append, List.nil_append, List.length_cons, List.length_nil, List.mem_cons, List.not_mem_nil, or_false, false_or, or_true, true_or, ↓reduceIte, true_and, and_true, Nat.reduceEqDiff, Nat.reduceAdd, Nat.reduceLeDiff, Nat.reduceLT, dl_i, dl_r, dl_n, dl_u, eq_self, not_true_eq_false, not_false_eq_true, n10, n01, nm0, n0m, imp_t, imp_f]
  by_cases hc2 : nI 0 ≤ x ∧ x ≤ nI 2
  rotate_left
  · rw [bi_f hc2]
    refine ⟨fun q => absurd rfl q, fun _ => ?_⟩
    refine call0 (c_bad0 (by decide) (by decide) up_s (fun q => absurd q n10) (fun _ => ?_))
    simp only [ixr_of, run_s, run_0, rM_led, rok_i, rok_z, bx_cons, bx_nil, eC0, eC1, eC2, eCS3, eCV1, eCV3, eGO, eGR, eIALD, jIFeq, jIFne, eLA0, eLI1, eLI2, eLI3, ePI, eRI, fM_led_0, fM_led_14, fM_led_22, fM_led_26, fM_led_27, fM_led_35, fM_led_45, fM_led_49, fM_led_50, fM_led_58, fM_led_60, bM_led_0, bM_led_14, bM_led_22, bM_led_26, bM_led_27, bM_led_35, bM_led_45, bM_led_49, bM_led_50, bM_led_58, bM_led_60, ln_mnow, rg_m_32, ty_m, ty_mnow, Option.toList_some, Option.toList_none, List.cons_append, List.nil_append, List.length_cons, List.length_nil, List.mem_cons, List.not_mem_nil, or_false, false_or, or_true, true_or, ↓reduceIte, true_and, and_true, Nat.reduceEqDiff, Nat.reduceAdd, Nat.reduceLeDiff, Nat.reduceLT, dl_i, dl_r, dl_n, dl_u, eq_self, not_true_eq_false, not_false_eq_true, n10, n01, nm0, n0m, imp_t, imp_f]
    exact h2 ⟨hc0, hc1⟩ hc2
  rw [bi_t hc2]
  refine ⟨fun _ => ?_, fun q => absurd q n10⟩
  refine call0 (c_bad0 (by decide) (by decide) up_s (fun _ => ?_) (fun q => absurd rfl q))
  simp only [ixr_of, run_s, run_0, rM_led, rok_i, rok_z, bx_cons, bx_nil, eC0, eC1, eC2, eCS3, eCV1, eCV3, eGO, eGR, eIALD, jIFeq, jIFne, eLA0, eLI1, eLI2, eLI3, ePI, eRI, fM_led_0, fM_led_14, fM_led_22, fM_led_26, fM_led_27, fM_led_35, fM_led_45, fM_led_49, fM_led_50, fM_led_58, fM_led_60, bM_led_0, bM_led_14, bM_led_22, bM_led_26, bM_led_27, bM_led_35, bM_led_45, bM_led_49, bM_led_50, bM_led_58, bM_led_60, ln_mnow, rg_m_32, ty_m, ty_mnow, Option.toList_some, Option.toList_none, List.cons_append, List.nil_append, List.length_cons, List.length_nil, List.mem_cons, List.not_mem_nil, or_false, false_or, or_true, true_or, ↓reduceIte, true_and, and_true, Nat.reduceEqDiff, Nat.reduceAdd, Nat.reduceLeDiff, Nat.reduceLT, dl_i, dl_r, dl_n, dl_u, eq_self, not_true_eq_false, not_false_eq_true, n10, n01, nm0, n0m, imp_t, imp_f]
  obtain ⟨n, hn, rfl⟩ := rng (by decide) hc2
  obtain ⟨w, hw, rfl⟩ := isV_n h0 h9 hc0
  obtain ⟨u, hu, rfl⟩ := isV_n h0 h9 hc1
  refine call0 (c_herbAt ?_)
  simp only [ixr_of, run_s, run_0, rM_led, rok_i, rok_z, bx_cons, bx_nil, eC0, eC1, eC2, eCS3, eCV1, eCV3, eGO, eGR, eIALD, jIFeq, jIFne, eLA0, eLI1, eLI2, eLI3, ePI, eRI, fM_led_0, fM_led_14, fM_led_22, fM_led_26, fM_led_27, fM_led_35, fM_led_45, fM_led_49, fM_led_50, fM_led_58, fM_led_60, bM_led_0, bM_led_14, bM_led_22, bM_led_26, bM_led_27, bM_led_35, bM_led_45, bM_led_49, bM_led_50, bM_led_58, bM_led_60, ln_mnow, rg_m_32, ty_m, ty_mnow, Option.toList_some, Option.toList_none, List.cons_append, List.nil_append, List.length_cons, List.length_nil, List.mem_cons, List.not_mem_nil, or_false, false_or, or_true, true_or, ↓reduceIte, true_and, and_true, Nat.reduceEqDiff, Nat.reduceAdd, Nat.reduceLeDiff, Nat.reduceLT, dl_i, dl_r, dl_n, dl_u, eq_self, not_true_eq_false, not_false_eq_true, n10, n01, nm0, n0m, imp_t, imp_f]
  refine ixr_n (by omega) ?_
  rw [up_n (by omega)]
  exact h3 w n u hw rfl hu rfl (by omega) rfl
end CM13
