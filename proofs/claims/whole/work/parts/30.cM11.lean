/-! contracts of HerbWatersModel, 11: the face, 1 -/
theorem rng {x : Int32} {n : Nat} (hn : n < 2 ^ 31) (h : nI 0 ≤ x ∧ x ≤ nI n) : ∃ k, k ≤ n ∧ x = nI k := by
  have h0 : ¬ x < 0 := by rw [← nI_0]; exact i32_nlt.mpr h.1
  obtain ⟨k, hk, rfl⟩ := nI_of h0
  exact ⟨k, (nI_leI hk hn).mp h.2, rfl⟩
theorem rng1 {x : Int32} {n : Nat} (hn : n < 2 ^ 31) (h : nI 1 ≤ x ∧ x ≤ nI n) : ∃ k, 1 ≤ k ∧ k ≤ n ∧ x = nI k := by
  have h0 : nI 0 ≤ x := Int32.le_trans (by decide) h.1
  obtain ⟨k, hk, rfl⟩ := rng hn ⟨h0, h.2⟩
  exact ⟨k, (nI_leI (by decide) (by omega)).mp h.1, hk, rfl⟩
section CM11
variable {Γ : Gm} {l : Launch} {d : Nat} {I : Iv} {E : Ev} {kr : Kr} {kx : Kxx}
theorem asN_up0 {x : Int32} : asN (up I 500000 0 x) = up (asN I) 500000 0 x := by
  unfold asN
  rw [up_n (by decide), up_n (by decide)]
  rw [up_com (I := I) (i := 500000) (j := 0) (by decide), up_com (i := 500000) (j := 0) (by decide), up_com (i := 500000) (j := 0) (by decide), up_com (i := 500000) (j := 0) (by decide), up_com (i := 500000) (j := 0) (by decide), up_com (i := 500000) (j := 0) (by decide)]
theorem say_up0 {x : Int32} {j : Nat} (h : j = 0 ∨ j = 39) : Say I (up I 500000 j x) := ⟨fun i hi => by funext q; exact up_n (by omega), fun q hq => up_n (by omega)⟩
theorem VS.up0 {nV nC : Nat} {x : Int32} {j : Nat} (hV : VS I nV nC) (h : j = 0 ∨ j = 39) : VS (up I 500000 j x) nV nC := hV.say (say_up0 h)
theorem c_fault (h : kr (some (.int (I 500000 3))) (up I 500000 0 (nI 0)) E) : Ex Γ l shN (d + 1) (0, 0) mM_fault [.ref 500000] I E kr kx := by
  refine ex_of (ls0 := [some (.ref 500000)]) tM_fault (by decide +kernel) kM_fault rfl (Nat.le_of_ble_eq_true rfl) rfl ?_
  intro go hgo
  refine hgo 20 [] 0 _ _ _ _ _ ?_
  simp only [ixr_of, run_s, run_0, rM_fault, rok_i, rok_z, bx_cons, bx_nil, eC0, eGI, eLA0, ePI, eRI, fM_fault_0, bM_fault_0, ty_m, Option.toList_some, Option.toList_none, List.cons_append, List.nil_append, List.length_cons, List.length_nil, List.mem_cons, List.not_mem_nil, or_false, false_or, or_true, true_or, ↓reduceIte, true_and, and_true, Nat.reduceEqDiff, Nat.reduceAdd, Nat.reduceLeDiff, Nat.reduceLT, dl_i, dl_r, dl_n, dl_u, eq_self, not_true_eq_false, not_false_eq_true, n10, n01, nm0, n0m, imp_t, imp_f]
  rw [up_n (by decide)]
  exact h
theorem c_view {x : Int32} {nV nC : Nat} (hV : VS I nV nC) (h1 : ¬ (nI 0 ≤ x ∧ x ≤ nI 99) → kr (some (.int (nI 0))) (ref1 (up I 500000 0 (nI 0)) (nI 1) 1) E)
    (h2 : ∀ n, n ≤ 99 → x = nI n → ∀ J, Fr 500126 (up (asN I) 500000 0 (nI 0)) J → kr (some (.int (vwI (itR (asN I) nV nC (I 500124, I 500000 48) n).1))) J E) : Ex Γ l shN (d + 8) (0, 0) mM_view [.ref 500000, .int x] I E kr kx := by
  refine ex_of (ls0 := [some (.ref 500000), some (.int x)]) tM_view (by decide +kernel) kM_view rfl (Nat.le_of_ble_eq_true rfl) rfl ?_
  intro go hgo
  refine hgo 20 [] 0 _ _ _ _ _ ?_
  simp only [ixr_of, run_s, run_0, rM_view, rok_i, rok_z, bx_cons, bx_nil, eBP, eC0, eC1, eCS1, eCS3, eCV0, eCV1, eCV3, eGO, eGR, jIFeq, jIFne, eLA0, eLI1, ePI, eRI, fM_view_0, fM_view_16, fM_view_20, fM_view_21, fM_view_29, fM_view_31, bM_view_0, bM_view_16, bM_view_20, bM_view_21, bM_view_29, bM_view_31, ln_mtrial, rg_m_34, ty_m, ty_mtrial, Option.toList_some, Option.toList_none, List.cons_append, List.nil_append, List.length_cons, List.length_nil, List.mem_cons, List.not_mem_nil, or_false, false_or, or_true, true_or, ↓reduceIte, true_and, and_true, Nat.reduceEqDiff, Nat.reduceAdd, Nat.reduceLeDiff, Nat.reduceLT, dl_i, dl_r, dl_n, dl_u, eq_self, not_true_eq_false, not_false_eq_true, n10, n01, nm0, n0m, imp_t, imp_f]
  refine call0 (c_in ?_)
  simp only [ixr_of, run_s, run_0, rM_view, rok_i, rok_z, bx_cons, bx_nil, eBP, eC0, eC1, eCS1, eCS3, eCV0, eCV1, eCV3, eGO, eGR, jIFeq, jIFne, eLA0, eLI1, ePI, eRI, fM_view_0, fM_view_16, fM_view_20, fM_view_21, fM_view_29, fM_view_31, bM_view_0, bM_view_16, bM_view_20, bM_view_21, bM_view_29, bM_view_31, ln_mtrial, rg_m_34, ty_m, ty_mtrial, Option.toList_some, Option.toList_none, List.cons_append, List.nil_append, List.length_cons, List.length_nil, List.mem_cons, List.not_mem_nil, or_false, false_or, or_true, true_or, ↓reduceIte, true_and, and_true, Nat.reduceEqDiff, Nat.reduceAdd, Nat.reduceLeDiff, Nat.reduceLT, dl_i, dl_r, dl_n, dl_u, eq_self, not_true_eq_false, not_false_eq_true, n10, n01, nm0, n0m, imp_t, imp_f]
  by_cases hin : nI 0 ≤ x ∧ x ≤ nI 99
  rotate_left
  · rw [bi_f hin]
    refine ⟨fun q => absurd rfl q, fun _ => ?_⟩
    refine call0 (c_bad0 (by decide) (by decide) up_s (fun q => absurd q n10) (fun _ => ?_))
    simp only [ixr_of, run_s, run_0, rM_view, rok_i, rok_z, bx_cons, bx_nil, eBP, eC0, eC1, eCS1, eCS3, eCV0, eCV1, eCV3, eGO, eGR, jIFeq, jIFne, eLA0, eLI1, ePI, eRI, fM_view_0, fM_view_16, fM_view_20, fM_view_21, fM_view_29, fM_view_31, bM_view_0, bM_view_16, bM_view_20, bM_view_21, bM_view_29, bM_view_31, ln_mtrial, rg_m_34, ty_m, ty_mtrial, Option.toList_some, Option.toList_none, List.cons_append, List.nil_append, List.length_cons, List.length_nil, List.mem_cons, List.not_mem_nil, or_false, false_or, or_true, true_or, ↓reduceIte, true_and, and_true, Nat.reduceEqDiff, Nat.reduceAdd, Nat.reduceLeDiff, Nat.reduceLT, dl_i, dl_r, dl_n, dl_u, eq_self, not_true_eq_false, not_false_eq_true, n10, n01, nm0, n0m, imp_t, imp_f]
    exact h1 hin
  rw [bi_t hin]
  refine ⟨fun _ => ?_, fun q => absurd q n10⟩
  refine call0 (c_bad0 (by decide) (by decide) up_s (fun _ => ?_) (fun q => absurd rfl q))
  simp only [ixr_of, run_s, run_0, rM_view, rok_i, rok_z, bx_cons, bx_nil, eBP, eC0, eC1, eCS1, eCS3, eCV0, eCV1, eCV3, eGO, eGR, jIFeq, jIFne, eLA0, eLI1, ePI, eRI, fM_view_0, fM_view_16, fM_view_20, fM_view_21, fM_view_29, fM_view_31, bM_view_0, bM_view_16, bM_view_20, bM_view_21, bM_view_29, bM_view_31, ln_mtrial, rg_m_34, ty_m, ty_mtrial, Option.toList_some, Option.toList_none, List.cons_append, List.nil_append, List.length_cons, List.length_nil, List.mem_cons, List.not_mem_nil, or_false, false_or, or_true, true_or, ↓reduceIte, true_and, and_true, Nat.reduceEqDiff, Nat.reduceAdd, Nat.reduceLeDiff, Nat.reduceLT, dl_i, dl_r, dl_n, dl_u, eq_self, not_true_eq_false, not_false_eq_true, n10, n01, nm0, n0m, imp_t, imp_f]
  obtain ⟨n, hn, rfl⟩ := rng (by decide) hin
  refine call0 (c_asNow ?_)
  simp only [ixr_of, run_s, run_0, rM_view, rok_i, rok_z, bx_cons, bx_nil, eBP, eC0, eC1, eCS1, eCS3, eCV0, eCV1, eCV3, eGO, eGR, jIFeq, jIFne, eLA0, eLI1, ePI, eRI, fM_view_0, fM_view_16, fM_view_20, fM_view_21, fM_view_29, fM_view_31, bM_view_0, bM_view_16, bM_view_20, bM_view_21, bM_view_29, bM_view_31, ln_mtrial, rg_m_34, ty_m, ty_mtrial, Option.toList_some, Option.toList_none, List.cons_append, List.nil_append, List.length_cons, List.length_nil, List.mem_cons, List.not_mem_nil, or_false, false_or, or_true, true_or, ↓reduceIte, true_and, and_true, Nat.reduceEqDiff, Nat.reduceAdd, Nat.reduceLeDiff, Nat.reduceLT, dl_i, dl_r, dl_n, dl_u, eq_self, not_true_eq_false, not_false_eq_true, n10, n01, nm0, n0m, imp_t, imp_f]
  rw [show up (up (up (up (up (up (up I 500000 0 (nI 0)) 500000 41 (up I 500000 0 (nI 0) 500000 37)) 500000 42 (up I 500000 0 (nI 0) 500000 38)) 500000 49 (nI 1)) 500000 43 (-1)) 500000 46 (-1)) 500000 47 (nI 0) = asN (up I 500000 0 (nI 0)) from rfl, asN_up0]
  refine call0 (c_goesOn (by omega) (hV.as.up0 (Or.inl rfl)) ?_)
  intro J hf hr
  simp only [ixr_of, run_s, run_0, rM_view, rok_i, rok_z, bx_cons, bx_nil, eBP, eC0, eC1, eCS1, eCS3, eCV0, eCV1, eCV3, eGO, eGR, jIFeq, jIFne, eLA0, eLI1, ePI, eRI, fM_view_0, fM_view_16, fM_view_20, fM_view_21, fM_view_29, fM_view_31, bM_view_0, bM_view_16, bM_view_20, bM_view_21, bM_view_29, bM_view_31, ln_mtrial, rg_m_34, ty_m, ty_mtrial, Option.toList_some, Option.toList_none, List.cons_append, List.nil_append, List.length_cons, List.length_nil, List.mem_cons, List.not_mem_nil, or_false, false_or, or_true, true_or, ↓reduceIte, true_and, and_true, Nat.reduceEqDiff, Nat.reduceAdd, Nat.reduceLeDiff, Nat.reduceLT, dl_i, dl_r, dl_n, dl_u, eq_self, not_true_eq_false, not_false_eq_true, n10, n01, nm0, n0m, imp_t, imp_f]
  refine call0 (c_viewOf ty_mtrial (by rw [ln_mtrial]; decide) ?_)
  simp only [ixr_of, run_s, run_0, rM_view, rok_i, rok_z, bx_cons, bx_nil, eBP, eC0, eC1, eCS1, eCS3, eCV0, eCV1, eCV3, eGO, eGR, jIFeq, jIFne, eLA0, eLI1, ePI, eRI, fM_view_0, fM_view_16, fM_view_20, fM_view_21, fM_view_29, fM_view_31, bM_view_0, bM_view_16, bM_view_20, bM_view_21, bM_view_29, bM_view_31, ln_mtrial, rg_m_34, ty_m, ty_mtrial, Option.toList_some, Option.toList_none, List.cons_append, List.nil_append, List.length_cons, List.length_nil, List.mem_cons, List.not_mem_nil, or_false, false_or, or_true, true_or, ↓reduceIte, true_and, and_true, Nat.reduceEqDiff, Nat.reduceAdd, Nat.reduceLeDiff, Nat.reduceLT, dl_i, dl_r, dl_n, dl_u, eq_self, not_true_eq_false, not_false_eq_true, n10, n01, nm0, n0m, imp_t, imp_f]
  have e : J 500126 = (itR (asN I) nV nC (I 500124, I 500000 48) n).1 := by
    have := congrArg Prod.fst hr
    rw [itR_say (say_up0 (Or.inl rfl)) hV.2.1 hV.2.2.2.1] at this
    rw [show J 500126 = (J 500126, J 500000 48).1 from rfl, this]
    rw [show up (asN I) 500000 0 (nI 0) 500124 = I 500124 by funext q; rw [up_n (by omega), asN_r (by omega)], show up (asN I) 500000 0 (nI 0) 500000 48 = I 500000 48 by rw [up_n (by decide), asN_n (Or.inr (by decide))]]
  rw [e]
  exact h2 n hn rfl J hf
end CM11
