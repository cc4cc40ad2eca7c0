/-! contracts of HerbWatersModel, 1: small ones -/
def bi (p : Prop) [Decidable p] : Int32 := if p then nI 1 else nI 0
theorem bi_t {p : Prop} [Decidable p] (h : p) : bi p = nI 1 := if_pos h
theorem bi_f {p : Prop} [Decidable p] (h : ¬ p) : bi p = nI 0 := if_neg h
theorem bi_01 {p : Prop} [Decidable p] : bi p = nI 0 ∨ bi p = nI 1 := by unfold bi; split <;> simp
theorem n10 : ¬ nI 1 = nI 0 := by decide
theorem n01 : ¬ nI 0 = nI 1 := by decide
theorem bi_0 {p : Prop} [Decidable p] : bi p = nI 0 ↔ ¬ p := by
  by_cases h : p
  · simp [bi, h, n10]
  · simp [bi, h]
theorem bi_1 {p : Prop} [Decidable p] : bi p = nI 1 ↔ p := by
  by_cases h : p
  · simp [bi, h]
  · simp [bi, h, n01]
section CM1
variable {Γ : Gm} {l : Launch} {d : Nat} {I : Iv} {E : Ev} {kr : Kr} {kx : Kxx}
theorem c_byteAt {k n : Nat} (hn : I 500000 2 = nI n) (hn6 : n ≤ 600) (hk : k < 2 ^ 31)
    (h : kr (some (.int (if k < n then I 500001 k else -1))) I E) : Ex Γ l shN (d + 1) (0, 0) mM_byteAt [.ref 500000, .int (nI k)] I E kr kx := by
  refine ex_of (ls0 := [some (.ref 500000), some (.int (nI k))]) tM_byteAt (by decide +kernel) kM_byteAt rfl (Nat.le_of_ble_eq_true rfl) rfl ?_
  intro go hgo
  refine hgo 20 [] 0 _ _ _ _ _ ?_
  simp only [run_s, run_0, rM_byteAt, rok_i, rok_z, bx_cons, bx_nil, eCm1, eGI, eGO, eGR, eIALD, eIClt, eLA0, eLI1, eRI, fM_byteAt_0, fM_byteAt_8, fM_byteAt_12, fM_byteAt_18, bM_byteAt_0, bM_byteAt_8, bM_byteAt_12, bM_byteAt_18, ln_mfed, rg_m_9, ty_m, ty_mfed, Option.toList_some, Option.toList_none, List.cons_append, List.nil_append, List.length_cons, List.length_nil, List.mem_cons, List.not_mem_nil, or_false, false_or, or_true, true_or, reduceIte, true_and, and_true, Nat.reduceEqDiff, Nat.reduceAdd, Nat.reduceLeDiff, dl_i, dl_r, dl_n, dl_u]
  rw [hn, nI_ltI hk (by omega)]
  refine ⟨fun c => ixr_n (by omega) ?_, fun c => ?_⟩
  · rw [if_pos c] at h; exact h
  · rw [if_neg c] at h; exact h
theorem c_in {v lo hi : Int32} (h : kr (some (.int (bi (lo ≤ v ∧ v ≤ hi)))) I E) : Ex Γ l shN (d + 1) (0, 0) mM_in [.int v, .int lo, .int hi] I E kr kx := by
  refine ex_of (ls0 := [some (.int v), some (.int lo), some (.int hi)]) tM_in (by decide +kernel) kM_in rfl (Nat.le_of_ble_eq_true rfl) rfl ?_
  intro go hgo
  refine hgo 20 [] 0 _ _ _ _ _ ?_
  simp only [run_s, run_0, rM_in, rok_i, rok_z, bx_cons, bx_nil, eC0, eC1, eGO, eICgt, eIClt, eLI0, eLI1, eLI2, eRI, fM_in_0, fM_in_5, fM_in_10, fM_in_14, fM_in_15, bM_in_0, bM_in_5, bM_in_10, bM_in_14, bM_in_15, ty_m, Option.toList_some, Option.toList_none, List.cons_append, List.nil_append, List.length_cons, List.length_nil, List.mem_cons, List.not_mem_nil, or_false, false_or, or_true, true_or, reduceIte, true_and, and_true, Nat.reduceEqDiff, Nat.reduceAdd, Nat.reduceLeDiff, dl_i, dl_r, dl_n, dl_u]
  trace_state
  sorry
theorem c_less {a b : Int32} (h : kr (some (.int (if a < b then a else b))) I E) : Ex Γ l shN (d + 1) (0, 0) mM_less [.int a, .int b] I E kr kx := by
  refine ex_of (ls0 := [some (.int a), some (.int b)]) tM_less (by decide +kernel) kM_less rfl (Nat.le_of_ble_eq_true rfl) rfl ?_
  intro go hgo
  refine hgo 20 [] 0 _ _ _ _ _ ?_
  simp only [run_s, run_0, rM_less, rok_i, rok_z, bx_cons, bx_nil, eGO, eICge, eLI0, eLI1, eRI, fM_less_0, fM_less_5, fM_less_9, fM_less_10, bM_less_0, bM_less_5, bM_less_9, bM_less_10, ty_m, Option.toList_some, Option.toList_none, List.cons_append, List.nil_append, List.length_cons, List.length_nil, List.mem_cons, List.not_mem_nil, or_false, false_or, or_true, true_or, reduceIte, true_and, and_true, Nat.reduceEqDiff, Nat.reduceAdd, Nat.reduceLeDiff, dl_i, dl_r, dl_n, dl_u]
  trace_state
  sorry
theorem c_bad {p w r : Int32} {rn : Nat} (hr : r = nI rn) (hrn : rn < 2) (h : kr (some (.int (bi (¬ (if ¬ p = nI 0 ∧ I 500000 0 = nI 0 then w else I 500000 0) = nI 0)))) (if ¬ p = nI 0 ∧ I 500000 0 = nI 0 then up (up I 500000 0 w) 500002 rn (I 500002 rn + nI 1) else I) E) : Ex Γ l shN (d + 1) (0, 0) mM_bad [.ref 500000, .int p, .int w, .int r] I E kr kx := by
  refine ex_of (ls0 := [some (.ref 500000), some (.int p), some (.int w), some (.int r)]) tM_bad (by decide +kernel) kM_bad rfl (Nat.le_of_ble_eq_true rfl) rfl ?_
  intro go hgo
  refine hgo 20 [] 0 _ _ _ _ _ ?_
  simp only [run_s, run_0, rM_bad, rok_i, rok_z, bx_cons, bx_nil, eADD, eC0, eC1, eDUP2, eGI, eGO, eGR, eIALD, eIAST, eIFeq, eIFne, eLA0, eLI1, eLI2, eLI3, ePI, eRI, fM_bad_0, fM_bad_4, fM_bad_11, fM_bad_26, fM_bad_33, fM_bad_37, fM_bad_38, bM_bad_0, bM_bad_4, bM_bad_11, bM_bad_26, bM_bad_33, bM_bad_37, bM_bad_38, ln_mrefused, rg_m_10, ty_m, ty_mrefused, Option.toList_some, Option.toList_none, List.cons_append, List.nil_append, List.length_cons, List.length_nil, List.mem_cons, List.not_mem_nil, or_false, false_or, or_true, true_or, reduceIte, true_and, and_true, Nat.reduceEqDiff, Nat.reduceAdd, Nat.reduceLeDiff, dl_i, dl_r, dl_n, dl_u]
  trace_state
  sorry
theorem c_wrong {w g : Int32} (h : kr none (if I 500000 5 = nI 0 then up (up I 500000 5 w) 500000 6 g else I) E) : Ex Γ l shN (d + 1) (0, 0) mM_wrong [.ref 500000, .int w, .int g] I E kr kx := by
  refine ex_of (ls0 := [some (.ref 500000), some (.int w), some (.int g)]) tM_wrong (by decide +kernel) kM_wrong rfl (Nat.le_of_ble_eq_true rfl) rfl ?_
  intro go hgo
  refine hgo 20 [] 0 _ _ _ _ _ ?_
  simp only [run_s, run_0, rM_wrong, rok_i, rok_z, bx_cons, bx_nil, eGI, eIFne, eLA0, eLI1, eLI2, ePI, eRV, fM_wrong_0, fM_wrong_7, fM_wrong_17, bM_wrong_0, bM_wrong_7, bM_wrong_17, ty_m, Option.toList_some, Option.toList_none, List.cons_append, List.nil_append, List.length_cons, List.length_nil, List.mem_cons, List.not_mem_nil, or_false, false_or, or_true, true_or, reduceIte, true_and, and_true, Nat.reduceEqDiff, Nat.reduceAdd, Nat.reduceLeDiff, dl_i, dl_r, dl_n, dl_u]
  trace_state
  sorry
end CM1
