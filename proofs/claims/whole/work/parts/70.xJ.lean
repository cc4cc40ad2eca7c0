/-! contracts of the class, 1: what it takes from the JDK -/
theorem shr0 {n : Nat} (h : n < 128) : nI n >>> (nI 0 &&& 31) = nI n := by
  have : ∀ n, n < 128 → nI n >>> (nI 0 &&& 31) = nI n := by decide +kernel
  exact this n h
/-- places lo to hi are v -/
def fl (I : Iv) (i lo hi : Nat) (v : Int32) : Iv := fun a b => if a = i ∧ lo ≤ b ∧ b < hi then v else I a b
theorem fl_0 {I : Iv} {i lo : Nat} {v : Int32} : fl I i lo lo v = I := by
  funext a b
  unfold fl
  rw [if_neg (by omega)]
theorem fl_s {I : Iv} {i lo hi : Nat} {v : Int32} (h : lo ≤ hi) : up (fl I i lo hi v) i hi v = fl I i lo (hi + 1) v := by
  funext a b
  unfold fl up
  by_cases h1 : a = i ∧ b = hi
  · rw [if_pos h1, if_pos (by omega)]
  · rw [if_neg h1]
    exact ifc (by omega)
theorem wfv0 {Γ : Gm} {w : Nat} : wfv Γ 0 w = .int (wak w) := rfl
theorem wfv1 {Γ : Gm} {w : Nat} : wfv Γ 1 w = .int (wbc w) := rfl
theorem wfv2 {Γ : Gm} {w : Nat} : wfv Γ 2 w = .ref (1000000 + wst' Γ w) := rfl
theorem wak_f : ∀ w, w < 20 → (wak w < nI 0 ↔ 7 ≤ w) ∧ (nI 3 ≤ wak w ↔ 3 ≤ w ∧ w < 7) := by decide +kernel
section XJ
variable {Γ : Gm} {l : Launch} {sh : Sh} {d : Nat} {I : Iv} {E : Ev} {kr : Kr} {kx : Kxx}
theorem x_bitCount {k : Nat} (hk : k < 512) (h : kr (some (.int (onI (nI k)))) I E) : Ex Γ l sh (d + 1) (0, 0) mJi_bitCount [.int (nI k)] I E kr kx := by
  refine ex_of (ls0 := [some (.int (nI k))]) tJi_bitCount (by decide +kernel) kJi_bitCount rfl (Nat.le_of_ble_eq_true rfl) rfl ?_
  intro go hgo
  refine hgo 20 [] 0 _ _ _ _ _ ?_
  simp only [ixr_of, run_s, run_0, rJi_bitCount, rok_i, rok_z, bx_cons, bx_nil, eADD, eAND, eBP, eC1, eC2, eC4, eLDCW, eLI0, eRI, eSI0, eSUB, eUSHR, fJi_bitCount_0, bJi_bitCount_0, Option.toList_some, Option.toList_none, List.cons_append, List.nil_append, List.length_cons, List.length_nil, List.mem_cons, List.not_mem_nil, or_false, false_or, or_true, true_or, ↓reduceIte, true_and, and_true, Nat.reduceEqDiff, Nat.reduceAdd, Nat.reduceLeDiff, Nat.reduceLT, dl_i, dl_r, dl_n, dl_u, eq_self, not_true_eq_false, not_false_eq_true, n10, n01, nm0, n0m, imp_t, imp_f]
  refine Eq.mp (congrArg (fun y => kr (some (.int y)) I E) ?_) h
  clear h hgo
  revert k
  decide +kernel
theorem x_rangeCheck {n a b : Nat} (h1 : a ≤ b) (h2 : b ≤ n) (hn : n < 2147483648) (h : kr none I E) : Ex Γ l sh (d + 1) (0, 0) mJa_rangeCheck [.int (nI n), .int (nI a), .int (nI b)] I E kr kx := by
  refine ex_of (ls0 := [some (.int (nI n)), some (.int (nI a)), some (.int (nI b))]) tJa_rangeCheck (by decide +kernel) kJa_rangeCheck rfl (Nat.le_of_ble_eq_true rfl) rfl ?_
  intro go hgo
  refine hgo 20 [] 0 _ _ _ _ _ ?_
  simp only [ixr_of, run_s, run_0, rJa_rangeCheck, rok_i, rok_z, bx_cons, bx_nil, jICle, jIFge, eLI0, eLI1, eLI2, eRV, fJa_rangeCheck_0, fJa_rangeCheck_46, fJa_rangeCheck_59, fJa_rangeCheck_73, bJa_rangeCheck_0, bJa_rangeCheck_46, bJa_rangeCheck_59, bJa_rangeCheck_73, Option.toList_some, Option.toList_none, List.cons_append, List.nil_append, List.length_cons, List.length_nil, List.mem_cons, List.not_mem_nil, or_false, false_or, or_true, true_or, ↓reduceIte, true_and, and_true, Nat.reduceEqDiff, Nat.reduceAdd, Nat.reduceLeDiff, Nat.reduceLT, dl_i, dl_r, dl_n, dl_u, eq_self, not_true_eq_false, not_false_eq_true, n10, n01, nm0, n0m, imp_t, imp_f]
  rw [nIl (by omega) (by omega), nIl (by omega) (by omega), nIl (by omega) (by omega)]
  exact ⟨fun _ => ⟨fun _ => ⟨fun _ => h, fun q => absurd h2 q⟩, fun q => absurd (Nat.zero_le _) q⟩, fun q => absurd h1 q⟩
theorem x_fillR {i a b : Nat} {v : Int32} (ht : tyc sh E i = 101) (h1 : a ≤ b) (h2 : b ≤ len sh E i) (hl : len sh E i < 2147483648) (h : kr none (fl I i a b v) E) : Ex Γ l sh (d + 2) (0, 0) mJa_fillR [.ref i, .int (nI a), .int (nI b), .int v] I E kr kx := by
  refine ex_of (ls0 := [some (.ref i), some (.int (nI a)), some (.int (nI b)), some (.int v), none]) tJa_fillR (by decide +kernel) kJa_fillR rfl (Nat.le_of_ble_eq_true rfl) rfl ?_
  intro go hgo
  have loop : ∀ (g k : Nat), g + k = b → a ≤ k → go 10 [some (.ref i), some (.int (nI a)), some (.int (nI b)), some (.int v), some (.int (nI k))] [] (fl I i a k v) E (0, 0) := by
    intro g
    induction g with
    | zero =>
      intro k hk ha
      have : k = b := by omega
      subst this
      refine hgo 20 [10] 10 _ _ _ _ _ ?_
      simp only [ixr_of, run_s, run_0, rJa_fillR, rok_i, rok_z, bx_cons, bx_nil, eALEN, eCS3, eGO, eIAST, jICge, eINC4, eLA0, eLI1, eLI2, eLI3, eLI4, eRV, eSI4, fJa_fillR_0, fJa_fillR_10, fJa_fillR_16, fJa_fillR_27, bJa_fillR_0, bJa_fillR_10, bJa_fillR_16, bJa_fillR_27, Option.toList_some, Option.toList_none, List.cons_append, List.nil_append, List.length_cons, List.length_nil, List.mem_cons, List.not_mem_nil, or_false, false_or, or_true, true_or, ↓reduceIte, true_and, and_true, Nat.reduceEqDiff, Nat.reduceAdd, Nat.reduceLeDiff, Nat.reduceLT, dl_i, dl_r, dl_n, dl_u, eq_self, not_true_eq_false, not_false_eq_true, n10, n01, nm0, n0m, imp_t, imp_f]
      exact ⟨fun _ => h, fun q => absurd (Int32.le_refl _) q⟩
    | succ g ih =>
      intro k hk ha
      refine hgo 20 [10] 10 _ _ _ _ _ ?_
      simp only [ixr_of, run_s, run_0, rJa_fillR, rok_i, rok_z, bx_cons, bx_nil, eALEN, eCS3, eGO, eIAST, jICge, eINC4, eLA0, eLI1, eLI2, eLI3, eLI4, eRV, eSI4, fJa_fillR_0, fJa_fillR_10, fJa_fillR_16, fJa_fillR_27, bJa_fillR_0, bJa_fillR_10, bJa_fillR_16, bJa_fillR_27, Option.toList_some, Option.toList_none, List.cons_append, List.nil_append, List.length_cons, List.length_nil, List.mem_cons, List.not_mem_nil, or_false, false_or, or_true, true_or, ↓reduceIte, true_and, and_true, Nat.reduceEqDiff, Nat.reduceAdd, Nat.reduceLeDiff, Nat.reduceLT, dl_i, dl_r, dl_n, dl_u, eq_self, not_true_eq_false, not_false_eq_true, n10, n01, nm0, n0m, ht, imp_t, imp_f]
      rw [nIl (by omega) (by omega)]
      refine ⟨fun q => absurd q (by omega), fun _ => ixr_n (by omega) ?_⟩
      rw [fl_s ha, nI_add]
      exact ih (k + 1) (by omega) (by omega)
  refine hgo 20 [10] 0 _ _ _ _ _ ?_
  simp only [ixr_of, run_s, run_0, rJa_fillR, rok_i, rok_z, bx_cons, bx_nil, eALEN, eCS3, eGO, eIAST, jICge, eINC4, eLA0, eLI1, eLI2, eLI3, eLI4, eRV, eSI4, fJa_fillR_0, fJa_fillR_10, fJa_fillR_16, fJa_fillR_27, bJa_fillR_0, bJa_fillR_10, bJa_fillR_16, bJa_fillR_27, Option.toList_some, Option.toList_none, List.cons_append, List.nil_append, List.length_cons, List.length_nil, List.mem_cons, List.not_mem_nil, or_false, false_or, or_true, true_or, ↓reduceIte, true_and, and_true, Nat.reduceEqDiff, Nat.reduceAdd, Nat.reduceLeDiff, Nat.reduceLT, dl_i, dl_r, dl_n, dl_u, eq_self, not_true_eq_false, not_false_eq_true, n10, n01, nm0, n0m, ht, imp_t, imp_f]
  refine call0 (x_rangeCheck h1 h2 hl ?_)
  simp only [ixr_of, run_s, run_0, rJa_fillR, rok_i, rok_z, bx_cons, bx_nil, eALEN, eCS3, eGO, eIAST, jICge, eINC4, eLA0, eLI1, eLI2, eLI3, eLI4, eRV, eSI4, fJa_fillR_0, fJa_fillR_10, fJa_fillR_16, fJa_fillR_27, bJa_fillR_0, bJa_fillR_10, bJa_fillR_16, bJa_fillR_27, Option.toList_some, Option.toList_none, List.cons_append, List.nil_append, List.length_cons, List.length_nil, List.mem_cons, List.not_mem_nil, or_false, false_or, or_true, true_or, ↓reduceIte, true_and, and_true, Nat.reduceEqDiff, Nat.reduceAdd, Nat.reduceLeDiff, Nat.reduceLT, dl_i, dl_r, dl_n, dl_u, eq_self, not_true_eq_false, not_false_eq_true, n10, n01, nm0, n0m, imp_t, imp_f]
  have l0 := loop (b - a) a (by omega) (Nat.le_refl _)
  rw [fl_0] at l0
  exact l0
/-- a whole row -/
theorem x_fill {i : Nat} {v : Int32} (ht : tyc sh E i = 101) (hl : len sh E i < 2147483648) (h : kr none (sr I i (fun _ => v)) E) : Ex Γ l sh (d + 1) (0, 0) mJa_fill [.ref i, .int v] I E kr kx := by
  refine ex_eqv ?_
  obtain ⟨b, hb⟩ : ∃ b, b = len sh E i := ⟨_, rfl⟩
  refine ex_of (ls0 := [some (.ref i), some (.int v), none, none]) tJa_fill (by decide +kernel) kJa_fill rfl (Nat.le_of_ble_eq_true rfl) rfl ?_
  intro go hgo
  have loop : ∀ (g k : Nat), g + k = b → go 5 [some (.ref i), some (.int v), some (.int (nI k)), some (.int (nI b))] [] (fl I i 0 k v) E (0, 0) := by
    intro g
    induction g with
    | zero =>
      intro k hk
      have : k = b := by omega
      subst this
      refine hgo 20 [5] 5 _ _ _ _ _ ?_
      simp only [ixr_of, run_s, run_0, rJa_fill, rok_i, rok_z, bx_cons, bx_nil, eALEN, eC0, eGO, eIAST, jICge, eINC2, eLA0, eLI1, eLI2, eLI3, eRV, eSI2, eSI3, fJa_fill_0, fJa_fill_5, fJa_fill_10, fJa_fill_20, bJa_fill_0, bJa_fill_5, bJa_fill_10, bJa_fill_20, Option.toList_some, Option.toList_none, List.cons_append, List.nil_append, List.length_cons, List.length_nil, List.mem_cons, List.not_mem_nil, or_false, false_or, or_true, true_or, ↓reduceIte, true_and, and_true, Nat.reduceEqDiff, Nat.reduceAdd, Nat.reduceLeDiff, Nat.reduceLT, dl_i, dl_r, dl_n, dl_u, eq_self, not_true_eq_false, not_false_eq_true, n10, n01, nm0, n0m, imp_t, imp_f]
      refine ⟨fun _ => ⟨sr I i (fun _ => v), fun x y hxy => ?_, h⟩, fun q => absurd (Int32.le_refl _) q⟩
      unfold sr fl
      by_cases hx : x = i
      · subst hx
        rw [if_pos rfl]
        rcases hxy with hxy | hxy
        · rw [ht] at hxy; omega
        · rw [if_pos ⟨rfl, Nat.zero_le _, by omega⟩]
      · rw [if_neg hx, if_neg (fun q => hx q.1)]
    | succ g ih =>
      intro k hk
      refine hgo 20 [5] 5 _ _ _ _ _ ?_
      simp only [ixr_of, run_s, run_0, rJa_fill, rok_i, rok_z, bx_cons, bx_nil, eALEN, eC0, eGO, eIAST, jICge, eINC2, eLA0, eLI1, eLI2, eLI3, eRV, eSI2, eSI3, fJa_fill_0, fJa_fill_5, fJa_fill_10, fJa_fill_20, bJa_fill_0, bJa_fill_5, bJa_fill_10, bJa_fill_20, Option.toList_some, Option.toList_none, List.cons_append, List.nil_append, List.length_cons, List.length_nil, List.mem_cons, List.not_mem_nil, or_false, false_or, or_true, true_or, ↓reduceIte, true_and, and_true, Nat.reduceEqDiff, Nat.reduceAdd, Nat.reduceLeDiff, Nat.reduceLT, dl_i, dl_r, dl_n, dl_u, eq_self, not_true_eq_false, not_false_eq_true, n10, n01, nm0, n0m, ht, imp_t, imp_f]
      rw [nIl (by omega) (by omega)]
      refine ⟨fun q => absurd q (by omega), fun _ => ixr_n (by omega) ?_⟩
      rw [fl_s (Nat.zero_le _), nI_add]
      exact ih (k + 1) (by omega)
  refine hgo 20 [5] 0 _ _ _ _ _ ?_
  simp only [ixr_of, run_s, run_0, rJa_fill, rok_i, rok_z, bx_cons, bx_nil, eALEN, eC0, eGO, eIAST, jICge, eINC2, eLA0, eLI1, eLI2, eLI3, eRV, eSI2, eSI3, fJa_fill_0, fJa_fill_5, fJa_fill_10, fJa_fill_20, bJa_fill_0, bJa_fill_5, bJa_fill_10, bJa_fill_20, Option.toList_some, Option.toList_none, List.cons_append, List.nil_append, List.length_cons, List.length_nil, List.mem_cons, List.not_mem_nil, or_false, false_or, or_true, true_or, ↓reduceIte, true_and, and_true, Nat.reduceEqDiff, Nat.reduceAdd, Nat.reduceLeDiff, Nat.reduceLT, dl_i, dl_r, dl_n, dl_u, eq_self, not_true_eq_false, not_false_eq_true, n10, n01, nm0, n0m, ht, imp_t, imp_f]
  have l0 := loop b 0 (by omega)
  rw [fl_0] at l0
  rw [← hb]
  exact l0
/-! constant texts -/
theorem x_coder {w : Nat} (hG : GW Γ) (hw : w < 20) (h : kr (some (.int (nI 0))) I E) : Ex Γ l sh (d + 1) (0, 0) mJs_coder [.ref (1000000 + wst' Γ w)] I E kr kx := by
  refine ex_of (ls0 := [some (.ref (1000000 + wst' Γ w))]) tJs_coder (by decide +kernel) kJs_coder rfl (Nat.le_of_ble_eq_true rfl) rfl ?_
  intro go hgo
  refine hgo 20 [] 0 _ _ _ _ _ ?_
  simp only [ixr_of, run_s, run_0, rJs_coder, rok_i, rok_z, bx_cons, bx_nil, eC1, eGO, jIFeq, eLA0, eRN, eSB, eSC, fJs_coder_0, fJs_coder_6, fJs_coder_13, fJs_coder_14, bJs_coder_0, bJs_coder_6, bJs_coder_13, bJs_coder_14, Option.toList_some, Option.toList_none, List.cons_append, List.nil_append, List.length_cons, List.length_nil, List.mem_cons, List.not_mem_nil, or_false, false_or, or_true, true_or, ↓reduceIte, true_and, and_true, Nat.reduceEqDiff, Nat.reduceAdd, Nat.reduceLeDiff, Nat.reduceLT, dl_i, dl_r, dl_n, dl_u, eq_self, not_true_eq_false, not_false_eq_true, n10, n01, nm0, n0m, imp_t, imp_f]
  exact ⟨hG, hG, w, hw, rfl, by decide +kernel, h⟩
theorem x_length {w : Nat} (hG : GW Γ) (hw : w < 20) (h : kr (some (.int (nI (wtx w).length))) I E) : Ex Γ l sh (d + 2) (0, 0) mJs_length [.ref (1000000 + wst' Γ w)] I E kr kx := by
  refine ex_of (ls0 := [some (.ref (1000000 + wst' Γ w))]) tJs_length (by decide +kernel) kJs_length rfl (Nat.le_of_ble_eq_true rfl) rfl ?_
  intro go hgo
  refine hgo 20 [] 0 _ _ _ _ _ ?_
  simp only [ixr_of, run_s, run_0, rJs_length, rok_i, rok_z, bx_cons, bx_nil, eCT0, eLA0, eRI, eSHR, eSL, eSV, fJs_length_0, bJs_length_0, Option.toList_some, Option.toList_none, List.cons_append, List.nil_append, List.length_cons, List.length_nil, List.mem_cons, List.not_mem_nil, or_false, false_or, or_true, true_or, ↓reduceIte, true_and, and_true, Nat.reduceEqDiff, Nat.reduceAdd, Nat.reduceLeDiff, Nat.reduceLT, dl_i, dl_r, dl_n, dl_u, eq_self, not_true_eq_false, not_false_eq_true, n10, n01, nm0, n0m, imp_t, imp_f]
  refine ⟨hG, w, hw, rfl, hG, w, hw, rfl, hG, ⟨w, hw, rfl⟩, ?_⟩
  refine call0 (x_coder hG hw ?_)
  simp only [ixr_of, run_s, run_0, rJs_length, rok_i, rok_z, bx_cons, bx_nil, eCT0, eLA0, eRI, eSHR, eSL, eSV, fJs_length_0, bJs_length_0, Option.toList_some, Option.toList_none, List.cons_append, List.nil_append, List.length_cons, List.length_nil, List.mem_cons, List.not_mem_nil, or_false, false_or, or_true, true_or, ↓reduceIte, true_and, and_true, Nat.reduceEqDiff, Nat.reduceAdd, Nat.reduceLeDiff, Nat.reduceLT, dl_i, dl_r, dl_n, dl_u, eq_self, not_true_eq_false, not_false_eq_true, n10, n01, nm0, n0m, imp_t, imp_f]
  rw [shr0 (by have := (wtl_len w hw).2; omega)]
  exact h
theorem x_isLatin1 {w : Nat} (hG : GW Γ) (hw : w < 20) (h : kr (some (.int (nI 1))) I E) : Ex Γ l sh (d + 1) (0, 0) mJs_isLatin1 [.ref (1000000 + wst' Γ w)] I E kr kx := by
  refine ex_of (ls0 := [some (.ref (1000000 + wst' Γ w))]) tJs_isLatin1 (by decide +kernel) kJs_isLatin1 rfl (Nat.le_of_ble_eq_true rfl) rfl ?_
  intro go hgo
  refine hgo 20 [] 0 _ _ _ _ _ ?_
  simp only [ixr_of, run_s, run_0, rJs_isLatin1, rok_i, rok_z, bx_cons, bx_nil, eC0, eC1, eGO, jIFeq, jIFne, eLA0, eRI, eSB, eSC, fJs_isLatin1_0, fJs_isLatin1_6, fJs_isLatin1_13, fJs_isLatin1_17, fJs_isLatin1_18, bJs_isLatin1_0, bJs_isLatin1_6, bJs_isLatin1_13, bJs_isLatin1_17, bJs_isLatin1_18, Option.toList_some, Option.toList_none, List.cons_append, List.nil_append, List.length_cons, List.length_nil, List.mem_cons, List.not_mem_nil, or_false, false_or, or_true, true_or, ↓reduceIte, true_and, and_true, Nat.reduceEqDiff, Nat.reduceAdd, Nat.reduceLeDiff, Nat.reduceLT, dl_i, dl_r, dl_n, dl_u, eq_self, not_true_eq_false, not_false_eq_true, n10, n01, nm0, n0m, imp_t, imp_f]
  exact ⟨hG, hG, w, hw, rfl, h⟩
theorem x_checkIndexP {k n : Nat} {v : Value} (hv : isF v) (hk : k < n) (hn : n < 2147483648) (h : kr (some (.int (nI k))) I E) : Ex Γ l sh (d + 1) (0, 0) mJp_checkIndex [.int (nI k), .int (nI n), v] I E kr kx := by
  rcases hv with rfl | ⟨t, rfl⟩
  · refine ex_of (ls0 := [some (.int (nI k)), some (.int (nI n)), some (.null)]) tJp_checkIndex (by decide +kernel) kJp_checkIndex rfl (Nat.le_of_ble_eq_true rfl) rfl ?_
    intro go hgo
    refine hgo 20 [] 0 _ _ _ _ _ ?_
    simp only [ixr_of, run_s, run_0, rJp_checkIndex, rok_i, rok_z, bx_cons, bx_nil, jIClt, jIFlt, eLI0, eLI1, eRI, fJp_checkIndex_0, fJp_checkIndex_4, fJp_checkIndex_16, bJp_checkIndex_0, bJp_checkIndex_4, bJp_checkIndex_16, Option.toList_some, Option.toList_none, List.cons_append, List.nil_append, List.length_cons, List.length_nil, List.mem_cons, List.not_mem_nil, or_false, false_or, or_true, true_or, ↓reduceIte, true_and, and_true, Nat.reduceEqDiff, Nat.reduceAdd, Nat.reduceLeDiff, Nat.reduceLT, dl_i, dl_r, dl_n, dl_u, eq_self, not_true_eq_false, not_false_eq_true, n10, n01, nm0, n0m, imp_t, imp_f]
    rw [nIs (by omega) (by omega), nIs (by omega) (by omega)]
    exact ⟨fun q => absurd q (by omega), fun _ => ⟨fun _ => h, fun q => absurd hk q⟩⟩
  · refine ex_of (ls0 := [some (.int (nI k)), some (.int (nI n)), some (.ref (1000000 + t))]) tJp_checkIndex (by decide +kernel) kJp_checkIndex rfl (Nat.le_of_ble_eq_true rfl) rfl ?_
    intro go hgo
    refine hgo 20 [] 0 _ _ _ _ _ ?_
    simp only [ixr_of, run_s, run_0, rJp_checkIndex, rok_i, rok_z, bx_cons, bx_nil, jIClt, jIFlt, eLI0, eLI1, eRI, fJp_checkIndex_0, fJp_checkIndex_4, fJp_checkIndex_16, bJp_checkIndex_0, bJp_checkIndex_4, bJp_checkIndex_16, Option.toList_some, Option.toList_none, List.cons_append, List.nil_append, List.length_cons, List.length_nil, List.mem_cons, List.not_mem_nil, or_false, false_or, or_true, true_or, ↓reduceIte, true_and, and_true, Nat.reduceEqDiff, Nat.reduceAdd, Nat.reduceLeDiff, Nat.reduceLT, dl_i, dl_r, dl_n, dl_u, eq_self, not_true_eq_false, not_false_eq_true, n10, n01, nm0, n0m, imp_t, imp_f]
    rw [nIs (by omega) (by omega), nIs (by omega) (by omega)]
    exact ⟨fun q => absurd q (by omega), fun _ => ⟨fun _ => h, fun q => absurd hk q⟩⟩
theorem x_checkIndex {k n : Nat} (hG : GW Γ) (hk : k < n) (hn : n < 2147483648) (h : kr none I E) : Ex Γ l sh (d + 2) (0, 0) mJs_checkIndex [.int (nI k), .int (nI n)] I E kr kx := by
  refine ex_of (ls0 := [some (.int (nI k)), some (.int (nI n))]) tJs_checkIndex (by decide +kernel) kJs_checkIndex rfl (Nat.le_of_ble_eq_true rfl) rfl ?_
  intro go hgo
  refine hgo 20 [] 0 _ _ _ _ _ ?_
  simp only [ixr_of, run_s, run_0, rJs_checkIndex, rok_i, rok_z, bx_cons, bx_nil, eCS3, eLI0, eLI1, ePOPi, eRV, eSF, fJs_checkIndex_0, bJs_checkIndex_0, Option.toList_some, Option.toList_none, List.cons_append, List.nil_append, List.length_cons, List.length_nil, List.mem_cons, List.not_mem_nil, or_false, false_or, or_true, true_or, ↓reduceIte, true_and, and_true, Nat.reduceEqDiff, Nat.reduceAdd, Nat.reduceLeDiff, Nat.reduceLT, dl_i, dl_r, dl_n, dl_u, eq_self, not_true_eq_false, not_false_eq_true, n10, n01, nm0, n0m, imp_t, imp_f]
  refine ⟨hG, fun v hv => ?_⟩
  refine call0 (x_checkIndexP hv hk hn ?_)
  simp only [ixr_of, run_s, run_0, rJs_checkIndex, rok_i, rok_z, bx_cons, bx_nil, eCS3, eLI0, eLI1, ePOPi, eRV, eSF, fJs_checkIndex_0, bJs_checkIndex_0, Option.toList_some, Option.toList_none, List.cons_append, List.nil_append, List.length_cons, List.length_nil, List.mem_cons, List.not_mem_nil, or_false, false_or, or_true, true_or, ↓reduceIte, true_and, and_true, Nat.reduceEqDiff, Nat.reduceAdd, Nat.reduceLeDiff, Nat.reduceLT, dl_i, dl_r, dl_n, dl_u, eq_self, not_true_eq_false, not_false_eq_true, n10, n01, nm0, n0m, imp_t, imp_f]
  exact h
theorem x_latAt {w k : Nat} (hG : GW Γ) (hw : w < 20) (hk : k < (wtx w).length) (h : kr (some (.int ((wtx w).getD k 0))) I E) : Ex Γ l sh (d + 3) (0, 0) mJl_charAt [.ref (1000000 + wsv Γ w), .int (nI k)] I E kr kx := by
  refine ex_of (ls0 := [some (.ref (1000000 + wsv Γ w)), some (.int (nI k))]) tJl_charAt (by decide +kernel) kJl_charAt rfl (Nat.le_of_ble_eq_true rfl) rfl ?_
  intro go hgo
  have hl := (wtl_len w hw).2
  have hc : ∀ w, w < 20 → ∀ k, k < (wtx w).length → (((wtx w).getD k 0 &&& nI 255).toUInt32 % 65536).toInt32 = (wtx w).getD k 0 ∧ narrow .char (.int ((wtx w).getD k 0)) = .int ((wtx w).getD k 0) := by decide +kernel
  obtain ⟨e1, e2⟩ := hc w hw k hk
  refine hgo 20 [] 0 _ _ _ _ _ ?_
  simp only [ixr_of, run_s, run_0, rJl_charAt, rok_i, rok_z, bx_cons, bx_nil, eAND, eCS2, eI2C, eLA0, eLI1, eRN, eSA, eSL, eSP, fJl_charAt_0, bJl_charAt_0, Option.toList_some, Option.toList_none, List.cons_append, List.nil_append, List.length_cons, List.length_nil, List.mem_cons, List.not_mem_nil, or_false, false_or, or_true, true_or, ↓reduceIte, true_and, and_true, Nat.reduceEqDiff, Nat.reduceAdd, Nat.reduceLeDiff, Nat.reduceLT, dl_i, dl_r, dl_n, dl_u, eq_self, not_true_eq_false, not_false_eq_true, n10, n01, nm0, n0m, imp_t, imp_f]
  refine ⟨hG, w, hw, rfl, ?_⟩
  refine call0 (x_checkIndex hG hk (by omega) ?_)
  simp only [ixr_of, run_s, run_0, rJl_charAt, rok_i, rok_z, bx_cons, bx_nil, eAND, eCS2, eI2C, eLA0, eLI1, eRN, eSA, eSL, eSP, fJl_charAt_0, bJl_charAt_0, Option.toList_some, Option.toList_none, List.cons_append, List.nil_append, List.length_cons, List.length_nil, List.mem_cons, List.not_mem_nil, or_false, false_or, or_true, true_or, ↓reduceIte, true_and, and_true, Nat.reduceEqDiff, Nat.reduceAdd, Nat.reduceLeDiff, Nat.reduceLT, dl_i, dl_r, dl_n, dl_u, eq_self, not_true_eq_false, not_false_eq_true, n10, n01, nm0, n0m, imp_t, imp_f]
  refine ⟨hG, w, hw, rfl, ixr_n hk ?_⟩
  rw [e1]
  exact ⟨e2, h⟩
theorem x_charAt {w k : Nat} (hG : GW Γ) (hw : w < 20) (hk : k < (wtx w).length) (h : kr (some (.int ((wtx w).getD k 0))) I E) : Ex Γ l sh (d + 4) (0, 0) mJs_charAt [.ref (1000000 + wst' Γ w), .int (nI k)] I E kr kx := by
  refine ex_of (ls0 := [some (.ref (1000000 + wst' Γ w)), some (.int (nI k))]) tJs_charAt (by decide +kernel) kJs_charAt rfl (Nat.le_of_ble_eq_true rfl) rfl ?_
  intro go hgo
  have hc : ∀ w, w < 20 → ∀ k, k < (wtx w).length → narrow .char (.int ((wtx w).getD k 0)) = .int ((wtx w).getD k 0) := by decide +kernel
  refine hgo 20 [] 0 _ _ _ _ _ ?_
  simp only [ixr_of, run_s, run_0, rJs_charAt, rok_i, rok_z, bx_cons, bx_nil, eCS2, eCT0, jIFeq, eLA0, eLI1, eRN, eSV, fJs_charAt_0, fJs_charAt_7, bJs_charAt_0, bJs_charAt_7, Option.toList_some, Option.toList_none, List.cons_append, List.nil_append, List.length_cons, List.length_nil, List.mem_cons, List.not_mem_nil, or_false, false_or, or_true, true_or, ↓reduceIte, true_and, and_true, Nat.reduceEqDiff, Nat.reduceAdd, Nat.reduceLeDiff, Nat.reduceLT, dl_i, dl_r, dl_n, dl_u, eq_self, not_true_eq_false, not_false_eq_true, n10, n01, nm0, n0m, imp_t, imp_f]
  refine ⟨hG, ⟨w, hw, rfl⟩, ?_⟩
  refine call0 (x_isLatin1 hG hw ?_)
  simp only [ixr_of, run_s, run_0, rJs_charAt, rok_i, rok_z, bx_cons, bx_nil, eCS2, eCT0, jIFeq, eLA0, eLI1, eRN, eSV, fJs_charAt_0, fJs_charAt_7, bJs_charAt_0, bJs_charAt_7, Option.toList_some, Option.toList_none, List.cons_append, List.nil_append, List.length_cons, List.length_nil, List.mem_cons, List.not_mem_nil, or_false, false_or, or_true, true_or, ↓reduceIte, true_and, and_true, Nat.reduceEqDiff, Nat.reduceAdd, Nat.reduceLeDiff, Nat.reduceLT, dl_i, dl_r, dl_n, dl_u, eq_self, not_true_eq_false, not_false_eq_true, n10, n01, nm0, n0m, imp_t, imp_f]
  refine ⟨hG, w, hw, rfl, ?_⟩
  refine call0 (x_latAt hG hw hk ?_)
  simp only [ixr_of, run_s, run_0, rJs_charAt, rok_i, rok_z, bx_cons, bx_nil, eCS2, eCT0, jIFeq, eLA0, eLI1, eRN, eSV, fJs_charAt_0, fJs_charAt_7, bJs_charAt_0, bJs_charAt_7, Option.toList_some, Option.toList_none, List.cons_append, List.nil_append, List.length_cons, List.length_nil, List.mem_cons, List.not_mem_nil, or_false, false_or, or_true, true_or, ↓reduceIte, true_and, and_true, Nat.reduceEqDiff, Nat.reduceAdd, Nat.reduceLeDiff, Nat.reduceLT, dl_i, dl_r, dl_n, dl_u, eq_self, not_true_eq_false, not_false_eq_true, n10, n01, nm0, n0m, imp_t, imp_f]
  exact ⟨hc w hw k hk, h⟩
theorem x_isHerb {w : Nat} (hG : GW Γ) (hw : w < 20) (h : kr (some (.int (bi (w < 3)))) I E) : Ex Γ l sh (d + 1) (0, 0) mWo_isHerb [.ref (wrf Γ w)] I E kr kx := by
  refine ex_of (ls0 := [some (.ref (wrf Γ w))]) tWo_isHerb (by decide +kernel) kWo_isHerb rfl (Nat.le_of_ble_eq_true rfl) rfl ?_
  intro go hgo
  refine hgo 20 [] 0 _ _ _ _ _ ?_
  simp only [ixr_of, run_s, run_0, rWo_isHerb, rok_i, rok_z, bx_cons, bx_nil, eC0, eC1, eC3, eGO, eGW, jICge, jIFlt, eLA0, eRI, fWo_isHerb_0, fWo_isHerb_7, fWo_isHerb_15, fWo_isHerb_19, fWo_isHerb_20, bWo_isHerb_0, bWo_isHerb_7, bWo_isHerb_15, bWo_isHerb_19, bWo_isHerb_20, Option.toList_some, Option.toList_none, List.cons_append, List.nil_append, List.length_cons, List.length_nil, List.mem_cons, List.not_mem_nil, or_false, false_or, or_true, true_or, ↓reduceIte, true_and, and_true, Nat.reduceEqDiff, Nat.reduceAdd, Nat.reduceLeDiff, Nat.reduceLT, dl_i, dl_r, dl_n, dl_u, eq_self, not_true_eq_false, not_false_eq_true, n10, n01, nm0, n0m, wfv0, wfv1, wfv2, imp_t, imp_f]
  obtain ⟨f1, f2⟩ := wak_f w hw
  refine ⟨hG, w, hw, rfl, fun c => ?_, fun c => ⟨hG, w, hw, rfl, fun c2 => ?_, fun c2 => ?_⟩⟩
  · have := f1.mp c
    rw [bi_f (by omega)] at h; exact h
  · have := f2.mp c2
    rw [bi_f (by omega)] at h; exact h
  · have a1 : ¬ 7 ≤ w := fun q => c (f1.mpr q)
    have a2 : ¬ (3 ≤ w ∧ w < 7) := fun q => c2 (f2.mpr q)
    rw [bi_t (by omega)] at h; exact h
end XJ
