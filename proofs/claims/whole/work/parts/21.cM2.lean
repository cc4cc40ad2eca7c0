/-! contracts of HerbWatersModel, 2: words, signs, numbers of a text -/
def isD (c : Int32) : Prop := nI 48 ≤ c ∧ c ≤ nI 57
def isS (c : Int32) : Prop := nI 97 ≤ c ∧ c ≤ nI 122
def dec_isD (c : Int32) : Decidable (isD c) := by unfold isD; exact inferInstance
def dec_isS (c : Int32) : Decidable (isS c) := by unfold isS; exact inferInstance
/-- the end of a run of bytes of a kind -/
def rnf (t : Nat → Int32) (lo hi : Int32) : Nat → Nat → Nat
  | 0, k => k
  | f + 1, k => if lo ≤ t k ∧ t k ≤ hi then rnf t lo hi f (k + 1) else k
def rn (t : Nat → Int32) (lo hi : Int32) (n k : Nat) : Nat := rnf t lo hi (n - k) k
theorem rn_le {t : Nat → Int32} {lo hi : Int32} {n : Nat} : ∀ {f k : Nat}, f = n - k → k ≤ n → k ≤ rnf t lo hi f k ∧ rnf t lo hi f k ≤ n
  | 0, k, hf, hk => by simp [rnf]; omega
  | f + 1, k, hf, hk => by
    unfold rnf
    split
    · have := rn_le (t := t) (lo := lo) (hi := hi) (n := n) (f := f) (k := k + 1) (by omega) (by omega)
      omega
    · omega
theorem rn_b {t : Nat → Int32} {lo hi : Int32} {n k : Nat} (h : k ≤ n) : k ≤ rn t lo hi n k ∧ rn t lo hi n k ≤ n := rn_le rfl h
theorem sk_b {t : Nat → Int32} {n k : Nat} (h : k ≤ n) : k ≤ sk t n k ∧ sk t n k ≤ n := sk_le rfl h
theorem rn_step {t : Nat → Int32} {lo hi : Int32} {n k : Nat} (hk : k < n) (h : lo ≤ t k ∧ t k ≤ hi) : rn t lo hi n k = rn t lo hi n (k + 1) := by
  unfold rn
  rw [show n - k = (n - (k + 1)) + 1 by omega, rnf, if_pos h]
theorem rn_stop {t : Nat → Int32} {lo hi : Int32} {n k : Nat} (h : ¬ (lo ≤ t k ∧ t k ≤ hi)) : rn t lo hi n k = k := by
  unfold rn
  cases n - k with
  | zero => rfl
  | succ f => rw [rnf, if_neg h]
theorem tx_end {I : Iv} {n k : Nat} (h : n ≤ k) : tx I n k = -1 := if_neg (by omega)
theorem tx_in {I : Iv} {n k : Nat} (h : k < n) : tx I n k = I 500001 k := if_pos h
/-- a word's value by 27s, of its first m letters -/
def wv (t : Nat → Int32) (b : Nat) : Nat → Int64
  | 0 => lN 0
  | m + 1 => if m < 8 then 27 * wv t b m + (t (b + m)).toInt64 - 97 + lN 1 else wv t b m
def wcode (t : Nat → Int32) (n b : Nat) : Int64 := if 7 < rn t (nI 97) (nI 122) n b - b then -1 else wv t b (rn t (nI 97) (nI 122) n b - b)
def sevenL (a b c d e f g : Int32) : Int64 :=
  let v := 27 * a.toInt64 + b.toInt64
  let v := if c = nI 0 then v else 27 * v + c.toInt64
  let v := if d = nI 0 then v else 27 * v + d.toInt64
  let v := if e = nI 0 then v else 27 * v + e.toInt64
  let v := if f = nI 0 then v else 27 * v + f.toInt64
  if g = nI 0 then v else 27 * v + g.toInt64
section CM2
variable {Γ : Gm} {l : Launch} {d : Nat} {I : Iv} {E : Ev} {kr : Kr} {kx : Kxx}
theorem c_skipWord {a n : Nat} (hn : I 500000 2 = nI n) (hn6 : n ≤ 600) (ha : I 500000 4 = nI a) (han : a ≤ n) (h : kr none (up I 500000 4 (nI (rn (tx I n) (nI 97) (nI 122) n a))) E) : Ex Γ l shN (d + 2) (0, 0) mM_skipWord [.ref 500000] I E kr kx := by
  refine ex_of (ls0 := [some (.ref 500000)]) tM_skipWord (by decide +kernel) kM_skipWord rfl (Nat.le_of_ble_eq_true rfl) rfl ?_
  intro go hgo
  have loop : ∀ (f b : Nat), n - b = f → b ≤ n → rn (tx I n) (nI 97) (nI 122) n b = rn (tx I n) (nI 97) (nI 122) n a → go 0 [some (.ref 500000)] [] (up I 500000 4 (nI b)) E (0, 0) := by
    intro f
    induction f with
    | zero =>
      intro b hf hb hs
      have hbn : b = n := by omega
      subst hbn
      refine hgo 20 [0] 0 _ _ _ _ _ ?_
      simp only [run_s, run_0, rM_skipWord, rok_i, rok_z, bx_cons, bx_nil, eADD, eC1, eCS1, eCV1, eDUPr, eGI, eGO, jIFeq, eLA0, ePI, eRV, fM_skipWord_0, fM_skipWord_14, fM_skipWord_27, bM_skipWord_0, bM_skipWord_14, bM_skipWord_27, ty_m, Option.toList_some, Option.toList_none, List.cons_append, List.nil_append, List.length_cons, List.length_nil, List.mem_cons, List.not_mem_nil, or_false, false_or, or_true, true_or, ↓reduceIte, true_and, and_true, Nat.reduceEqDiff, Nat.reduceAdd, Nat.reduceLeDiff, dl_i, dl_r, dl_n, dl_u, eq_self, not_true_eq_false, not_false_eq_true, n10, n01, nm0, n0m, imp_t, imp_f]
      rw [up_s]
      refine call0 (c_byteAt (n := b) ((up_n (by omega)).trans hn) hn6 (by omega) ?_)
      simp only [run_s, run_0, rM_skipWord, rok_i, rok_z, bx_cons, bx_nil, eADD, eC1, eCS1, eCV1, eDUPr, eGI, eGO, jIFeq, eLA0, ePI, eRV, fM_skipWord_0, fM_skipWord_14, fM_skipWord_27, bM_skipWord_0, bM_skipWord_14, bM_skipWord_27, ty_m, Option.toList_some, Option.toList_none, List.cons_append, List.nil_append, List.length_cons, List.length_nil, List.mem_cons, List.not_mem_nil, or_false, false_or, or_true, true_or, ↓reduceIte, true_and, and_true, Nat.reduceEqDiff, Nat.reduceAdd, Nat.reduceLeDiff, dl_i, dl_r, dl_n, dl_u, eq_self, not_true_eq_false, not_false_eq_true, n10, n01, nm0, n0m, imp_t, imp_f]
      refine call0 (c_isSmall ?_)
      simp only [run_s, run_0, rM_skipWord, rok_i, rok_z, bx_cons, bx_nil, eADD, eC1, eCS1, eCV1, eDUPr, eGI, eGO, jIFeq, eLA0, ePI, eRV, fM_skipWord_0, fM_skipWord_14, fM_skipWord_27, bM_skipWord_0, bM_skipWord_14, bM_skipWord_27, ty_m, Option.toList_some, Option.toList_none, List.cons_append, List.nil_append, List.length_cons, List.length_nil, List.mem_cons, List.not_mem_nil, or_false, false_or, or_true, true_or, ↓reduceIte, true_and, and_true, Nat.reduceEqDiff, Nat.reduceAdd, Nat.reduceLeDiff, dl_i, dl_r, dl_n, dl_u, eq_self, not_true_eq_false, not_false_eq_true, n10, n01, nm0, n0m, imp_t, imp_f]
      rw [if_neg (by omega), bi_0]
      refine ⟨fun _ => ?_, fun q => absurd (by decide) q⟩
      rw [← hs, rn_stop (by rw [tx_end (Nat.le_refl _)]; decide)] at h
      exact h
    | succ f ih =>
      intro b hf hb hs
      have hbn : b < n := by omega
      refine hgo 20 [0] 0 _ _ _ _ _ ?_
      simp only [run_s, run_0, rM_skipWord, rok_i, rok_z, bx_cons, bx_nil, eADD, eC1, eCS1, eCV1, eDUPr, eGI, eGO, jIFeq, eLA0, ePI, eRV, fM_skipWord_0, fM_skipWord_14, fM_skipWord_27, bM_skipWord_0, bM_skipWord_14, bM_skipWord_27, ty_m, Option.toList_some, Option.toList_none, List.cons_append, List.nil_append, List.length_cons, List.length_nil, List.mem_cons, List.not_mem_nil, or_false, false_or, or_true, true_or, ↓reduceIte, true_and, and_true, Nat.reduceEqDiff, Nat.reduceAdd, Nat.reduceLeDiff, dl_i, dl_r, dl_n, dl_u, eq_self, not_true_eq_false, not_false_eq_true, n10, n01, nm0, n0m, imp_t, imp_f]
      rw [up_s]
      refine call0 (c_byteAt (n := n) ((up_n (by omega)).trans hn) hn6 (by omega) ?_)
      simp only [run_s, run_0, rM_skipWord, rok_i, rok_z, bx_cons, bx_nil, eADD, eC1, eCS1, eCV1, eDUPr, eGI, eGO, jIFeq, eLA0, ePI, eRV, fM_skipWord_0, fM_skipWord_14, fM_skipWord_27, bM_skipWord_0, bM_skipWord_14, bM_skipWord_27, ty_m, Option.toList_some, Option.toList_none, List.cons_append, List.nil_append, List.length_cons, List.length_nil, List.mem_cons, List.not_mem_nil, or_false, false_or, or_true, true_or, ↓reduceIte, true_and, and_true, Nat.reduceEqDiff, Nat.reduceAdd, Nat.reduceLeDiff, dl_i, dl_r, dl_n, dl_u, eq_self, not_true_eq_false, not_false_eq_true, n10, n01, nm0, n0m, imp_t, imp_f]
      refine call0 (c_isSmall ?_)
      simp only [run_s, run_0, rM_skipWord, rok_i, rok_z, bx_cons, bx_nil, eADD, eC1, eCS1, eCV1, eDUPr, eGI, eGO, jIFeq, eLA0, ePI, eRV, fM_skipWord_0, fM_skipWord_14, fM_skipWord_27, bM_skipWord_0, bM_skipWord_14, bM_skipWord_27, ty_m, Option.toList_some, Option.toList_none, List.cons_append, List.nil_append, List.length_cons, List.length_nil, List.mem_cons, List.not_mem_nil, or_false, false_or, or_true, true_or, ↓reduceIte, true_and, and_true, Nat.reduceEqDiff, Nat.reduceAdd, Nat.reduceLeDiff, dl_i, dl_r, dl_n, dl_u, eq_self, not_true_eq_false, not_false_eq_true, n10, n01, nm0, n0m, imp_t, imp_f]
      rw [if_pos hbn, up_n (by omega), bi_0]
      have ht : tx I n b = I 500001 b := if_pos hbn
      refine ⟨fun q => ?_, fun q => ?_⟩
      · rw [← hs, rn_stop (by rw [ht]; exact q)] at h
        exact h
      · rw [up_s, up_up, nI_add]
        exact ih (b + 1) (by omega) (by omega) ((rn_step hbn (by rw [ht]; exact Decidable.not_not.mp q)).symm.trans hs)
  have h0 := loop (n - a) a rfl han rfl
  rw [up_self ha] at h0
  exact h0
theorem c_seven {a b c d' e f g : Int32} (h : kr (some (.long (sevenL a b c d' e f g))) I E) : Ex Γ l shN (d + 1) (0, 0) mM_seven [.int a, .int b, .int c, .int d', .int e, .int f, .int g] I E kr kx := by
  refine ex_of (ls0 := [some (.int a), some (.int b), some (.int c), some (.int d'), some (.int e), some (.int f), some (.int g), none, none]) tM_seven (by decide +kernel) kM_seven rfl (Nat.le_of_ble_eq_true rfl) rfl ?_
  intro go hgo
  refine hgo 40 [] 0 _ _ _ _ _ ?_
  simp only [run_s, run_0, rM_seven, rok_i, rok_z, bx_cons, bx_nil, eGO, eI2L, jIFne, eLADD, eLDC2, eLI0, eLI1, eLI2, eLI3, eLI4, eLI5, eLI6, eLL7, eLMUL, eRL, eSL7, fM_seven_0, fM_seven_15, fM_seven_20, fM_seven_29, fM_seven_35, fM_seven_40, fM_seven_49, fM_seven_56, fM_seven_61, fM_seven_71, fM_seven_78, fM_seven_83, fM_seven_93, fM_seven_100, fM_seven_105, fM_seven_115, bM_seven_0, bM_seven_15, bM_seven_20, bM_seven_29, bM_seven_35, bM_seven_40, bM_seven_49, bM_seven_56, bM_seven_61, bM_seven_71, bM_seven_78, bM_seven_83, bM_seven_93, bM_seven_100, bM_seven_105, bM_seven_115, ty_m, Option.toList_some, Option.toList_none, List.cons_append, List.nil_append, List.length_cons, List.length_nil, List.mem_cons, List.not_mem_nil, or_false, false_or, or_true, true_or, ↓reduceIte, true_and, and_true, Nat.reduceEqDiff, Nat.reduceAdd, Nat.reduceLeDiff, dl_i, dl_r, dl_n, dl_u, eq_self, not_true_eq_false, not_false_eq_true, n10, n01, nm0, n0m, imp_t, imp_f]
  simp only [sevenL] at h
  refine ⟨?_, ?_⟩ <;> intro c1 <;> (try simp only [c1, if_true, if_false] at h) <;> refine ⟨?_, ?_⟩ <;> intro c2 <;> (try simp only [c2, if_true, if_false] at h) <;> refine ⟨?_, ?_⟩ <;> intro c3 <;> (try simp only [c3, if_true, if_false] at h) <;> refine ⟨?_, ?_⟩ <;> intro c4 <;> (try simp only [c4, if_true, if_false] at h) <;> refine ⟨?_, ?_⟩ <;> intro c5 <;> (try simp only [c5, if_true, if_false] at h) <;> exact h
theorem c_wordHere {a n : Nat} (hn : I 500000 2 = nI n) (hn6 : n ≤ 600) (ha : I 500000 4 = nI a) (han : a ≤ n) (h : kr (some (.long (wcode (tx I n) n (sk (tx I n) n a)))) (up I 500000 4 (nI (sk (tx I n) n a))) E) : Ex Γ l shN (d + 3) (0, 0) mM_wordHere [.ref 500000] I E kr kx := by
  refine ex_of (ls0 := [some (.ref 500000), none, none, none]) tM_wordHere (by decide +kernel) kM_wordHere rfl (Nat.le_of_ble_eq_true rfl) rfl ?_
  intro go hgo
  refine hgo 20 [8] 0 _ _ _ _ _ ?_
  simp only [run_s, run_0, rM_wordHere, rok_i, rok_z, bx_cons, bx_nil, eADD, eBP, eC0, eCS1, eCV0, eCV1, eGI, eGO, eI2L, jICge, jICle, jIFeq, eINC3, eLA0, eLADD, eLC, eLDC2, eLI3, eLL1, eLMUL, eLSUB, eRL, eSI3, eSL1, fM_wordHere_0, fM_wordHere_8, fM_wordHere_24, fM_wordHere_30, fM_wordHere_56, fM_wordHere_57, fM_wordHere_64, fM_wordHere_70, fM_wordHere_76, fM_wordHere_77, bM_wordHere_0, bM_wordHere_8, bM_wordHere_24, bM_wordHere_30, bM_wordHere_56, bM_wordHere_57, bM_wordHere_64, bM_wordHere_70, bM_wordHere_76, bM_wordHere_77, ty_m, Option.toList_some, Option.toList_none, List.cons_append, List.nil_append, List.length_cons, List.length_nil, List.mem_cons, List.not_mem_nil, or_false, false_or, or_true, true_or, ↓reduceIte, true_and, and_true, Nat.reduceEqDiff, Nat.reduceAdd, Nat.reduceLeDiff, dl_i, dl_r, dl_n, dl_u, eq_self, not_true_eq_false, not_false_eq_true, n10, n01, nm0, n0m, imp_t, imp_f]
  refine call0 (c_blanks hn hn6 ha han ?_)
  simp only [run_s, run_0, rM_wordHere, rok_i, rok_z, bx_cons, bx_nil, eADD, eBP, eC0, eCS1, eCV0, eCV1, eGI, eGO, eI2L, jICge, jICle, jIFeq, eINC3, eLA0, eLADD, eLC, eLDC2, eLI3, eLL1, eLMUL, eLSUB, eRL, eSI3, eSL1, fM_wordHere_0, fM_wordHere_8, fM_wordHere_24, fM_wordHere_30, fM_wordHere_56, fM_wordHere_57, fM_wordHere_64, fM_wordHere_70, fM_wordHere_76, fM_wordHere_77, bM_wordHere_0, bM_wordHere_8, bM_wordHere_24, bM_wordHere_30, bM_wordHere_56, bM_wordHere_57, bM_wordHere_64, bM_wordHere_70, bM_wordHere_76, bM_wordHere_77, ty_m, Option.toList_some, Option.toList_none, List.cons_append, List.nil_append, List.length_cons, List.length_nil, List.mem_cons, List.not_mem_nil, or_false, false_or, or_true, true_or, ↓reduceIte, true_and, and_true, Nat.reduceEqDiff, Nat.reduceAdd, Nat.reduceLeDiff, dl_i, dl_r, dl_n, dl_u, eq_self, not_true_eq_false, not_false_eq_true, n10, n01, nm0, n0m, imp_t, imp_f]
  obtain ⟨b, hb⟩ : ∃ b, b = sk (tx I n) n a := ⟨_, rfl⟩
  rw [← hb] at h ⊢
  have hbn : b ≤ n := by rw [hb]; exact (sk_b han).2
  have loop : ∀ (f m : Nat), n - (b + m) = f → b + m ≤ n → rn (tx I n) (nI 97) (nI 122) n (b + m) = rn (tx I n) (nI 97) (nI 122) n b → go 8 [some (.ref 500000), some (.long (wv (tx I n) b m)), none, some (.int (nI m))] [] (up I 500000 4 (nI b)) E (0, 0) := by
    intro f
    induction f with
    | zero =>
      intro m hf hm hs
      have hmn : b + m = n := by omega
      refine hgo 20 [8] 8 _ _ _ _ _ ?_
      simp only [run_s, run_0, rM_wordHere, rok_i, rok_z, bx_cons, bx_nil, eADD, eBP, eC0, eCS1, eCV0, eCV1, eGI, eGO, eI2L, jICge, jICle, jIFeq, eINC3, eLA0, eLADD, eLC, eLDC2, eLI3, eLL1, eLMUL, eLSUB, eRL, eSI3, eSL1, fM_wordHere_0, fM_wordHere_8, fM_wordHere_24, fM_wordHere_30, fM_wordHere_56, fM_wordHere_57, fM_wordHere_64, fM_wordHere_70, fM_wordHere_76, fM_wordHere_77, bM_wordHere_0, bM_wordHere_8, bM_wordHere_24, bM_wordHere_30, bM_wordHere_56, bM_wordHere_57, bM_wordHere_64, bM_wordHere_70, bM_wordHere_76, bM_wordHere_77, ty_m, Option.toList_some, Option.toList_none, List.cons_append, List.nil_append, List.length_cons, List.length_nil, List.mem_cons, List.not_mem_nil, or_false, false_or, or_true, true_or, ↓reduceIte, true_and, and_true, Nat.reduceEqDiff, Nat.reduceAdd, Nat.reduceLeDiff, dl_i, dl_r, dl_n, dl_u, eq_self, not_true_eq_false, not_false_eq_true, n10, n01, nm0, n0m, imp_t, imp_f]
      rw [up_s, nI_add]
      refine call0 (c_byteAt (n := n) ((up_n (by omega)).trans hn) hn6 (by omega) ?_)
      simp only [run_s, run_0, rM_wordHere, rok_i, rok_z, bx_cons, bx_nil, eADD, eBP, eC0, eCS1, eCV0, eCV1, eGI, eGO, eI2L, jICge, jICle, jIFeq, eINC3, eLA0, eLADD, eLC, eLDC2, eLI3, eLL1, eLMUL, eLSUB, eRL, eSI3, eSL1, fM_wordHere_0, fM_wordHere_8, fM_wordHere_24, fM_wordHere_30, fM_wordHere_56, fM_wordHere_57, fM_wordHere_64, fM_wordHere_70, fM_wordHere_76, fM_wordHere_77, bM_wordHere_0, bM_wordHere_8, bM_wordHere_24, bM_wordHere_30, bM_wordHere_56, bM_wordHere_57, bM_wordHere_64, bM_wordHere_70, bM_wordHere_76, bM_wordHere_77, ty_m, Option.toList_some, Option.toList_none, List.cons_append, List.nil_append, List.length_cons, List.length_nil, List.mem_cons, List.not_mem_nil, or_false, false_or, or_true, true_or, ↓reduceIte, true_and, and_true, Nat.reduceEqDiff, Nat.reduceAdd, Nat.reduceLeDiff, dl_i, dl_r, dl_n, dl_u, eq_self, not_true_eq_false, not_false_eq_true, n10, n01, nm0, n0m, imp_t, imp_f]
      refine call0 (c_isSmall ?_)
      simp only [run_s, run_0, rM_wordHere, rok_i, rok_z, bx_cons, bx_nil, eADD, eBP, eC0, eCS1, eCV0, eCV1, eGI, eGO, eI2L, jICge, jICle, jIFeq, eINC3, eLA0, eLADD, eLC, eLDC2, eLI3, eLL1, eLMUL, eLSUB, eRL, eSI3, eSL1, fM_wordHere_0, fM_wordHere_8, fM_wordHere_24, fM_wordHere_30, fM_wordHere_56, fM_wordHere_57, fM_wordHere_64, fM_wordHere_70, fM_wordHere_76, fM_wordHere_77, bM_wordHere_0, bM_wordHere_8, bM_wordHere_24, bM_wordHere_30, bM_wordHere_56, bM_wordHere_57, bM_wordHere_64, bM_wordHere_70, bM_wordHere_76, bM_wordHere_77, ty_m, Option.toList_some, Option.toList_none, List.cons_append, List.nil_append, List.length_cons, List.length_nil, List.mem_cons, List.not_mem_nil, or_false, false_or, or_true, true_or, ↓reduceIte, true_and, and_true, Nat.reduceEqDiff, Nat.reduceAdd, Nat.reduceLeDiff, dl_i, dl_r, dl_n, dl_u, eq_self, not_true_eq_false, not_false_eq_true, n10, n01, nm0, n0m, imp_t, imp_f]
      rw [if_neg (by omega), bi_0]
      have hst : rn (tx I n) (nI 97) (nI 122) n b = b + m := by rw [← hs, rn_stop (by rw [tx_end (by omega)]; decide)]
      refine ⟨fun _ => ?_, fun q => absurd (by decide) q⟩
      rw [nI_leI (by omega) (by omega)]
      unfold wcode at h
      rw [hst, show b + m - b = m by omega] at h
      refine ⟨fun q => ?_, fun q => ?_⟩
      · rw [if_neg (by omega)] at h; exact h
      · rw [if_pos (by omega)] at h; exact h
    | succ f ih =>
      intro m hf hm hs
      have hmn : b + m < n := by omega
      refine hgo 20 [8] 8 _ _ _ _ _ ?_
      simp only [run_s, run_0, rM_wordHere, rok_i, rok_z, bx_cons, bx_nil, eADD, eBP, eC0, eCS1, eCV0, eCV1, eGI, eGO, eI2L, jICge, jICle, jIFeq, eINC3, eLA0, eLADD, eLC, eLDC2, eLI3, eLL1, eLMUL, eLSUB, eRL, eSI3, eSL1, fM_wordHere_0, fM_wordHere_8, fM_wordHere_24, fM_wordHere_30, fM_wordHere_56, fM_wordHere_57, fM_wordHere_64, fM_wordHere_70, fM_wordHere_76, fM_wordHere_77, bM_wordHere_0, bM_wordHere_8, bM_wordHere_24, bM_wordHere_30, bM_wordHere_56, bM_wordHere_57, bM_wordHere_64, bM_wordHere_70, bM_wordHere_76, bM_wordHere_77, ty_m, Option.toList_some, Option.toList_none, List.cons_append, List.nil_append, List.length_cons, List.length_nil, List.mem_cons, List.not_mem_nil, or_false, false_or, or_true, true_or, ↓reduceIte, true_and, and_true, Nat.reduceEqDiff, Nat.reduceAdd, Nat.reduceLeDiff, dl_i, dl_r, dl_n, dl_u, eq_self, not_true_eq_false, not_false_eq_true, n10, n01, nm0, n0m, imp_t, imp_f]
      rw [up_s, nI_add]
      refine call0 (c_byteAt (n := n) ((up_n (by omega)).trans hn) hn6 (by omega) ?_)
      simp only [run_s, run_0, rM_wordHere, rok_i, rok_z, bx_cons, bx_nil, eADD, eBP, eC0, eCS1, eCV0, eCV1, eGI, eGO, eI2L, jICge, jICle, jIFeq, eINC3, eLA0, eLADD, eLC, eLDC2, eLI3, eLL1, eLMUL, eLSUB, eRL, eSI3, eSL1, fM_wordHere_0, fM_wordHere_8, fM_wordHere_24, fM_wordHere_30, fM_wordHere_56, fM_wordHere_57, fM_wordHere_64, fM_wordHere_70, fM_wordHere_76, fM_wordHere_77, bM_wordHere_0, bM_wordHere_8, bM_wordHere_24, bM_wordHere_30, bM_wordHere_56, bM_wordHere_57, bM_wordHere_64, bM_wordHere_70, bM_wordHere_76, bM_wordHere_77, ty_m, Option.toList_some, Option.toList_none, List.cons_append, List.nil_append, List.length_cons, List.length_nil, List.mem_cons, List.not_mem_nil, or_false, false_or, or_true, true_or, ↓reduceIte, true_and, and_true, Nat.reduceEqDiff, Nat.reduceAdd, Nat.reduceLeDiff, dl_i, dl_r, dl_n, dl_u, eq_self, not_true_eq_false, not_false_eq_true, n10, n01, nm0, n0m, imp_t, imp_f]
      refine call0 (c_isSmall ?_)
      simp only [run_s, run_0, rM_wordHere, rok_i, rok_z, bx_cons, bx_nil, eADD, eBP, eC0, eCS1, eCV0, eCV1, eGI, eGO, eI2L, jICge, jICle, jIFeq, eINC3, eLA0, eLADD, eLC, eLDC2, eLI3, eLL1, eLMUL, eLSUB, eRL, eSI3, eSL1, fM_wordHere_0, fM_wordHere_8, fM_wordHere_24, fM_wordHere_30, fM_wordHere_56, fM_wordHere_57, fM_wordHere_64, fM_wordHere_70, fM_wordHere_76, fM_wordHere_77, bM_wordHere_0, bM_wordHere_8, bM_wordHere_24, bM_wordHere_30, bM_wordHere_56, bM_wordHere_57, bM_wordHere_64, bM_wordHere_70, bM_wordHere_76, bM_wordHere_77, ty_m, Option.toList_some, Option.toList_none, List.cons_append, List.nil_append, List.length_cons, List.length_nil, List.mem_cons, List.not_mem_nil, or_false, false_or, or_true, true_or, ↓reduceIte, true_and, and_true, Nat.reduceEqDiff, Nat.reduceAdd, Nat.reduceLeDiff, dl_i, dl_r, dl_n, dl_u, eq_self, not_true_eq_false, not_false_eq_true, n10, n01, nm0, n0m, imp_t, imp_f]
      rw [if_pos hmn, up_n (by omega), bi_0]
      have ht : tx I n (b + m) = I 500001 (b + m) := if_pos hmn
      refine ⟨fun q => ?_, fun q => ?_⟩
      · have hst : rn (tx I n) (nI 97) (nI 122) n b = b + m := by rw [← hs, rn_stop (by rw [ht]; exact q)]
        rw [nI_leI (by omega) (by omega)]
        unfold wcode at h
        rw [hst, show b + m - b = m by omega] at h
        refine ⟨fun q => ?_, fun q => ?_⟩
        · rw [if_neg (by omega)] at h; exact h
        · rw [if_pos (by omega)] at h; exact h
      · have hih := ih (m + 1) (by omega) (by omega) ((rn_step hmn (by rw [ht]; exact Decidable.not_not.mp q)).symm.trans hs)
        rw [nI_leI (by omega) (by omega), nI_add]
        refine ⟨fun q8 => ?_, fun q8 => ?_⟩
        · rw [show wv (tx I n) b (m + 1) = wv (tx I n) b m by rw [wv, if_neg (by omega)]] at hih
          exact hih
        · rw [up_s, nI_add]
          refine call0 (c_byteAt (n := n) ((up_n (by omega)).trans hn) hn6 (by omega) ?_)
          simp only [run_s, run_0, rM_wordHere, rok_i, rok_z, bx_cons, bx_nil, eADD, eBP, eC0, eCS1, eCV0, eCV1, eGI, eGO, eI2L, jICge, jICle, jIFeq, eINC3, eLA0, eLADD, eLC, eLDC2, eLI3, eLL1, eLMUL, eLSUB, eRL, eSI3, eSL1, fM_wordHere_0, fM_wordHere_8, fM_wordHere_24, fM_wordHere_30, fM_wordHere_56, fM_wordHere_57, fM_wordHere_64, fM_wordHere_70, fM_wordHere_76, fM_wordHere_77, bM_wordHere_0, bM_wordHere_8, bM_wordHere_24, bM_wordHere_30, bM_wordHere_56, bM_wordHere_57, bM_wordHere_64, bM_wordHere_70, bM_wordHere_76, bM_wordHere_77, ty_m, Option.toList_some, Option.toList_none, List.cons_append, List.nil_append, List.length_cons, List.length_nil, List.mem_cons, List.not_mem_nil, or_false, false_or, or_true, true_or, ↓reduceIte, true_and, and_true, Nat.reduceEqDiff, Nat.reduceAdd, Nat.reduceLeDiff, dl_i, dl_r, dl_n, dl_u, eq_self, not_true_eq_false, not_false_eq_true, n10, n01, nm0, n0m, imp_t, imp_f]
          rw [if_pos hmn, up_n (by omega), nI_add, ← ht]
          rw [show wv (tx I n) b (m + 1) = 27 * wv (tx I n) b m + (tx I n (b + m)).toInt64 - 97 + lN 1 by rw [wv, if_pos (by omega)]] at hih
          exact hih
  exact loop (n - b) 0 (by omega) (by omega) rfl
theorem c_isWord {a n : Nat} {x1 x2 x3 x4 x5 x6 x7 : Int32} (hn : I 500000 2 = nI n) (hn6 : n ≤ 600) (ha : I 500000 4 = nI a) (han : a ≤ n) (h1 : ¬ I 500000 5 = nI 0 → kr (some (.int (nI 0))) I E)
    (h2 : I 500000 5 = nI 0 → kr (some (.int (bi (wcode (tx I n) n (sk (tx I n) n a) = sevenL x1 x2 x3 x4 x5 x6 x7)))) (up I 500000 4 (nI (sk (tx I n) n a))) E) : Ex Γ l shN (d + 4) (0, 0) mM_isWord [.ref 500000, .int x1, .int x2, .int x3, .int x4, .int x5, .int x6, .int x7] I E kr kx := by
  refine ex_of (ls0 := [some (.ref 500000), some (.int x1), some (.int x2), some (.int x3), some (.int x4), some (.int x5), some (.int x6), some (.int x7)]) tM_isWord (by decide +kernel) kM_isWord rfl (Nat.le_of_ble_eq_true rfl) rfl ?_
  intro go hgo
  refine hgo 20 [] 0 _ _ _ _ _ ?_
  simp only [run_s, run_0, rM_isWord, rok_i, rok_z, bx_cons, bx_nil, eC0, eC1, eCS7, eCV0, eGI, eGO, jIFne, eLA0, eLCMP, eLI1, eLI2, eLI3, eLI4, eLI5, eLI6, eLI7, eRI, fM_isWord_0, fM_isWord_7, fM_isWord_29, fM_isWord_33, fM_isWord_34, bM_isWord_0, bM_isWord_7, bM_isWord_29, bM_isWord_33, bM_isWord_34, ty_m, Option.toList_some, Option.toList_none, List.cons_append, List.nil_append, List.length_cons, List.length_nil, List.mem_cons, List.not_mem_nil, or_false, false_or, or_true, true_or, ↓reduceIte, true_and, and_true, Nat.reduceEqDiff, Nat.reduceAdd, Nat.reduceLeDiff, dl_i, dl_r, dl_n, dl_u, eq_self, not_true_eq_false, not_false_eq_true, n10, n01, nm0, n0m, imp_t, imp_f]
  refine ⟨fun q => h1 q, fun q => ?_⟩
  refine call0 (c_wordHere hn hn6 ha han ?_)
  simp only [run_s, run_0, rM_isWord, rok_i, rok_z, bx_cons, bx_nil, eC0, eC1, eCS7, eCV0, eGI, eGO, jIFne, eLA0, eLCMP, eLI1, eLI2, eLI3, eLI4, eLI5, eLI6, eLI7, eRI, fM_isWord_0, fM_isWord_7, fM_isWord_29, fM_isWord_33, fM_isWord_34, bM_isWord_0, bM_isWord_7, bM_isWord_29, bM_isWord_33, bM_isWord_34, ty_m, Option.toList_some, Option.toList_none, List.cons_append, List.nil_append, List.length_cons, List.length_nil, List.mem_cons, List.not_mem_nil, or_false, false_or, or_true, true_or, ↓reduceIte, true_and, and_true, Nat.reduceEqDiff, Nat.reduceAdd, Nat.reduceLeDiff, dl_i, dl_r, dl_n, dl_u, eq_self, not_true_eq_false, not_false_eq_true, n10, n01, nm0, n0m, imp_t, imp_f]
  refine call0 (c_seven ?_)
  simp only [run_s, run_0, rM_isWord, rok_i, rok_z, bx_cons, bx_nil, eC0, eC1, eCS7, eCV0, eGI, eGO, jIFne, eLA0, eLCMP, eLI1, eLI2, eLI3, eLI4, eLI5, eLI6, eLI7, eRI, fM_isWord_0, fM_isWord_7, fM_isWord_29, fM_isWord_33, fM_isWord_34, bM_isWord_0, bM_isWord_7, bM_isWord_29, bM_isWord_33, bM_isWord_34, ty_m, Option.toList_some, Option.toList_none, List.cons_append, List.nil_append, List.length_cons, List.length_nil, List.mem_cons, List.not_mem_nil, or_false, false_or, or_true, true_or, ↓reduceIte, true_and, and_true, Nat.reduceEqDiff, Nat.reduceAdd, Nat.reduceLeDiff, dl_i, dl_r, dl_n, dl_u, eq_self, not_true_eq_false, not_false_eq_true, n10, n01, nm0, n0m, imp_t, imp_f]
  have h := h2 q
  generalize wcode (tx I n) n (sk (tx I n) n a) = w at h ⊢
  generalize sevenL x1 x2 x3 x4 x5 x6 x7 = v at h ⊢
  unfold lg_cmp
  by_cases e : w = v
  · subst e
    rw [bi_t rfl] at h
    rw [if_neg (by simp), if_pos rfl]
    exact ⟨fun q => absurd nI_0 q, fun _ => h⟩
  · rw [bi_f e] at h
    refine ⟨fun _ => h, fun q => absurd q ?_⟩
    split
    · decide
    · first | decide | (rw [if_neg e]; decide)
theorem c_takes {a n : Nat} {x1 x2 x3 x4 x5 x6 x7 : Int32} (hn : I 500000 2 = nI n) (hn6 : n ≤ 600) (ha : I 500000 4 = nI a) (han : a ≤ n) (h1 : ¬ I 500000 5 = nI 0 → kr (some (.int (nI 0))) I E)
    (h2 : I 500000 5 = nI 0 → wcode (tx I n) n (sk (tx I n) n a) = sevenL x1 x2 x3 x4 x5 x6 x7 → kr (some (.int (nI 1))) (up I 500000 4 (nI (rn (tx I n) (nI 97) (nI 122) n (sk (tx I n) n a)))) E)
    (h3 : I 500000 5 = nI 0 → ¬ wcode (tx I n) n (sk (tx I n) n a) = sevenL x1 x2 x3 x4 x5 x6 x7 → kr (some (.int (nI 0))) (up I 500000 4 (nI (sk (tx I n) n a))) E) : Ex Γ l shN (d + 5) (0, 0) mM_takes [.ref 500000, .int x1, .int x2, .int x3, .int x4, .int x5, .int x6, .int x7] I E kr kx := by
  refine ex_of (ls0 := [some (.ref 500000), some (.int x1), some (.int x2), some (.int x3), some (.int x4), some (.int x5), some (.int x6), some (.int x7), none]) tM_takes (by decide +kernel) kM_takes rfl (Nat.le_of_ble_eq_true rfl) rfl ?_
  intro go hgo
  refine hgo 20 [] 0 _ _ _ _ _ ?_
  simp only [run_s, run_0, rM_takes, rok_i, rok_z, bx_cons, bx_nil, eCV0, eCV7, jIFeq, eLA0, eLI1, eLI2, eLI3, eLI4, eLI5, eLI6, eLI7, eLI8, eRI, eSI8, fM_takes_0, fM_takes_22, fM_takes_26, bM_takes_0, bM_takes_22, bM_takes_26, ty_m, Option.toList_some, Option.toList_none, List.cons_append, List.nil_append, List.length_cons, List.length_nil, List.mem_cons, List.not_mem_nil, or_false, false_or, or_true, true_or, ↓reduceIte, true_and, and_true, Nat.reduceEqDiff, Nat.reduceAdd, Nat.reduceLeDiff, dl_i, dl_r, dl_n, dl_u, eq_self, not_true_eq_false, not_false_eq_true, n10, n01, nm0, n0m, imp_t, imp_f]
  refine call0 (c_isWord hn hn6 ha han ?_ ?_)
  · intro q
    simp only [run_s, run_0, rM_takes, rok_i, rok_z, bx_cons, bx_nil, eCV0, eCV7, jIFeq, eLA0, eLI1, eLI2, eLI3, eLI4, eLI5, eLI6, eLI7, eLI8, eRI, eSI8, fM_takes_0, fM_takes_22, fM_takes_26, bM_takes_0, bM_takes_22, bM_takes_26, ty_m, Option.toList_some, Option.toList_none, List.cons_append, List.nil_append, List.length_cons, List.length_nil, List.mem_cons, List.not_mem_nil, or_false, false_or, or_true, true_or, ↓reduceIte, true_and, and_true, Nat.reduceEqDiff, Nat.reduceAdd, Nat.reduceLeDiff, dl_i, dl_r, dl_n, dl_u, eq_self, not_true_eq_false, not_false_eq_true, n10, n01, nm0, n0m, imp_t, imp_f]
    exact h1 q
  · intro q
    simp only [run_s, run_0, rM_takes, rok_i, rok_z, bx_cons, bx_nil, eCV0, eCV7, jIFeq, eLA0, eLI1, eLI2, eLI3, eLI4, eLI5, eLI6, eLI7, eLI8, eRI, eSI8, fM_takes_0, fM_takes_22, fM_takes_26, bM_takes_0, bM_takes_22, bM_takes_26, ty_m, Option.toList_some, Option.toList_none, List.cons_append, List.nil_append, List.length_cons, List.length_nil, List.mem_cons, List.not_mem_nil, or_false, false_or, or_true, true_or, ↓reduceIte, true_and, and_true, Nat.reduceEqDiff, Nat.reduceAdd, Nat.reduceLeDiff, dl_i, dl_r, dl_n, dl_u, eq_self, not_true_eq_false, not_false_eq_true, n10, n01, nm0, n0m, imp_t, imp_f]
    by_cases e : wcode (tx I n) n (sk (tx I n) n a) = sevenL x1 x2 x3 x4 x5 x6 x7
    · rw [bi_t e]
      refine ⟨fun q => absurd q n10, fun _ => ?_⟩
      refine call0 (c_skipWord (a := sk (tx I n) n a) (n := n) ((up_n (by omega)).trans hn) hn6 up_s (sk_b han).2 ?_)
      simp only [run_s, run_0, rM_takes, rok_i, rok_z, bx_cons, bx_nil, eCV0, eCV7, jIFeq, eLA0, eLI1, eLI2, eLI3, eLI4, eLI5, eLI6, eLI7, eLI8, eRI, eSI8, fM_takes_0, fM_takes_22, fM_takes_26, bM_takes_0, bM_takes_22, bM_takes_26, ty_m, Option.toList_some, Option.toList_none, List.cons_append, List.nil_append, List.length_cons, List.length_nil, List.mem_cons, List.not_mem_nil, or_false, false_or, or_true, true_or, ↓reduceIte, true_and, and_true, Nat.reduceEqDiff, Nat.reduceAdd, Nat.reduceLeDiff, dl_i, dl_r, dl_n, dl_u, eq_self, not_true_eq_false, not_false_eq_true, n10, n01, nm0, n0m, imp_t, imp_f]
      rw [tx_up (by omega), up_up]
      exact h2 q e
    · rw [bi_f e]
      exact ⟨fun _ => ⟨Or.inl rfl, h3 q e⟩, fun q => absurd rfl q⟩
theorem c_sign {a n : Nat} {c : Int32} (hn : I 500000 2 = nI n) (hn6 : n ≤ 600) (ha : I 500000 4 = nI a) (han : a ≤ n) (hc : ¬ c = -1) (h1 : ¬ I 500000 5 = nI 0 → kr none I E)
    (h2 : I 500000 5 = nI 0 → tx I n (sk (tx I n) n a) = c → kr none (up I 500000 4 (nI (sk (tx I n) n a + 1))) E)
    (h3 : I 500000 5 = nI 0 → ¬ tx I n (sk (tx I n) n a) = c → kr none (up (up (up I 500000 4 (nI (sk (tx I n) n a))) 500000 5 (nI 1)) 500000 6 (nI (sk (tx I n) n a))) E) : Ex Γ l shN (d + 3) (0, 0) mM_sign [.ref 500000, .int c] I E kr kx := by
  refine ex_of (ls0 := [some (.ref 500000), some (.int c)]) tM_sign (by decide +kernel) kM_sign rfl (Nat.le_of_ble_eq_true rfl) rfl ?_
  intro go hgo
  refine hgo 20 [] 0 _ _ _ _ _ ?_
  simp only [run_s, run_0, rM_sign, rok_i, rok_z, bx_cons, bx_nil, eADD, eC1, eCV0, eCV1, eCV2, eDUPr, eGI, eGO, jICne, jIFeq, eLA0, eLI1, ePI, eRV, fM_sign_0, fM_sign_7, fM_sign_8, fM_sign_24, fM_sign_37, fM_sign_46, bM_sign_0, bM_sign_7, bM_sign_8, bM_sign_24, bM_sign_37, bM_sign_46, ty_m, Option.toList_some, Option.toList_none, List.cons_append, List.nil_append, List.length_cons, List.length_nil, List.mem_cons, List.not_mem_nil, or_false, false_or, or_true, true_or, ↓reduceIte, true_and, and_true, Nat.reduceEqDiff, Nat.reduceAdd, Nat.reduceLeDiff, dl_i, dl_r, dl_n, dl_u, eq_self, not_true_eq_false, not_false_eq_true, n10, n01, nm0, n0m, imp_t, imp_f]
  refine ⟨fun q => ?_, fun q => h1 q⟩
  refine call0 (c_blanks hn hn6 ha han ?_)
  simp only [run_s, run_0, rM_sign, rok_i, rok_z, bx_cons, bx_nil, eADD, eC1, eCV0, eCV1, eCV2, eDUPr, eGI, eGO, jICne, jIFeq, eLA0, eLI1, ePI, eRV, fM_sign_0, fM_sign_7, fM_sign_8, fM_sign_24, fM_sign_37, fM_sign_46, bM_sign_0, bM_sign_7, bM_sign_8, bM_sign_24, bM_sign_37, bM_sign_46, ty_m, Option.toList_some, Option.toList_none, List.cons_append, List.nil_append, List.length_cons, List.length_nil, List.mem_cons, List.not_mem_nil, or_false, false_or, or_true, true_or, ↓reduceIte, true_and, and_true, Nat.reduceEqDiff, Nat.reduceAdd, Nat.reduceLeDiff, dl_i, dl_r, dl_n, dl_u, eq_self, not_true_eq_false, not_false_eq_true, n10, n01, nm0, n0m, imp_t, imp_f]
  rw [up_s]
  have hb := (sk_b (t := tx I n) han).2
  refine call0 (c_byteAt (n := n) ((up_n (by omega)).trans hn) hn6 (by omega) ?_)
  simp only [run_s, run_0, rM_sign, rok_i, rok_z, bx_cons, bx_nil, eADD, eC1, eCV0, eCV1, eCV2, eDUPr, eGI, eGO, jICne, jIFeq, eLA0, eLI1, ePI, eRV, fM_sign_0, fM_sign_7, fM_sign_8, fM_sign_24, fM_sign_37, fM_sign_46, bM_sign_0, bM_sign_7, bM_sign_8, bM_sign_24, bM_sign_37, bM_sign_46, ty_m, Option.toList_some, Option.toList_none, List.cons_append, List.nil_append, List.length_cons, List.length_nil, List.mem_cons, List.not_mem_nil, or_false, false_or, or_true, true_or, ↓reduceIte, true_and, and_true, Nat.reduceEqDiff, Nat.reduceAdd, Nat.reduceLeDiff, dl_i, dl_r, dl_n, dl_u, eq_self, not_true_eq_false, not_false_eq_true, n10, n01, nm0, n0m, imp_t, imp_f]
  rw [up_n (by omega), show (if sk (tx I n) n a < n then I 500001 (sk (tx I n) n a) else -1) = tx I n (sk (tx I n) n a) from rfl]
  refine ⟨fun e => ?_, fun e => ?_⟩
  · rw [up_s]
    refine call0 (c_wrong ?_)
    simp only [run_s, run_0, rM_sign, rok_i, rok_z, bx_cons, bx_nil, eADD, eC1, eCV0, eCV1, eCV2, eDUPr, eGI, eGO, jICne, jIFeq, eLA0, eLI1, ePI, eRV, fM_sign_0, fM_sign_7, fM_sign_8, fM_sign_24, fM_sign_37, fM_sign_46, bM_sign_0, bM_sign_7, bM_sign_8, bM_sign_24, bM_sign_37, bM_sign_46, ty_m, Option.toList_some, Option.toList_none, List.cons_append, List.nil_append, List.length_cons, List.length_nil, List.mem_cons, List.not_mem_nil, or_false, false_or, or_true, true_or, ↓reduceIte, true_and, and_true, Nat.reduceEqDiff, Nat.reduceAdd, Nat.reduceLeDiff, dl_i, dl_r, dl_n, dl_u, eq_self, not_true_eq_false, not_false_eq_true, n10, n01, nm0, n0m, imp_t, imp_f]
    rw [if_pos ((up_n (by omega)).trans q)]
    exact h3 q e
  · rw [up_s, up_up, nI_add]
    exact h2 q e
theorem c_takesSign {a n : Nat} {c : Int32} (hn : I 500000 2 = nI n) (hn6 : n ≤ 600) (ha : I 500000 4 = nI a) (han : a ≤ n) (h1 : ¬ I 500000 5 = nI 0 → kr (some (.int (nI 0))) I E)
    (h2 : I 500000 5 = nI 0 → tx I n (sk (tx I n) n a) = c → kr (some (.int (nI 1))) (up I 500000 4 (nI (sk (tx I n) n a + 1))) E)
    (h3 : I 500000 5 = nI 0 → ¬ tx I n (sk (tx I n) n a) = c → kr (some (.int (nI 0))) (up I 500000 4 (nI (sk (tx I n) n a))) E) : Ex Γ l shN (d + 3) (0, 0) mM_takesSign [.ref 500000, .int c] I E kr kx := by
  refine ex_of (ls0 := [some (.ref 500000), some (.int c), none]) tM_takesSign (by decide +kernel) kM_takesSign rfl (Nat.le_of_ble_eq_true rfl) rfl ?_
  intro go hgo
  refine hgo 20 [] 0 _ _ _ _ _ ?_
  simp only [run_s, run_0, rM_takesSign, rok_i, rok_z, bx_cons, bx_nil, eADD, eC0, eC1, eCV0, eCV1, eDUPr, eGI, eGO, jICne, jIFeq, eLA0, eLI1, eLI2, ePI, eRI, eSI2, fM_takesSign_0, fM_takesSign_7, fM_takesSign_9, fM_takesSign_25, fM_takesSign_29, fM_takesSign_30, fM_takesSign_35, fM_takesSign_45, bM_takesSign_0, bM_takesSign_7, bM_takesSign_9, bM_takesSign_25, bM_takesSign_29, bM_takesSign_30, bM_takesSign_35, bM_takesSign_45, ty_m, Option.toList_some, Option.toList_none, List.cons_append, List.nil_append, List.length_cons, List.length_nil, List.mem_cons, List.not_mem_nil, or_false, false_or, or_true, true_or, ↓reduceIte, true_and, and_true, Nat.reduceEqDiff, Nat.reduceAdd, Nat.reduceLeDiff, dl_i, dl_r, dl_n, dl_u, eq_self, not_true_eq_false, not_false_eq_true, n10, n01, nm0, n0m, imp_t, imp_f]
  refine ⟨fun q => ?_, fun q => h1 q⟩
  refine call0 (c_blanks hn hn6 ha han ?_)
  simp only [run_s, run_0, rM_takesSign, rok_i, rok_z, bx_cons, bx_nil, eADD, eC0, eC1, eCV0, eCV1, eDUPr, eGI, eGO, jICne, jIFeq, eLA0, eLI1, eLI2, ePI, eRI, eSI2, fM_takesSign_0, fM_takesSign_7, fM_takesSign_9, fM_takesSign_25, fM_takesSign_29, fM_takesSign_30, fM_takesSign_35, fM_takesSign_45, bM_takesSign_0, bM_takesSign_7, bM_takesSign_9, bM_takesSign_25, bM_takesSign_29, bM_takesSign_30, bM_takesSign_35, bM_takesSign_45, ty_m, Option.toList_some, Option.toList_none, List.cons_append, List.nil_append, List.length_cons, List.length_nil, List.mem_cons, List.not_mem_nil, or_false, false_or, or_true, true_or, ↓reduceIte, true_and, and_true, Nat.reduceEqDiff, Nat.reduceAdd, Nat.reduceLeDiff, dl_i, dl_r, dl_n, dl_u, eq_self, not_true_eq_false, not_false_eq_true, n10, n01, nm0, n0m, imp_t, imp_f]
  rw [up_s]
  have hb := (sk_b (t := tx I n) han).2
  refine call0 (c_byteAt (n := n) ((up_n (by omega)).trans hn) hn6 (by omega) ?_)
  simp only [run_s, run_0, rM_takesSign, rok_i, rok_z, bx_cons, bx_nil, eADD, eC0, eC1, eCV0, eCV1, eDUPr, eGI, eGO, jICne, jIFeq, eLA0, eLI1, eLI2, ePI, eRI, eSI2, fM_takesSign_0, fM_takesSign_7, fM_takesSign_9, fM_takesSign_25, fM_takesSign_29, fM_takesSign_30, fM_takesSign_35, fM_takesSign_45, bM_takesSign_0, bM_takesSign_7, bM_takesSign_9, bM_takesSign_25, bM_takesSign_29, bM_takesSign_30, bM_takesSign_35, bM_takesSign_45, ty_m, Option.toList_some, Option.toList_none, List.cons_append, List.nil_append, List.length_cons, List.length_nil, List.mem_cons, List.not_mem_nil, or_false, false_or, or_true, true_or, ↓reduceIte, true_and, and_true, Nat.reduceEqDiff, Nat.reduceAdd, Nat.reduceLeDiff, dl_i, dl_r, dl_n, dl_u, eq_self, not_true_eq_false, not_false_eq_true, n10, n01, nm0, n0m, imp_t, imp_f]
  rw [up_n (by omega), show (if sk (tx I n) n a < n then I 500001 (sk (tx I n) n a) else -1) = tx I n (sk (tx I n) n a) from rfl, up_s, up_up, nI_add]
  exact ⟨fun e => h3 q e, fun e => h2 q e⟩
/-- a number's value, of its first m digits -/
def clp (x : Int32) : Int32 := if nI 100000 < x then nI 100000 else x
def nv (t : Nat → Int32) (b : Nat) : Nat → Int32
  | 0 => nI 0
  | m + 1 => clp (nI 10 * nv t b m + t (b + m) - nI 48)
/-- where a number stands, its end, its value, what is wrong with it -/
def nmB (t : Nat → Int32) (n a : Nat) : Nat := sk t n a
def nmE (t : Nat → Int32) (n a : Nat) : Nat := rn t (nI 48) (nI 57) n (sk t n a)
def nmV (t : Nat → Int32) (n a : Nat) : Int32 := nv t (sk t n a) (nmE t n a - sk t n a)
def nmF (t : Nat → Int32) (n a : Nat) (lo hi : Int32) : Nat := if ¬ (nI 48 ≤ t (sk t n a) ∧ t (sk t n a) ≤ nI 57) then 1 else if ¬ (lo ≤ nmV t n a ∧ nmV t n a ≤ hi) then 2 else 0
theorem c_number {a n : Nat} {lo hi : Int32} (hn : I 500000 2 = nI n) (hn6 : n ≤ 600) (ha : I 500000 4 = nI a) (han : a ≤ n) (h1 : ¬ I 500000 5 = nI 0 → kr (some (.int (nI 0))) I E)
    (h2 : I 500000 5 = nI 0 → nmF (tx I n) n a lo hi = 0 → kr (some (.int (nmV (tx I n) n a))) (up I 500000 4 (nI (nmE (tx I n) n a))) E)
    (h3 : I 500000 5 = nI 0 → ¬ nmF (tx I n) n a lo hi = 0 → kr (some (.int (nI 0))) (up (up (up I 500000 4 (nI (nmE (tx I n) n a))) 500000 5 (nI (nmF (tx I n) n a lo hi))) 500000 6 (nI (nmB (tx I n) n a))) E) : Ex Γ l shN (d + 3) (0, 0) mM_number [.ref 500000, .int lo, .int hi] I E kr kx := by
  refine ex_of (ls0 := [some (.ref 500000), some (.int lo), some (.int hi), none, none]) tM_number (by decide +kernel) kM_number rfl (Nat.le_of_ble_eq_true rfl) rfl ?_
  intro go hgo
  refine hgo 20 [44] 0 _ _ _ _ _ ?_
  simp only [run_s, run_0, rM_number, rok_i, rok_z, bx_cons, bx_nil, eADD, eBP, eC0, eC1, eC2, eCS1, eCS3, eCV0, eCV1, eCV2, eDUPr, eGI, eGO, jICle, jIFeq, jIFne, eLA0, eLDC, eLI1, eLI2, eLI3, eLI4, eMUL, ePI, eRI, eSI3, eSI4, eSUB, fM_number_0, fM_number_7, fM_number_9, fM_number_35, fM_number_44, fM_number_58, fM_number_84, fM_number_89, fM_number_91, fM_number_106, fM_number_116, fM_number_122, fM_number_129, fM_number_134, fM_number_135, bM_number_0, bM_number_7, bM_number_9, bM_number_35, bM_number_44, bM_number_58, bM_number_84, bM_number_89, bM_number_91, bM_number_106, bM_number_116, bM_number_122, bM_number_129, bM_number_134, bM_number_135, ty_m, Option.toList_some, Option.toList_none, List.cons_append, List.nil_append, List.length_cons, List.length_nil, List.mem_cons, List.not_mem_nil, or_false, false_or, or_true, true_or, ↓reduceIte, true_and, and_true, Nat.reduceEqDiff, Nat.reduceAdd, Nat.reduceLeDiff, dl_i, dl_r, dl_n, dl_u, eq_self, not_true_eq_false, not_false_eq_true, n10, n01, nm0, n0m, imp_t, imp_f]
  refine ⟨fun q => ?_, fun q => h1 q⟩
  refine call0 (c_blanks hn hn6 ha han ?_)
  simp only [run_s, run_0, rM_number, rok_i, rok_z, bx_cons, bx_nil, eADD, eBP, eC0, eC1, eC2, eCS1, eCS3, eCV0, eCV1, eCV2, eDUPr, eGI, eGO, jICle, jIFeq, jIFne, eLA0, eLDC, eLI1, eLI2, eLI3, eLI4, eMUL, ePI, eRI, eSI3, eSI4, eSUB, fM_number_0, fM_number_7, fM_number_9, fM_number_35, fM_number_44, fM_number_58, fM_number_84, fM_number_89, fM_number_91, fM_number_106, fM_number_116, fM_number_122, fM_number_129, fM_number_134, fM_number_135, bM_number_0, bM_number_7, bM_number_9, bM_number_35, bM_number_44, bM_number_58, bM_number_84, bM_number_89, bM_number_91, bM_number_106, bM_number_116, bM_number_122, bM_number_129, bM_number_134, bM_number_135, ty_m, Option.toList_some, Option.toList_none, List.cons_append, List.nil_append, List.length_cons, List.length_nil, List.mem_cons, List.not_mem_nil, or_false, false_or, or_true, true_or, ↓reduceIte, true_and, and_true, Nat.reduceEqDiff, Nat.reduceAdd, Nat.reduceLeDiff, dl_i, dl_r, dl_n, dl_u, eq_self, not_true_eq_false, not_false_eq_true, n10, n01, nm0, n0m, imp_t, imp_f]
  have h2 := h2 q
  have h3 := h3 q
  have hbn := (sk_b (t := tx I n) han).2
  have hen := rn_b (t := tx I n) (lo := nI 48) (hi := nI 57) hbn
  obtain ⟨b, hb⟩ : ∃ b, b = sk (tx I n) n a := ⟨_, rfl⟩
  unfold nmF nmV nmE at h2
  unfold nmF nmV nmE nmB at h3
  rw [← hb] at h2 h3 hbn hen ⊢
  rw [up_s]
  have loop : ∀ (J : Iv) (f m : Nat), (∀ k, J 500001 k = I 500001 k) → J 500000 2 = nI n → n - (b + m) = f → b + m ≤ n → rn (tx I n) (nI 48) (nI 57) n (b + m) = rn (tx I n) (nI 48) (nI 57) n b →
      (∀ e, e = rn (tx I n) (nI 48) (nI 57) n b → go 106 [some (.ref 500000), some (.int lo), some (.int hi), some (.int (nI b)), some (.int (nv (tx I n) b (e - b)))] [] (up J 500000 4 (nI e)) E (0, 0)) →
      go 44 [some (.ref 500000), some (.int lo), some (.int hi), some (.int (nI b)), some (.int (nv (tx I n) b m))] [] (up J 500000 4 (nI (b + m))) E (0, 0) := by
    intro J f
    induction f with
    | zero =>
      intro m hJ hJn hf hm hs hfin
      have hmn : b + m = n := by omega
      refine hgo 20 [44, 106] 44 _ _ _ _ _ ?_
      simp only [run_s, run_0, rM_number, rok_i, rok_z, bx_cons, bx_nil, eADD, eBP, eC0, eC1, eC2, eCS1, eCS3, eCV0, eCV1, eCV2, eDUPr, eGI, eGO, jICle, jIFeq, jIFne, eLA0, eLDC, eLI1, eLI2, eLI3, eLI4, eMUL, ePI, eRI, eSI3, eSI4, eSUB, fM_number_0, fM_number_7, fM_number_9, fM_number_35, fM_number_44, fM_number_58, fM_number_84, fM_number_89, fM_number_91, fM_number_106, fM_number_116, fM_number_122, fM_number_129, fM_number_134, fM_number_135, bM_number_0, bM_number_7, bM_number_9, bM_number_35, bM_number_44, bM_number_58, bM_number_84, bM_number_89, bM_number_91, bM_number_106, bM_number_116, bM_number_122, bM_number_129, bM_number_134, bM_number_135, ty_m, Option.toList_some, Option.toList_none, List.cons_append, List.nil_append, List.length_cons, List.length_nil, List.mem_cons, List.not_mem_nil, or_false, false_or, or_true, true_or, ↓reduceIte, true_and, and_true, Nat.reduceEqDiff, Nat.reduceAdd, Nat.reduceLeDiff, dl_i, dl_r, dl_n, dl_u, eq_self, not_true_eq_false, not_false_eq_true, n10, n01, nm0, n0m, imp_t, imp_f]
      rw [up_s]
      refine call0 (c_byteAt (n := n) ((up_n (by omega)).trans hJn) hn6 (by omega) ?_)
      simp only [run_s, run_0, rM_number, rok_i, rok_z, bx_cons, bx_nil, eADD, eBP, eC0, eC1, eC2, eCS1, eCS3, eCV0, eCV1, eCV2, eDUPr, eGI, eGO, jICle, jIFeq, jIFne, eLA0, eLDC, eLI1, eLI2, eLI3, eLI4, eMUL, ePI, eRI, eSI3, eSI4, eSUB, fM_number_0, fM_number_7, fM_number_9, fM_number_35, fM_number_44, fM_number_58, fM_number_84, fM_number_89, fM_number_91, fM_number_106, fM_number_116, fM_number_122, fM_number_129, fM_number_134, fM_number_135, bM_number_0, bM_number_7, bM_number_9, bM_number_35, bM_number_44, bM_number_58, bM_number_84, bM_number_89, bM_number_91, bM_number_106, bM_number_116, bM_number_122, bM_number_129, bM_number_134, bM_number_135, ty_m, Option.toList_some, Option.toList_none, List.cons_append, List.nil_append, List.length_cons, List.length_nil, List.mem_cons, List.not_mem_nil, or_false, false_or, or_true, true_or, ↓reduceIte, true_and, and_true, Nat.reduceEqDiff, Nat.reduceAdd, Nat.reduceLeDiff, dl_i, dl_r, dl_n, dl_u, eq_self, not_true_eq_false, not_false_eq_true, n10, n01, nm0, n0m, imp_t, imp_f]
      refine call0 (c_isDigit ?_)
      simp only [run_s, run_0, rM_number, rok_i, rok_z, bx_cons, bx_nil, eADD, eBP, eC0, eC1, eC2, eCS1, eCS3, eCV0, eCV1, eCV2, eDUPr, eGI, eGO, jICle, jIFeq, jIFne, eLA0, eLDC, eLI1, eLI2, eLI3, eLI4, eMUL, ePI, eRI, eSI3, eSI4, eSUB, fM_number_0, fM_number_7, fM_number_9, fM_number_35, fM_number_44, fM_number_58, fM_number_84, fM_number_89, fM_number_91, fM_number_106, fM_number_116, fM_number_122, fM_number_129, fM_number_134, fM_number_135, bM_number_0, bM_number_7, bM_number_9, bM_number_35, bM_number_44, bM_number_58, bM_number_84, bM_number_89, bM_number_91, bM_number_106, bM_number_116, bM_number_122, bM_number_129, bM_number_134, bM_number_135, ty_m, Option.toList_some, Option.toList_none, List.cons_append, List.nil_append, List.length_cons, List.length_nil, List.mem_cons, List.not_mem_nil, or_false, false_or, or_true, true_or, ↓reduceIte, true_and, and_true, Nat.reduceEqDiff, Nat.reduceAdd, Nat.reduceLeDiff, dl_i, dl_r, dl_n, dl_u, eq_self, not_true_eq_false, not_false_eq_true, n10, n01, nm0, n0m, imp_t, imp_f]
      rw [if_neg (by omega), bi_0]
      have hst : rn (tx I n) (nI 48) (nI 57) n b = b + m := by rw [← hs, rn_stop (by rw [tx_end (by omega)]; decide)]
      refine ⟨fun _ => ?_, fun q => absurd (by decide) q⟩
      have := hfin (b + m) hst.symm
      rw [show b + m - b = m by omega] at this
      exact this
    | succ f ih =>
      intro m hJ hJn hf hm hs hfin
      have hmn : b + m < n := by omega
      refine hgo 20 [44, 106] 44 _ _ _ _ _ ?_
      simp only [run_s, run_0, rM_number, rok_i, rok_z, bx_cons, bx_nil, eADD, eBP, eC0, eC1, eC2, eCS1, eCS3, eCV0, eCV1, eCV2, eDUPr, eGI, eGO, jICle, jIFeq, jIFne, eLA0, eLDC, eLI1, eLI2, eLI3, eLI4, eMUL, ePI, eRI, eSI3, eSI4, eSUB, fM_number_0, fM_number_7, fM_number_9, fM_number_35, fM_number_44, fM_number_58, fM_number_84, fM_number_89, fM_number_91, fM_number_106, fM_number_116, fM_number_122, fM_number_129, fM_number_134, fM_number_135, bM_number_0, bM_number_7, bM_number_9, bM_number_35, bM_number_44, bM_number_58, bM_number_84, bM_number_89, bM_number_91, bM_number_106, bM_number_116, bM_number_122, bM_number_129, bM_number_134, bM_number_135, ty_m, Option.toList_some, Option.toList_none, List.cons_append, List.nil_append, List.length_cons, List.length_nil, List.mem_cons, List.not_mem_nil, or_false, false_or, or_true, true_or, ↓reduceIte, true_and, and_true, Nat.reduceEqDiff, Nat.reduceAdd, Nat.reduceLeDiff, dl_i, dl_r, dl_n, dl_u, eq_self, not_true_eq_false, not_false_eq_true, n10, n01, nm0, n0m, imp_t, imp_f]
      rw [up_s]
      refine call0 (c_byteAt (n := n) ((up_n (by omega)).trans hJn) hn6 (by omega) ?_)
      simp only [run_s, run_0, rM_number, rok_i, rok_z, bx_cons, bx_nil, eADD, eBP, eC0, eC1, eC2, eCS1, eCS3, eCV0, eCV1, eCV2, eDUPr, eGI, eGO, jICle, jIFeq, jIFne, eLA0, eLDC, eLI1, eLI2, eLI3, eLI4, eMUL, ePI, eRI, eSI3, eSI4, eSUB, fM_number_0, fM_number_7, fM_number_9, fM_number_35, fM_number_44, fM_number_58, fM_number_84, fM_number_89, fM_number_91, fM_number_106, fM_number_116, fM_number_122, fM_number_129, fM_number_134, fM_number_135, bM_number_0, bM_number_7, bM_number_9, bM_number_35, bM_number_44, bM_number_58, bM_number_84, bM_number_89, bM_number_91, bM_number_106, bM_number_116, bM_number_122, bM_number_129, bM_number_134, bM_number_135, ty_m, Option.toList_some, Option.toList_none, List.cons_append, List.nil_append, List.length_cons, List.length_nil, List.mem_cons, List.not_mem_nil, or_false, false_or, or_true, true_or, ↓reduceIte, true_and, and_true, Nat.reduceEqDiff, Nat.reduceAdd, Nat.reduceLeDiff, dl_i, dl_r, dl_n, dl_u, eq_self, not_true_eq_false, not_false_eq_true, n10, n01, nm0, n0m, imp_t, imp_f]
      refine call0 (c_isDigit ?_)
      simp only [run_s, run_0, rM_number, rok_i, rok_z, bx_cons, bx_nil, eADD, eBP, eC0, eC1, eC2, eCS1, eCS3, eCV0, eCV1, eCV2, eDUPr, eGI, eGO, jICle, jIFeq, jIFne, eLA0, eLDC, eLI1, eLI2, eLI3, eLI4, eMUL, ePI, eRI, eSI3, eSI4, eSUB, fM_number_0, fM_number_7, fM_number_9, fM_number_35, fM_number_44, fM_number_58, fM_number_84, fM_number_89, fM_number_91, fM_number_106, fM_number_116, fM_number_122, fM_number_129, fM_number_134, fM_number_135, bM_number_0, bM_number_7, bM_number_9, bM_number_35, bM_number_44, bM_number_58, bM_number_84, bM_number_89, bM_number_91, bM_number_106, bM_number_116, bM_number_122, bM_number_129, bM_number_134, bM_number_135, ty_m, Option.toList_some, Option.toList_none, List.cons_append, List.nil_append, List.length_cons, List.length_nil, List.mem_cons, List.not_mem_nil, or_false, false_or, or_true, true_or, ↓reduceIte, true_and, and_true, Nat.reduceEqDiff, Nat.reduceAdd, Nat.reduceLeDiff, dl_i, dl_r, dl_n, dl_u, eq_self, not_true_eq_false, not_false_eq_true, n10, n01, nm0, n0m, imp_t, imp_f]
      have ht : tx I n (b + m) = I 500001 (b + m) := if_pos hmn
      rw [if_pos hmn, up_n (by omega), hJ, ← ht, bi_0]
      refine ⟨fun q => ?_, fun q => ?_⟩
      · have hst : rn (tx I n) (nI 48) (nI 57) n b = b + m := by rw [← hs, rn_stop q]
        have := hfin (b + m) hst.symm
        rw [show b + m - b = m by omega] at this
        exact this
      · rw [up_s]
        refine call0 (c_byteAt (n := n) ((up_n (by omega)).trans hJn) hn6 (by omega) ?_)
        simp only [run_s, run_0, rM_number, rok_i, rok_z, bx_cons, bx_nil, eADD, eBP, eC0, eC1, eC2, eCS1, eCS3, eCV0, eCV1, eCV2, eDUPr, eGI, eGO, jICle, jIFeq, jIFne, eLA0, eLDC, eLI1, eLI2, eLI3, eLI4, eMUL, ePI, eRI, eSI3, eSI4, eSUB, fM_number_0, fM_number_7, fM_number_9, fM_number_35, fM_number_44, fM_number_58, fM_number_84, fM_number_89, fM_number_91, fM_number_106, fM_number_116, fM_number_122, fM_number_129, fM_number_134, fM_number_135, bM_number_0, bM_number_7, bM_number_9, bM_number_35, bM_number_44, bM_number_58, bM_number_84, bM_number_89, bM_number_91, bM_number_106, bM_number_116, bM_number_122, bM_number_129, bM_number_134, bM_number_135, ty_m, Option.toList_some, Option.toList_none, List.cons_append, List.nil_append, List.length_cons, List.length_nil, List.mem_cons, List.not_mem_nil, or_false, false_or, or_true, true_or, ↓reduceIte, true_and, and_true, Nat.reduceEqDiff, Nat.reduceAdd, Nat.reduceLeDiff, dl_i, dl_r, dl_n, dl_u, eq_self, not_true_eq_false, not_false_eq_true, n10, n01, nm0, n0m, imp_t, imp_f]
        rw [if_pos hmn, up_n (by omega), hJ, ← ht, up_s, up_up, nI_add]
        have hih := ih (m + 1) hJ hJn (by omega) (by omega) ((rn_step hmn (Decidable.not_not.mp q)).symm.trans hs) hfin
        rw [show nv (tx I n) b (m + 1) = clp (nI 10 * nv (tx I n) b m + tx I n (b + m) - nI 48) from rfl] at hih
        unfold clp at hih
        refine ⟨fun c => ?_, fun c => ?_⟩
        · rw [if_neg (i32_nlt.mpr c)] at hih; exact hih
        · rw [if_pos (i32_nle.mp c)] at hih; exact hih
  refine call0 (c_byteAt (n := n) ((up_n (by omega)).trans hn) hn6 (by omega) ?_)
  simp only [run_s, run_0, rM_number, rok_i, rok_z, bx_cons, bx_nil, eADD, eBP, eC0, eC1, eC2, eCS1, eCS3, eCV0, eCV1, eCV2, eDUPr, eGI, eGO, jICle, jIFeq, jIFne, eLA0, eLDC, eLI1, eLI2, eLI3, eLI4, eMUL, ePI, eRI, eSI3, eSI4, eSUB, fM_number_0, fM_number_7, fM_number_9, fM_number_35, fM_number_44, fM_number_58, fM_number_84, fM_number_89, fM_number_91, fM_number_106, fM_number_116, fM_number_122, fM_number_129, fM_number_134, fM_number_135, bM_number_0, bM_number_7, bM_number_9, bM_number_35, bM_number_44, bM_number_58, bM_number_84, bM_number_89, bM_number_91, bM_number_106, bM_number_116, bM_number_122, bM_number_129, bM_number_134, bM_number_135, ty_m, Option.toList_some, Option.toList_none, List.cons_append, List.nil_append, List.length_cons, List.length_nil, List.mem_cons, List.not_mem_nil, or_false, false_or, or_true, true_or, ↓reduceIte, true_and, and_true, Nat.reduceEqDiff, Nat.reduceAdd, Nat.reduceLeDiff, dl_i, dl_r, dl_n, dl_u, eq_self, not_true_eq_false, not_false_eq_true, n10, n01, nm0, n0m, imp_t, imp_f]
  refine call0 (c_isDigit ?_)
  simp only [Option.toList_some, List.cons_append, List.nil_append]
  rw [up_n (by omega), show (if b < n then I 500001 b else -1) = tx I n b from rfl]
  have L0 : ∀ J : Iv, (∀ k, J 500001 k = I 500001 k) → J 500000 2 = nI n → (∀ e, e = rn (tx I n) (nI 48) (nI 57) n b → go 106 [some (.ref 500000), some (.int lo), some (.int hi), some (.int (nI b)), some (.int (nv (tx I n) b (e - b)))] [] (up J 500000 4 (nI e)) E (0, 0)) →
      go 44 [some (.ref 500000), some (.int lo), some (.int hi), some (.int (nI b)), some (.int (nI 0))] [] (up J 500000 4 (nI b)) E (0, 0) := fun J h1 h2 h3 => loop J (n - b) 0 h1 h2 (by omega) (by omega) rfl h3
  obtain ⟨e, he⟩ : ∃ e, e = rn (tx I n) (nI 48) (nI 57) n b := ⟨_, rfl⟩
  rw [← he] at h2 h3
  by_cases hdg : nI 48 ≤ tx I n b ∧ tx I n b ≤ nI 57
  · rw [bi_t hdg]
    rw [if_neg (by simp [hdg])] at h2 h3
    have key := L0 I (fun _ => rfl) hn (fun e' he' => by
      rw [← he] at he'
      subst he'
      refine hgo 20 [44, 106] 106 _ _ _ _ _ ?_
      simp only [run_s, run_0, rM_number, rok_i, rok_z, bx_cons, bx_nil, eADD, eBP, eC0, eC1, eC2, eCS1, eCS3, eCV0, eCV1, eCV2, eDUPr, eGI, eGO, jICle, jIFeq, jIFne, eLA0, eLDC, eLI1, eLI2, eLI3, eLI4, eMUL, ePI, eRI, eSI3, eSI4, eSUB, fM_number_0, fM_number_7, fM_number_9, fM_number_35, fM_number_44, fM_number_58, fM_number_84, fM_number_89, fM_number_91, fM_number_106, fM_number_116, fM_number_122, fM_number_129, fM_number_134, fM_number_135, bM_number_0, bM_number_7, bM_number_9, bM_number_35, bM_number_44, bM_number_58, bM_number_84, bM_number_89, bM_number_91, bM_number_106, bM_number_116, bM_number_122, bM_number_129, bM_number_134, bM_number_135, ty_m, Option.toList_some, Option.toList_none, List.cons_append, List.nil_append, List.length_cons, List.length_nil, List.mem_cons, List.not_mem_nil, or_false, false_or, or_true, true_or, ↓reduceIte, true_and, and_true, Nat.reduceEqDiff, Nat.reduceAdd, Nat.reduceLeDiff, dl_i, dl_r, dl_n, dl_u, eq_self, not_true_eq_false, not_false_eq_true, n10, n01, nm0, n0m, imp_t, imp_f]
      refine call0 (c_in ?_)
      simp only [run_s, run_0, rM_number, rok_i, rok_z, bx_cons, bx_nil, eADD, eBP, eC0, eC1, eC2, eCS1, eCS3, eCV0, eCV1, eCV2, eDUPr, eGI, eGO, jICle, jIFeq, jIFne, eLA0, eLDC, eLI1, eLI2, eLI3, eLI4, eMUL, ePI, eRI, eSI3, eSI4, eSUB, fM_number_0, fM_number_7, fM_number_9, fM_number_35, fM_number_44, fM_number_58, fM_number_84, fM_number_89, fM_number_91, fM_number_106, fM_number_116, fM_number_122, fM_number_129, fM_number_134, fM_number_135, bM_number_0, bM_number_7, bM_number_9, bM_number_35, bM_number_44, bM_number_58, bM_number_84, bM_number_89, bM_number_91, bM_number_106, bM_number_116, bM_number_122, bM_number_129, bM_number_134, bM_number_135, ty_m, Option.toList_some, Option.toList_none, List.cons_append, List.nil_append, List.length_cons, List.length_nil, List.mem_cons, List.not_mem_nil, or_false, false_or, or_true, true_or, ↓reduceIte, true_and, and_true, Nat.reduceEqDiff, Nat.reduceAdd, Nat.reduceLeDiff, dl_i, dl_r, dl_n, dl_u, eq_self, not_true_eq_false, not_false_eq_true, n10, n01, nm0, n0m, imp_t, imp_f]
      by_cases hin : lo ≤ nv (tx I n) b (e' - b) ∧ nv (tx I n) b (e' - b) ≤ hi
      · rw [bi_t hin, up_n (by omega), q]
        rw [if_neg (by simp [hin])] at h2
        exact ⟨fun _ => ⟨fun q => absurd rfl q, fun _ => h2 rfl⟩, fun q => absurd q n10⟩
      · rw [bi_f hin]
        rw [if_pos hin] at h3
        refine ⟨fun q => absurd rfl q, fun _ => ?_⟩
        refine call0 (c_wrong ?_)
        rw [if_pos ((up_n (by omega)).trans q)]
        simp only [run_s, run_0, rM_number, rok_i, rok_z, bx_cons, bx_nil, eADD, eBP, eC0, eC1, eC2, eCS1, eCS3, eCV0, eCV1, eCV2, eDUPr, eGI, eGO, jICle, jIFeq, jIFne, eLA0, eLDC, eLI1, eLI2, eLI3, eLI4, eMUL, ePI, eRI, eSI3, eSI4, eSUB, fM_number_0, fM_number_7, fM_number_9, fM_number_35, fM_number_44, fM_number_58, fM_number_84, fM_number_89, fM_number_91, fM_number_106, fM_number_116, fM_number_122, fM_number_129, fM_number_134, fM_number_135, bM_number_0, bM_number_7, bM_number_9, bM_number_35, bM_number_44, bM_number_58, bM_number_84, bM_number_89, bM_number_91, bM_number_106, bM_number_116, bM_number_122, bM_number_129, bM_number_134, bM_number_135, ty_m, Option.toList_some, Option.toList_none, List.cons_append, List.nil_append, List.length_cons, List.length_nil, List.mem_cons, List.not_mem_nil, or_false, false_or, or_true, true_or, ↓reduceIte, true_and, and_true, Nat.reduceEqDiff, Nat.reduceAdd, Nat.reduceLeDiff, dl_i, dl_r, dl_n, dl_u, eq_self, not_true_eq_false, not_false_eq_true, n10, n01, nm0, n0m, imp_t, imp_f]
        rw [up_n (by omega), up_s]
        exact ⟨fun _ => h3 (by decide), fun q => absurd q (by decide)⟩)
    simp only [run_s, run_0, rM_number, rok_i, rok_z, bx_cons, bx_nil, eADD, eBP, eC0, eC1, eC2, eCS1, eCS3, eCV0, eCV1, eCV2, eDUPr, eGI, eGO, jICle, jIFeq, jIFne, eLA0, eLDC, eLI1, eLI2, eLI3, eLI4, eMUL, ePI, eRI, eSI3, eSI4, eSUB, fM_number_0, fM_number_7, fM_number_9, fM_number_35, fM_number_44, fM_number_58, fM_number_84, fM_number_89, fM_number_91, fM_number_106, fM_number_116, fM_number_122, fM_number_129, fM_number_134, fM_number_135, bM_number_0, bM_number_7, bM_number_9, bM_number_35, bM_number_44, bM_number_58, bM_number_84, bM_number_89, bM_number_91, bM_number_106, bM_number_116, bM_number_122, bM_number_129, bM_number_134, bM_number_135, ty_m, Option.toList_some, Option.toList_none, List.cons_append, List.nil_append, List.length_cons, List.length_nil, List.mem_cons, List.not_mem_nil, or_false, false_or, or_true, true_or, ↓reduceIte, true_and, and_true, Nat.reduceEqDiff, Nat.reduceAdd, Nat.reduceLeDiff, dl_i, dl_r, dl_n, dl_u, eq_self, not_true_eq_false, not_false_eq_true, n10, n01, nm0, n0m, imp_t, imp_f]
    exact key
  · rw [bi_f hdg]
    rw [if_pos hdg] at h3
    simp only [run_s, run_0, rM_number, rok_i, rok_z, bx_cons, bx_nil, eADD, eBP, eC0, eC1, eC2, eCS1, eCS3, eCV0, eCV1, eCV2, eDUPr, eGI, eGO, jICle, jIFeq, jIFne, eLA0, eLDC, eLI1, eLI2, eLI3, eLI4, eMUL, ePI, eRI, eSI3, eSI4, eSUB, fM_number_0, fM_number_7, fM_number_9, fM_number_35, fM_number_44, fM_number_58, fM_number_84, fM_number_89, fM_number_91, fM_number_106, fM_number_116, fM_number_122, fM_number_129, fM_number_134, fM_number_135, bM_number_0, bM_number_7, bM_number_9, bM_number_35, bM_number_44, bM_number_58, bM_number_84, bM_number_89, bM_number_91, bM_number_106, bM_number_116, bM_number_122, bM_number_129, bM_number_134, bM_number_135, ty_m, Option.toList_some, Option.toList_none, List.cons_append, List.nil_append, List.length_cons, List.length_nil, List.mem_cons, List.not_mem_nil, or_false, false_or, or_true, true_or, ↓reduceIte, true_and, and_true, Nat.reduceEqDiff, Nat.reduceAdd, Nat.reduceLeDiff, dl_i, dl_r, dl_n, dl_u, eq_self, not_true_eq_false, not_false_eq_true, n10, n01, nm0, n0m, imp_t, imp_f]
    rw [up_s]
    refine call0 (c_wrong ?_)
    rw [if_pos ((up_n (by omega)).trans q)]
    simp only [run_s, run_0, rM_number, rok_i, rok_z, bx_cons, bx_nil, eADD, eBP, eC0, eC1, eC2, eCS1, eCS3, eCV0, eCV1, eCV2, eDUPr, eGI, eGO, jICle, jIFeq, jIFne, eLA0, eLDC, eLI1, eLI2, eLI3, eLI4, eMUL, ePI, eRI, eSI3, eSI4, eSUB, fM_number_0, fM_number_7, fM_number_9, fM_number_35, fM_number_44, fM_number_58, fM_number_84, fM_number_89, fM_number_91, fM_number_106, fM_number_116, fM_number_122, fM_number_129, fM_number_134, fM_number_135, bM_number_0, bM_number_7, bM_number_9, bM_number_35, bM_number_44, bM_number_58, bM_number_84, bM_number_89, bM_number_91, bM_number_106, bM_number_116, bM_number_122, bM_number_129, bM_number_134, bM_number_135, ty_m, Option.toList_some, Option.toList_none, List.cons_append, List.nil_append, List.length_cons, List.length_nil, List.mem_cons, List.not_mem_nil, or_false, false_or, or_true, true_or, ↓reduceIte, true_and, and_true, Nat.reduceEqDiff, Nat.reduceAdd, Nat.reduceLeDiff, dl_i, dl_r, dl_n, dl_u, eq_self, not_true_eq_false, not_false_eq_true, n10, n01, nm0, n0m, imp_t, imp_f]
    have heb : e = b := by rw [he, rn_stop hdg]
    subst heb
    have key := L0 (up (up I 500000 5 (nI 1)) 500000 6 (nI e)) (fun _ => (up_n (by omega)).trans (up_n (by omega))) ((up_n (by omega)).trans ((up_n (by omega)).trans hn)) (fun e' he' => by
      rw [← he] at he'
      subst he'
      rw [show e' - e' = 0 by omega]
      refine hgo 20 [44, 106] 106 _ _ _ _ _ ?_
      simp only [run_s, run_0, rM_number, rok_i, rok_z, bx_cons, bx_nil, eADD, eBP, eC0, eC1, eC2, eCS1, eCS3, eCV0, eCV1, eCV2, eDUPr, eGI, eGO, jICle, jIFeq, jIFne, eLA0, eLDC, eLI1, eLI2, eLI3, eLI4, eMUL, ePI, eRI, eSI3, eSI4, eSUB, fM_number_0, fM_number_7, fM_number_9, fM_number_35, fM_number_44, fM_number_58, fM_number_84, fM_number_89, fM_number_91, fM_number_106, fM_number_116, fM_number_122, fM_number_129, fM_number_134, fM_number_135, bM_number_0, bM_number_7, bM_number_9, bM_number_35, bM_number_44, bM_number_58, bM_number_84, bM_number_89, bM_number_91, bM_number_106, bM_number_116, bM_number_122, bM_number_129, bM_number_134, bM_number_135, ty_m, Option.toList_some, Option.toList_none, List.cons_append, List.nil_append, List.length_cons, List.length_nil, List.mem_cons, List.not_mem_nil, or_false, false_or, or_true, true_or, ↓reduceIte, true_and, and_true, Nat.reduceEqDiff, Nat.reduceAdd, Nat.reduceLeDiff, dl_i, dl_r, dl_n, dl_u, eq_self, not_true_eq_false, not_false_eq_true, n10, n01, nm0, n0m, imp_t, imp_f]
      have hs : up (up (up I 500000 5 (nI 1)) 500000 6 (nI e')) 500000 4 (nI e') = up (up (up I 500000 4 (nI e')) 500000 5 (nI 1)) 500000 6 (nI e') := by
        rw [up_com (by omega), up_com (I := I) (by omega)]
      have hf1 : up (up (up I 500000 4 (nI e')) 500000 5 (nI 1)) 500000 6 (nI e') 500000 5 = nI 1 := (up_n (by omega)).trans up_s
      rw [hs]
      refine call0 (c_in ?_)
      simp only [run_s, run_0, rM_number, rok_i, rok_z, bx_cons, bx_nil, eADD, eBP, eC0, eC1, eC2, eCS1, eCS3, eCV0, eCV1, eCV2, eDUPr, eGI, eGO, jICle, jIFeq, jIFne, eLA0, eLDC, eLI1, eLI2, eLI3, eLI4, eMUL, ePI, eRI, eSI3, eSI4, eSUB, fM_number_0, fM_number_7, fM_number_9, fM_number_35, fM_number_44, fM_number_58, fM_number_84, fM_number_89, fM_number_91, fM_number_106, fM_number_116, fM_number_122, fM_number_129, fM_number_134, fM_number_135, bM_number_0, bM_number_7, bM_number_9, bM_number_35, bM_number_44, bM_number_58, bM_number_84, bM_number_89, bM_number_91, bM_number_106, bM_number_116, bM_number_122, bM_number_129, bM_number_134, bM_number_135, ty_m, Option.toList_some, Option.toList_none, List.cons_append, List.nil_append, List.length_cons, List.length_nil, List.mem_cons, List.not_mem_nil, or_false, false_or, or_true, true_or, ↓reduceIte, true_and, and_true, Nat.reduceEqDiff, Nat.reduceAdd, Nat.reduceLeDiff, dl_i, dl_r, dl_n, dl_u, eq_self, not_true_eq_false, not_false_eq_true, n10, n01, nm0, n0m, imp_t, imp_f]
      rw [hf1, bi_0, Decidable.not_not]
      refine ⟨fun _ => ⟨fun _ => h3 (by decide), fun q => absurd q n10⟩, fun _ => ?_⟩
      refine call0 (c_wrong ?_)
      rw [hf1, if_neg n10]
      simp only [run_s, run_0, rM_number, rok_i, rok_z, bx_cons, bx_nil, eADD, eBP, eC0, eC1, eC2, eCS1, eCS3, eCV0, eCV1, eCV2, eDUPr, eGI, eGO, jICle, jIFeq, jIFne, eLA0, eLDC, eLI1, eLI2, eLI3, eLI4, eMUL, ePI, eRI, eSI3, eSI4, eSUB, fM_number_0, fM_number_7, fM_number_9, fM_number_35, fM_number_44, fM_number_58, fM_number_84, fM_number_89, fM_number_91, fM_number_106, fM_number_116, fM_number_122, fM_number_129, fM_number_134, fM_number_135, bM_number_0, bM_number_7, bM_number_9, bM_number_35, bM_number_44, bM_number_58, bM_number_84, bM_number_89, bM_number_91, bM_number_106, bM_number_116, bM_number_122, bM_number_129, bM_number_134, bM_number_135, ty_m, Option.toList_some, Option.toList_none, List.cons_append, List.nil_append, List.length_cons, List.length_nil, List.mem_cons, List.not_mem_nil, or_false, false_or, or_true, true_or, ↓reduceIte, true_and, and_true, Nat.reduceEqDiff, Nat.reduceAdd, Nat.reduceLeDiff, dl_i, dl_r, dl_n, dl_u, eq_self, not_true_eq_false, not_false_eq_true, n10, n01, nm0, n0m, imp_t, imp_f]
      rw [hf1]
      exact ⟨fun _ => h3 (by decide), fun q => absurd q n10⟩)
    have hs : up (up (up I 500000 5 (nI 1)) 500000 6 (nI e)) 500000 4 (nI e) = up (up (up I 500000 4 (nI e)) 500000 5 (nI 1)) 500000 6 (nI e) := by
      rw [up_com (by omega), up_com (I := I) (by omega)]
    rw [hs] at key
    exact key
theorem c_starts {n : Nat} (hn6 : n ≤ 600) (h : kr none (up (up (up (up (up (up (up (up I 500000 1 (nI 0)) 500000 2 (nI n)) 500000 4 (nI 0)) 500000 5 (nI 0)) 500000 6 (-1)) 500000 7 (nI 0)) 500000 8 (nI 0)) 500000 4 (nI (sk (tx I n) n 0))) E) : Ex Γ l shN (d + 3) (0, 0) mM_starts [.ref 500000, .int (nI n)] I E kr kx := by
  refine ex_of (ls0 := [some (.ref 500000), some (.int (nI n))]) tM_starts (by decide +kernel) kM_starts rfl (Nat.le_of_ble_eq_true rfl) rfl ?_
  intro go hgo
  refine hgo 20 [] 0 _ _ _ _ _ ?_
  simp only [run_s, run_0, rM_starts, rok_i, rok_z, bx_cons, bx_nil, eC0, eCV0, eCm1, eLA0, eLI1, ePI, eRV, fM_starts_0, bM_starts_0, ty_m, Option.toList_some, Option.toList_none, List.cons_append, List.nil_append, List.length_cons, List.length_nil, List.mem_cons, List.not_mem_nil, or_false, false_or, or_true, true_or, ↓reduceIte, true_and, and_true, Nat.reduceEqDiff, Nat.reduceAdd, Nat.reduceLeDiff, dl_i, dl_r, dl_n, dl_u, eq_self, not_true_eq_false, not_false_eq_true, n10, n01, nm0, n0m, imp_t, imp_f]
  refine call0 (c_blanks (n := n) (a := 0) ?_ hn6 ?_ (Nat.zero_le _) ?_)
  · simp [up]
  · simp [up]
  · simp only [run_s, run_0, rM_starts, rok_i, rok_z, bx_cons, bx_nil, eC0, eCV0, eCm1, eLA0, eLI1, ePI, eRV, fM_starts_0, bM_starts_0, ty_m, Option.toList_some, Option.toList_none, List.cons_append, List.nil_append, List.length_cons, List.length_nil, List.mem_cons, List.not_mem_nil, or_false, false_or, or_true, true_or, ↓reduceIte, true_and, and_true, Nat.reduceEqDiff, Nat.reduceAdd, Nat.reduceLeDiff, dl_i, dl_r, dl_n, dl_u, eq_self, not_true_eq_false, not_false_eq_true, n10, n01, nm0, n0m, imp_t, imp_f]
    simp only [tx_up (show 500000 ≠ 500001 by decide)]
    exact h
end CM2
