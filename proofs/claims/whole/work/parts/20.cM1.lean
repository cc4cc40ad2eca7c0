/-! contracts of HerbWatersModel, 1: small ones -/
def bi (p : Prop) [Decidable p] : Int32 := if p then nI 1 else nI 0
theorem bi_t {p : Prop} [Decidable p] (h : p) : bi p = nI 1 := if_pos h
theorem bi_f {p : Prop} [Decidable p] (h : ¬ p) : bi p = nI 0 := if_neg h
theorem bi_01 {p : Prop} [Decidable p] : bi p = nI 0 ∨ bi p = nI 1 := by unfold bi; split <;> simp
theorem n10 : ¬ nI 1 = nI 0 := by decide
theorem n01 : ¬ nI 0 = nI 1 := by decide
theorem nm0 : ¬ (-1 : Int32) = nI 0 := by decide
theorem n0m : ¬ nI 0 = (-1 : Int32) := by decide
theorem bi_0 {p : Prop} [Decidable p] : bi p = nI 0 ↔ ¬ p := by
  by_cases h : p
  · simp [bi, h, n10]
  · simp [bi, h]
theorem bi_1 {p : Prop} [Decidable p] : bi p = nI 1 ↔ p := by
  by_cases h : p
  · simp [bi, h]
  · simp [bi, h, n01]
theorem bi_c {p q : Prop} [Decidable p] [Decidable q] (h : p ↔ q) : bi p = bi q := by
  unfold bi
  by_cases hp : p
  · rw [if_pos hp, if_pos (h.mp hp)]
  · rw [if_neg hp, if_neg (fun hq => hp (h.mpr hq))]
theorem up_self {I : Iv} {i j : Nat} {x : Int32} (h : I i j = x) : up I i j x = I := by
  funext a b
  unfold up
  split
  · rename_i hc
    rw [hc.1, hc.2, h]
  · rfl
theorem up_up {I : Iv} {i j : Nat} {x y : Int32} : up (up I i j x) i j y = up I i j y := by
  funext a b
  unfold up
  split <;> simp_all
theorem up_com {I : Iv} {i j i' j' : Nat} {x y : Int32} (h : ¬ (i = i' ∧ j = j')) : up (up I i j x) i' j' y = up (up I i' j' y) i j x := by
  funext a b
  unfold up
  by_cases h1 : a = i ∧ b = j <;> by_cases h2 : a = i' ∧ b = j'
  · exact absurd ⟨h1.1.symm.trans h2.1, h1.2.symm.trans h2.2⟩ h
  · rw [if_neg h2, if_pos h1, if_pos h1]
  · rw [if_pos h2, if_neg h1, if_pos h2]
  · rw [if_neg h2, if_neg h1, if_neg h1, if_neg h2]
theorem i32_nlt {a b : Int32} : ¬ a < b ↔ b ≤ a := Int32.not_lt
theorem i32_nle {a b : Int32} : ¬ a ≤ b ↔ b < a := Int32.not_le
section CM1
variable {Γ : Gm} {l : Launch} {d : Nat} {I : Iv} {E : Ev} {kr : Kr} {kx : Kxx}
theorem c_byteAt {k n : Nat} (hn : I 500000 2 = nI n) (hn6 : n ≤ 600) (hk : k < 2 ^ 31)
    (h : kr (some (.int (if k < n then I 500001 k else -1))) I E) : Ex Γ l shN (d + 1) (0, 0) mM_byteAt [.ref 500000, .int (nI k)] I E kr kx := by
  refine ex_of (ls0 := [some (.ref 500000), some (.int (nI k))]) tM_byteAt (by decide +kernel) kM_byteAt rfl (Nat.le_of_ble_eq_true rfl) rfl ?_
  intro go hgo
  refine hgo 20 [] 0 _ _ _ _ _ ?_
  simp only [run_s, run_0, rM_byteAt, rok_i, rok_z, bx_cons, bx_nil, eCm1, eGI, eGO, eGR, eIALD, jIClt, eLA0, eLI1, eRI, fM_byteAt_0, fM_byteAt_8, fM_byteAt_12, fM_byteAt_18, bM_byteAt_0, bM_byteAt_8, bM_byteAt_12, bM_byteAt_18, ln_mfed, rg_m_9, ty_m, ty_mfed, Option.toList_some, Option.toList_none, List.cons_append, List.nil_append, List.length_cons, List.length_nil, List.mem_cons, List.not_mem_nil, or_false, false_or, or_true, true_or, ↓reduceIte, true_and, and_true, Nat.reduceEqDiff, Nat.reduceAdd, Nat.reduceLeDiff, dl_i, dl_r, dl_n, dl_u, eq_self, not_true_eq_false, not_false_eq_true, n10, n01, nm0, n0m, imp_t, imp_f]
  rw [hn, nI_ltI hk (by omega)]
  refine ⟨fun c => ixr_n (by omega) ?_, fun c => ?_⟩
  · rw [if_pos c] at h; exact h
  · rw [if_neg c] at h; exact h
theorem c_in {v lo hi : Int32} (h : kr (some (.int (bi (lo ≤ v ∧ v ≤ hi)))) I E) : Ex Γ l shN (d + 1) (0, 0) mM_in [.int v, .int lo, .int hi] I E kr kx := by
  refine ex_of (ls0 := [some (.int v), some (.int lo), some (.int hi)]) tM_in (by decide +kernel) kM_in rfl (Nat.le_of_ble_eq_true rfl) rfl ?_
  intro go hgo
  refine hgo 20 [] 0 _ _ _ _ _ ?_
  simp only [run_s, run_0, rM_in, rok_i, rok_z, bx_cons, bx_nil, eC0, eC1, eGO, jICgt, jIClt, eLI0, eLI1, eLI2, eRI, fM_in_0, fM_in_5, fM_in_10, fM_in_14, fM_in_15, bM_in_0, bM_in_5, bM_in_10, bM_in_14, bM_in_15, ty_m, Option.toList_some, Option.toList_none, List.cons_append, List.nil_append, List.length_cons, List.length_nil, List.mem_cons, List.not_mem_nil, or_false, false_or, or_true, true_or, ↓reduceIte, true_and, and_true, Nat.reduceEqDiff, Nat.reduceAdd, Nat.reduceLeDiff, dl_i, dl_r, dl_n, dl_u, eq_self, not_true_eq_false, not_false_eq_true, n10, n01, nm0, n0m, imp_t, imp_f]
  refine ⟨fun c => ?_, fun c => ⟨fun c2 => ?_, fun c2 => ?_⟩⟩
  · rw [bi_f (fun q => i32_nle.mpr c q.1)] at h; exact h
  · rw [bi_f (fun q => i32_nle.mpr c2 q.2)] at h; exact h
  · rw [bi_t ⟨i32_nlt.mp c, i32_nlt.mp c2⟩] at h; exact h
theorem c_less {a b : Int32} (h : kr (some (.int (if a < b then a else b))) I E) : Ex Γ l shN (d + 1) (0, 0) mM_less [.int a, .int b] I E kr kx := by
  refine ex_of (ls0 := [some (.int a), some (.int b)]) tM_less (by decide +kernel) kM_less rfl (Nat.le_of_ble_eq_true rfl) rfl ?_
  intro go hgo
  refine hgo 20 [] 0 _ _ _ _ _ ?_
  simp only [run_s, run_0, rM_less, rok_i, rok_z, bx_cons, bx_nil, eGO, jICge, eLI0, eLI1, eRI, fM_less_0, fM_less_5, fM_less_9, fM_less_10, bM_less_0, bM_less_5, bM_less_9, bM_less_10, ty_m, Option.toList_some, Option.toList_none, List.cons_append, List.nil_append, List.length_cons, List.length_nil, List.mem_cons, List.not_mem_nil, or_false, false_or, or_true, true_or, ↓reduceIte, true_and, and_true, Nat.reduceEqDiff, Nat.reduceAdd, Nat.reduceLeDiff, dl_i, dl_r, dl_n, dl_u, eq_self, not_true_eq_false, not_false_eq_true, n10, n01, nm0, n0m, imp_t, imp_f]
  refine ⟨fun c => ?_, fun c => ?_⟩
  · rw [if_neg (i32_nlt.mpr c)] at h; exact h
  · rw [if_pos (i32_nle.mp c)] at h; exact h
theorem c_isDigit {v : Int32} (h : kr (some (.int (bi (nI 48 ≤ v ∧ v ≤ nI 57)))) I E) : Ex Γ l shN (d + 1) (0, 0) mM_isDigit [.int v] I E kr kx := by
  refine ex_of (ls0 := [some (.int v)]) tM_isDigit (by decide +kernel) kM_isDigit rfl (Nat.le_of_ble_eq_true rfl) rfl ?_
  intro go hgo
  refine hgo 20 [] 0 _ _ _ _ _ ?_
  simp only [run_s, run_0, rM_isDigit, rok_i, rok_z, bx_cons, bx_nil, eBP, eC0, eC1, eGO, jICgt, jIClt, eLI0, eRI, fM_isDigit_0, fM_isDigit_6, fM_isDigit_12, fM_isDigit_16, fM_isDigit_17, bM_isDigit_0, bM_isDigit_6, bM_isDigit_12, bM_isDigit_16, bM_isDigit_17, ty_m, Option.toList_some, Option.toList_none, List.cons_append, List.nil_append, List.length_cons, List.length_nil, List.mem_cons, List.not_mem_nil, or_false, false_or, or_true, true_or, ↓reduceIte, true_and, and_true, Nat.reduceEqDiff, Nat.reduceAdd, Nat.reduceLeDiff, dl_i, dl_r, dl_n, dl_u, eq_self, not_true_eq_false, not_false_eq_true, n10, n01, nm0, n0m, imp_t, imp_f]
  refine ⟨fun c => ?_, fun c => ⟨fun c2 => ?_, fun c2 => ?_⟩⟩
  · rw [bi_f (fun q => i32_nle.mpr c q.1)] at h; exact h
  · rw [bi_f (fun q => i32_nle.mpr c2 q.2)] at h; exact h
  · rw [bi_t ⟨i32_nlt.mp c, i32_nlt.mp c2⟩] at h; exact h
theorem c_isSmall {v : Int32} (h : kr (some (.int (bi (nI 97 ≤ v ∧ v ≤ nI 122)))) I E) : Ex Γ l shN (d + 1) (0, 0) mM_isSmall [.int v] I E kr kx := by
  refine ex_of (ls0 := [some (.int v)]) tM_isSmall (by decide +kernel) kM_isSmall rfl (Nat.le_of_ble_eq_true rfl) rfl ?_
  intro go hgo
  refine hgo 20 [] 0 _ _ _ _ _ ?_
  simp only [run_s, run_0, rM_isSmall, rok_i, rok_z, bx_cons, bx_nil, eBP, eC0, eC1, eGO, jICgt, jIClt, eLI0, eRI, fM_isSmall_0, fM_isSmall_6, fM_isSmall_12, fM_isSmall_16, fM_isSmall_17, bM_isSmall_0, bM_isSmall_6, bM_isSmall_12, bM_isSmall_16, bM_isSmall_17, ty_m, Option.toList_some, Option.toList_none, List.cons_append, List.nil_append, List.length_cons, List.length_nil, List.mem_cons, List.not_mem_nil, or_false, false_or, or_true, true_or, ↓reduceIte, true_and, and_true, Nat.reduceEqDiff, Nat.reduceAdd, Nat.reduceLeDiff, dl_i, dl_r, dl_n, dl_u, eq_self, not_true_eq_false, not_false_eq_true, n10, n01, nm0, n0m, imp_t, imp_f]
  refine ⟨fun c => ?_, fun c => ⟨fun c2 => ?_, fun c2 => ?_⟩⟩
  · rw [bi_f (fun q => i32_nle.mpr c q.1)] at h; exact h
  · rw [bi_f (fun q => i32_nle.mpr c2 q.2)] at h; exact h
  · rw [bi_t ⟨i32_nlt.mp c, i32_nlt.mp c2⟩] at h; exact h
theorem c_thrown (h : kr (some (.int (I 500000 0))) I E) : Ex Γ l shN (d + 1) (0, 0) mM_thrown [.ref 500000] I E kr kx := by
  refine ex_of (ls0 := [some (.ref 500000)]) tM_thrown (by decide +kernel) kM_thrown rfl (Nat.le_of_ble_eq_true rfl) rfl ?_
  intro go hgo
  refine hgo 20 [] 0 _ _ _ _ _ ?_
  simp only [run_s, run_0, rM_thrown, rok_i, rok_z, bx_cons, bx_nil, eGI, eLA0, eRI, fM_thrown_0, bM_thrown_0, ty_m, Option.toList_some, Option.toList_none, List.cons_append, List.nil_append, List.length_cons, List.length_nil, List.mem_cons, List.not_mem_nil, or_false, false_or, or_true, true_or, ↓reduceIte, true_and, and_true, Nat.reduceEqDiff, Nat.reduceAdd, Nat.reduceLeDiff, dl_i, dl_r, dl_n, dl_u, eq_self, not_true_eq_false, not_false_eq_true, n10, n01, nm0, n0m, imp_t, imp_f]
  exact h
/-- the refusal, from a call's start (thrown = 0): the word, the state -/
theorem c_bad {p w : Int32} {rn : Nat} (hrn : rn < 2) (hw : ¬ w = nI 0) (h0 : p = nI 0 → kr (some (.int (bi (¬ I 500000 0 = nI 0)))) I E) (h1 : ¬ p = nI 0 → ¬ I 500000 0 = nI 0 → kr (some (.int (nI 1))) I E)
    (h2 : ¬ p = nI 0 → I 500000 0 = nI 0 → kr (some (.int (nI 1))) (up (up I 500000 0 w) 500002 rn (I 500002 rn + nI 1)) E) : Ex Γ l shN (d + 1) (0, 0) mM_bad [.ref 500000, .int p, .int w, .int (nI rn)] I E kr kx := by
  refine ex_of (ls0 := [some (.ref 500000), some (.int p), some (.int w), some (.int (nI rn))]) tM_bad (by decide +kernel) kM_bad rfl (Nat.le_of_ble_eq_true rfl) rfl ?_
  intro go hgo
  refine hgo 20 [] 0 _ _ _ _ _ ?_
  simp only [run_s, run_0, rM_bad, rok_i, rok_z, bx_cons, bx_nil, eADD, eC0, eC1, eDUP2, eGI, eGO, eGR, eIALD, eIAST, jIFeq, jIFne, eLA0, eLI1, eLI2, eLI3, ePI, eRI, fM_bad_0, fM_bad_4, fM_bad_11, fM_bad_26, fM_bad_33, fM_bad_37, fM_bad_38, bM_bad_0, bM_bad_4, bM_bad_11, bM_bad_26, bM_bad_33, bM_bad_37, bM_bad_38, ln_mrefused, rg_m_10, ty_m, ty_mrefused, Option.toList_some, Option.toList_none, List.cons_append, List.nil_append, List.length_cons, List.length_nil, List.mem_cons, List.not_mem_nil, or_false, false_or, or_true, true_or, ↓reduceIte, true_and, and_true, Nat.reduceEqDiff, Nat.reduceAdd, Nat.reduceLeDiff, dl_i, dl_r, dl_n, dl_u, eq_self, not_true_eq_false, not_false_eq_true, n10, n01, nm0, n0m, imp_t, imp_f]
  refine ⟨fun c => ⟨fun c2 => ?_, fun c2 => ?_⟩, fun c => ⟨fun c2 => ⟨fun c3 => absurd c3 c2, fun _ => h1 c c2⟩, fun c2 => ixr_n hrn (ixr_n hrn ?_)⟩⟩
  · have := h0 c; rw [bi_f (fun q => q c2)] at this; exact this
  · have := h0 c; rw [bi_t c2] at this; exact this
  · have e1 : up I 500000 0 w 500002 rn = I 500002 rn := up_n (by omega)
    have e2 : ∀ x, up (up I 500000 0 w) 500002 rn x 500000 0 = w := fun x => (up_n (by omega)).trans up_s
    rw [e1, e2]
    exact ⟨fun q => absurd q hw, fun _ => h2 c c2⟩
theorem c_wrong {w g : Int32} (h : kr none (if I 500000 5 = nI 0 then up (up I 500000 5 w) 500000 6 g else I) E) : Ex Γ l shN (d + 1) (0, 0) mM_wrong [.ref 500000, .int w, .int g] I E kr kx := by
  refine ex_of (ls0 := [some (.ref 500000), some (.int w), some (.int g)]) tM_wrong (by decide +kernel) kM_wrong rfl (Nat.le_of_ble_eq_true rfl) rfl ?_
  intro go hgo
  refine hgo 20 [] 0 _ _ _ _ _ ?_
  simp only [run_s, run_0, rM_wrong, rok_i, rok_z, bx_cons, bx_nil, eGI, jIFne, eLA0, eLI1, eLI2, ePI, eRV, fM_wrong_0, fM_wrong_7, fM_wrong_17, bM_wrong_0, bM_wrong_7, bM_wrong_17, ty_m, Option.toList_some, Option.toList_none, List.cons_append, List.nil_append, List.length_cons, List.length_nil, List.mem_cons, List.not_mem_nil, or_false, false_or, or_true, true_or, ↓reduceIte, true_and, and_true, Nat.reduceEqDiff, Nat.reduceAdd, Nat.reduceLeDiff, dl_i, dl_r, dl_n, dl_u, eq_self, not_true_eq_false, not_false_eq_true, n10, n01, nm0, n0m, imp_t, imp_f]
  refine ⟨fun c => ?_, fun c => ?_⟩
  · rw [if_neg c] at h; exact h
  · rw [if_pos c] at h; exact h
/-! the text, and what is read of it -/
def tx (I : Iv) (n k : Nat) : Int32 := if k < n then I 500001 k else -1
def skf (t : Nat → Int32) : Nat → Nat → Nat
  | 0, k => k
  | f + 1, k => if t k = nI 32 then skf t f (k + 1) else k
/-- past blanks -/
def sk (t : Nat → Int32) (n k : Nat) : Nat := skf t (n - k) k
theorem sk_le {t : Nat → Int32} {n : Nat} : ∀ {f k : Nat}, f = n - k → k ≤ n → k ≤ skf t f k ∧ skf t f k ≤ n
  | 0, k, hf, hk => by simp [skf]; omega
  | f + 1, k, hf, hk => by
    unfold skf
    split
    · have := sk_le (t := t) (n := n) (f := f) (k := k + 1) (by omega) (by omega)
      omega
    · omega
theorem sk_step {t : Nat → Int32} {n k : Nat} (hk : k < n) (h : t k = nI 32) : sk t n k = sk t n (k + 1) := by
  unfold sk
  rw [show n - k = (n - (k + 1)) + 1 by omega, skf, if_pos h]
theorem sk_stop {t : Nat → Int32} {n k : Nat} (h : ¬ t k = nI 32) : sk t n k = k := by
  unfold sk
  cases n - k with
  | zero => rfl
  | succ f => rw [skf, if_neg h]
theorem sk_end {I : Iv} {n : Nat} : ¬ tx I n n = nI 32 := by
  unfold tx
  rw [if_neg (by omega)]
  decide
theorem tx_up {I : Iv} {n i j : Nat} {x : Int32} (h : i ≠ 500001) : tx (up I i j x) n = tx I n := by
  funext k
  unfold tx
  rw [up_n (fun q => h q.1.symm)]
theorem c_blanks {a n : Nat} (hn : I 500000 2 = nI n) (hn6 : n ≤ 600) (ha : I 500000 4 = nI a) (han : a ≤ n) (h : kr none (up I 500000 4 (nI (sk (tx I n) n a))) E) : Ex Γ l shN (d + 2) (0, 0) mM_blanks [.ref 500000] I E kr kx := by
  refine ex_of (ls0 := [some (.ref 500000)]) tM_blanks (by decide +kernel) kM_blanks rfl (Nat.le_of_ble_eq_true rfl) rfl ?_
  intro go hgo
  have loop : ∀ (f b : Nat), n - b = f → b ≤ n → sk (tx I n) n b = sk (tx I n) n a → go 0 [some (.ref 500000)] [] (up I 500000 4 (nI b)) E (0, 0) := by
    intro f
    induction f with
    | zero =>
      intro b hf hb hs
      have hbn : b = n := by omega
      subst hbn
      refine hgo 20 [0] 0 _ _ _ _ _ ?_
      simp only [run_s, run_0, rM_blanks, rok_i, rok_z, bx_cons, bx_nil, eADD, eBP, eC1, eCV1, eDUPr, eGI, eGO, jICne, eLA0, ePI, eRV, fM_blanks_0, fM_blanks_13, fM_blanks_26, bM_blanks_0, bM_blanks_13, bM_blanks_26, ty_m, Option.toList_some, Option.toList_none, List.cons_append, List.nil_append, List.length_cons, List.length_nil, List.mem_cons, List.not_mem_nil, or_false, false_or, or_true, true_or, ↓reduceIte, true_and, and_true, Nat.reduceEqDiff, Nat.reduceAdd, Nat.reduceLeDiff, dl_i, dl_r, dl_n, dl_u, eq_self, not_true_eq_false, not_false_eq_true, n10, n01, nm0, n0m, imp_t, imp_f]
      rw [up_s]
      refine call0 (c_byteAt (n := b) ((up_n (by omega)).trans hn) hn6 (by omega) ?_)
      simp only [run_s, run_0, rM_blanks, rok_i, rok_z, bx_cons, bx_nil, eADD, eBP, eC1, eCV1, eDUPr, eGI, eGO, jICne, eLA0, ePI, eRV, fM_blanks_0, fM_blanks_13, fM_blanks_26, bM_blanks_0, bM_blanks_13, bM_blanks_26, ty_m, Option.toList_some, Option.toList_none, List.cons_append, List.nil_append, List.length_cons, List.length_nil, List.mem_cons, List.not_mem_nil, or_false, false_or, or_true, true_or, ↓reduceIte, true_and, and_true, Nat.reduceEqDiff, Nat.reduceAdd, Nat.reduceLeDiff, dl_i, dl_r, dl_n, dl_u, eq_self, not_true_eq_false, not_false_eq_true, n10, n01, nm0, n0m, imp_t, imp_f]
      rw [if_neg (by omega)]
      refine ⟨fun _ => ?_, fun q => absurd q (by decide)⟩
      rw [← hs, sk_stop sk_end] at h
      exact h
    | succ f ih =>
      intro b hf hb hs
      have hbn : b < n := by omega
      refine hgo 20 [0] 0 _ _ _ _ _ ?_
      simp only [run_s, run_0, rM_blanks, rok_i, rok_z, bx_cons, bx_nil, eADD, eBP, eC1, eCV1, eDUPr, eGI, eGO, jICne, eLA0, ePI, eRV, fM_blanks_0, fM_blanks_13, fM_blanks_26, bM_blanks_0, bM_blanks_13, bM_blanks_26, ty_m, Option.toList_some, Option.toList_none, List.cons_append, List.nil_append, List.length_cons, List.length_nil, List.mem_cons, List.not_mem_nil, or_false, false_or, or_true, true_or, ↓reduceIte, true_and, and_true, Nat.reduceEqDiff, Nat.reduceAdd, Nat.reduceLeDiff, dl_i, dl_r, dl_n, dl_u, eq_self, not_true_eq_false, not_false_eq_true, n10, n01, nm0, n0m, imp_t, imp_f]
      rw [up_s]
      refine call0 (c_byteAt (n := n) ((up_n (by omega)).trans hn) hn6 (by omega) ?_)
      simp only [run_s, run_0, rM_blanks, rok_i, rok_z, bx_cons, bx_nil, eADD, eBP, eC1, eCV1, eDUPr, eGI, eGO, jICne, eLA0, ePI, eRV, fM_blanks_0, fM_blanks_13, fM_blanks_26, bM_blanks_0, bM_blanks_13, bM_blanks_26, ty_m, Option.toList_some, Option.toList_none, List.cons_append, List.nil_append, List.length_cons, List.length_nil, List.mem_cons, List.not_mem_nil, or_false, false_or, or_true, true_or, ↓reduceIte, true_and, and_true, Nat.reduceEqDiff, Nat.reduceAdd, Nat.reduceLeDiff, dl_i, dl_r, dl_n, dl_u, eq_self, not_true_eq_false, not_false_eq_true, n10, n01, nm0, n0m, imp_t, imp_f]
      rw [if_pos hbn, up_n (by omega)]
      have ht : tx I n b = I 500001 b := if_pos hbn
      refine ⟨fun q => ?_, fun q => ?_⟩
      · rw [← hs, sk_stop (by rw [ht]; exact q)] at h
        exact h
      · rw [up_s, up_up, nI_add]
        exact ih (b + 1) (by omega) (by omega) ((sk_step hbn (ht.trans q)).symm.trans hs)
  have h0 := loop (n - a) a rfl han rfl
  rw [up_self ha] at h0
  exact h0
end CM1
