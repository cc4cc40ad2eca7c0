/-! contracts of the class, 3: the tape -/
/-- the tape's reader at a, in a text T of length n -/
def TSt (T : Nat → Int32) (n : Nat) (I : Iv) (a : Nat) : Prop := xt I n = T ∧ By I ∧ I 1 2 = nI n ∧ n ≤ 600 ∧ I 1 3 = nI a ∧ a ≤ n
/-- at x, the token's first byte at s -/
def tp (I : Iv) (x s : Nat) : Iv := up (up I 1 3 (nI x)) 1 4 (nI s)
/-- and a fault k there -/
def tf (I : Iv) (x s k : Nat) : Iv := up (up (tp I x s) 1 5 (nI k)) 1 6 (nI s)
theorem tp_o {I : Iv} {x s i : Nat} (h : i ≠ 1) : tp I x s i = I i := by
  funext j
  unfold tp
  rw [up_n (by omega), up_n (by omega)]
theorem tp_f {I : Iv} {x s j : Nat} (h : j ≠ 3) (h4 : j ≠ 4) : tp I x s 1 j = I 1 j := by
  unfold tp
  rw [up_n (by omega), up_n (by omega)]
theorem tp_3 {I : Iv} {x s : Nat} : tp I x s 1 3 = nI x := by
  unfold tp
  rw [up_n (by omega), up_s]
theorem tp_4 {I : Iv} {x s : Nat} : tp I x s 1 4 = nI s := up_s
theorem tp_tp {I : Iv} {x s y t : Nat} : tp (tp I x s) y t = tp I y t := by
  unfold tp
  rw [up_com (i := 1) (j := 4) (i' := 1) (j' := 3) (by omega), up_up, up_up]
theorem tp_up3 {I : Iv} {x s y : Nat} : up (tp I x s) 1 3 (nI y) = tp I y s := by
  unfold tp
  rw [up_com (i := 1) (j := 4) (i' := 1) (j' := 3) (by omega), up_up]
theorem tf_tp {I : Iv} {x s k y t : Nat} : tf (tp I y t) x s k = tf I x s k := by
  unfold tf
  rw [tp_tp]
theorem tf_o {I : Iv} {x s k i : Nat} (h : i ≠ 1) : tf I x s k i = I i := by
  funext j
  unfold tf
  rw [up_n (by omega), up_n (by omega), tp_o h]
theorem tf_f {I : Iv} {x s k j : Nat} (h : j ≠ 3) (h4 : j ≠ 4) (h5 : j ≠ 5) (h6 : j ≠ 6) : tf I x s k 1 j = I 1 j := by
  unfold tf
  rw [up_n (by omega), up_n (by omega), tp_f h h4]
theorem tf_5 {I : Iv} {x s k : Nat} : tf I x s k 1 5 = nI k := by
  unfold tf
  rw [up_n (by omega), up_s]
theorem tf_6 {I : Iv} {x s k : Nat} : tf I x s k 1 6 = nI s := up_s
theorem xt_2 {I J : Iv} {n : Nat} (h : J 2 = I 2) : xt J n = xt I n := by
  funext k
  unfold xt
  rw [h]
theorem TSt.mv {T : Nat → Int32} {n a x : Nat} {I J : Iv} (h : TSt T n I a) (h2 : J 2 = I 2) (hl : J 1 2 = I 1 2) (h3 : J 1 3 = nI x) (hx : x ≤ n) : TSt T n J x :=
  ⟨by rw [xt_2 h2]; exact h.1, fun k hk => by rw [h2]; exact h.2.1 k hk, by rw [hl]; exact h.2.2.1, h.2.2.2.1, h3, hx⟩
theorem TSt.tp {T : Nat → Int32} {n a x s : Nat} {I : Iv} (h : TSt T n I a) (hx : x ≤ n) : TSt T n (tp I x s) x := h.mv (tp_o (by decide)) (tp_f (by decide) (by decide)) tp_3 hx
theorem TSt.mvo {T : Nat → Int32} {n a : Nat} {I J : Iv} (h : TSt T n I a) (h1 : J 1 = I 1) (h2 : J 2 = I 2) : TSt T n J a := h.mv h2 (by rw [h1]) (by rw [h1]; exact h.2.2.2.2.1) h.2.2.2.2.2
section XT
variable {Γ : Gm} {l : Launch} {b : Bool} {d : Nat} {I : Iv} {E : Ev} {kr : Kr} {kx : Kxx} {T : Nat → Int32} {n a : Nat}
theorem x_seek (h : TSt T n I a) (hk : kr none (tp I (sk T n a) (sk T n a)) E) : Ex Γ l (shB b) (d + 1) (0, 0) mTp_seek [.ref 1] I E kr kx := by
  obtain ⟨hT, hB, hn, hn6, ha, han⟩ := h
  refine ex_of (ls0 := [some (.ref 1)]) tTp_seek (by decide +kernel) kTp_seek rfl (Nat.le_of_ble_eq_true rfl) rfl ?_
  intro go hgo
  have loop : ∀ (f c : Nat), n - c = f → c ≤ n → sk T n c = sk T n a → go 0 [some (.ref 1)] [] (up I 1 3 (nI c)) E (0, 0) := by
    intro f
    induction f with
    | zero =>
      intro c hf hc hs
      have hcn : c = n := by omega
      subst hcn
      have e3 : up I 1 3 (nI c) 1 3 = nI c := up_s
      have e2 : up I 1 3 (nI c) 1 2 = nI c := by rw [up_n (by omega), hn]
      refine hgo 20 [0] 0 _ _ _ _ _ ?_
      simp only [ixr_of, run_s, run_0, rTp_seek, rok_i, rok_z, bx_cons, bx_nil, eADD, eBALD, eBP, eC1, eDUPr, eGI, eGO, eGR, jICge, jICne, eLA0, ePI, eRV, fTp_seek_0, fTp_seek_11, fTp_seek_25, fTp_seek_38, bTp_seek_0, bTp_seek_11, bTp_seek_25, bTp_seek_38, ln_xtape_bytes, rg_xtape_0, ty_xtape, ty_xtape_bytes, Option.toList_some, Option.toList_none, List.cons_append, List.nil_append, List.length_cons, List.length_nil, List.mem_cons, List.not_mem_nil, or_false, false_or, or_true, true_or, ↓reduceIte, true_and, and_true, Nat.reduceEqDiff, Nat.reduceAdd, Nat.reduceLeDiff, Nat.reduceLT, dl_i, dl_r, dl_n, dl_u, eq_self, not_true_eq_false, not_false_eq_true, n10, n01, nm0, n0m, e3, e2, imp_t, imp_f]
      refine ⟨fun _ => ?_, fun q => absurd (Int32.le_refl _) q⟩
      rw [← hs, sk_stop (by rw [← hT]; show ¬ xt I c c = _; rw [xt_Tx c (Nat.le_refl _)]; decide)] at hk
      exact hk
    | succ f ih =>
      intro c hf hc hs
      have hcn : c < n := by omega
      have c6 : c < 600 := by omega
      have e3 : up I 1 3 (nI c) 1 3 = nI c := up_s
      have e2 : up I 1 3 (nI c) 1 2 = nI n := by rw [up_n (by omega), hn]
      have e4 : up I 1 3 (nI c) 2 c = I 2 c := up_n (by omega)
      refine hgo 20 [0] 0 _ _ _ _ _ ?_
      simp only [ixr_of, run_s, run_0, rTp_seek, rok_i, rok_z, bx_cons, bx_nil, eADD, eBALD, eBP, eC1, eDUPr, eGI, eGO, eGR, jICge, jICne, eLA0, ePI, eRV, fTp_seek_0, fTp_seek_11, fTp_seek_25, fTp_seek_38, bTp_seek_0, bTp_seek_11, bTp_seek_25, bTp_seek_38, ln_xtape_bytes, rg_xtape_0, ty_xtape, ty_xtape_bytes, Option.toList_some, Option.toList_none, List.cons_append, List.nil_append, List.length_cons, List.length_nil, List.mem_cons, List.not_mem_nil, or_false, false_or, or_true, true_or, ↓reduceIte, true_and, and_true, Nat.reduceEqDiff, Nat.reduceAdd, Nat.reduceLeDiff, Nat.reduceLT, dl_i, dl_r, dl_n, dl_u, eq_self, not_true_eq_false, not_false_eq_true, n10, n01, nm0, n0m, e3, e2, c6, e4, imp_t, imp_f]
      rw [nIl (by omega) (by omega)]
      refine ⟨fun q => absurd q (by omega), fun _ => ⟨fun q => ?_, fun q => ?_⟩⟩
      · have q' : ¬ T c = nI 32 := fun e => q ((xt_eq hB hn6 hcn (by decide)).mpr (by rw [hT]; exact e))
        rw [← hs, sk_stop q'] at hk
        exact hk
      · have q' : T c = nI 32 := by rw [← hT]; exact (xt_eq hB hn6 hcn (by decide)).mp q
        rw [up_up, nI_add]
        exact ih (c + 1) (by omega) (by omega) ((sk_step hcn q').symm.trans hs)
  have h0 := loop (n - a) a rfl han rfl
  rw [up_self ha] at h0
  exact h0
theorem x_isEnded (h : TSt T n I a) (hk : kr (some (.int (bi (n ≤ sk T n a)))) (tp I (sk T n a) (sk T n a)) E) : Ex Γ l (shB b) (d + 2) (0, 0) mTp_isEnded [.ref 1] I E kr kx := by
  refine ex_of (ls0 := [some (.ref 1)]) tTp_isEnded (by decide +kernel) kTp_isEnded rfl (Nat.le_of_ble_eq_true rfl) rfl ?_
  intro go hgo
  have hs := sk_b (t := T) h.2.2.2.2.2
  have hn6 := h.2.2.2.1
  refine hgo 20 [] 0 _ _ _ _ _ ?_
  simp only [ixr_of, run_s, run_0, rTp_isEnded, rok_i, rok_z, bx_cons, bx_nil, eC0, eC1, eCV0, eGI, eGO, jIClt, eLA0, eRI, fTp_isEnded_0, fTp_isEnded_15, fTp_isEnded_19, fTp_isEnded_20, bTp_isEnded_0, bTp_isEnded_15, bTp_isEnded_19, bTp_isEnded_20, ln_xtape_bytes, rg_xtape_0, ty_xtape, ty_xtape_bytes, Option.toList_some, Option.toList_none, List.cons_append, List.nil_append, List.length_cons, List.length_nil, List.mem_cons, List.not_mem_nil, or_false, false_or, or_true, true_or, ↓reduceIte, true_and, and_true, Nat.reduceEqDiff, Nat.reduceAdd, Nat.reduceLeDiff, Nat.reduceLT, dl_i, dl_r, dl_n, dl_u, eq_self, not_true_eq_false, not_false_eq_true, n10, n01, nm0, n0m, imp_t, imp_f]
  refine call0 (x_seek h ?_)
  have e2 : tp I (sk T n a) (sk T n a) 1 2 = nI n := by rw [tp_f (by decide) (by decide)]; exact h.2.2.1
  simp only [ixr_of, run_s, run_0, rTp_isEnded, rok_i, rok_z, bx_cons, bx_nil, eC0, eC1, eCV0, eGI, eGO, jIClt, eLA0, eRI, fTp_isEnded_0, fTp_isEnded_15, fTp_isEnded_19, fTp_isEnded_20, bTp_isEnded_0, bTp_isEnded_15, bTp_isEnded_19, bTp_isEnded_20, ln_xtape_bytes, rg_xtape_0, ty_xtape, ty_xtape_bytes, Option.toList_some, Option.toList_none, List.cons_append, List.nil_append, List.length_cons, List.length_nil, List.mem_cons, List.not_mem_nil, or_false, false_or, or_true, true_or, ↓reduceIte, true_and, and_true, Nat.reduceEqDiff, Nat.reduceAdd, Nat.reduceLeDiff, Nat.reduceLT, dl_i, dl_r, dl_n, dl_u, eq_self, not_true_eq_false, not_false_eq_true, n10, n01, nm0, n0m, tp_3, e2, imp_t, imp_f]
  rw [nIs (by omega) (by omega)]
  refine ⟨fun q => ?_, fun q => ?_⟩
  · rw [bi_f (by omega)] at hk; exact hk
  · rw [bi_t (by omega)] at hk; exact hk
theorem x_fails {x s k : Nat} (hk : kr (some (.int (nI 0))) (tf I x s k) E) : Ex Γ l (shB b) (d + 1) (0, 0) mTp_fails [.ref 1, .int (nI k)] (tp I x s) E kr kx := by
  refine ex_of (ls0 := [some (.ref 1), some (.int (nI k))]) tTp_fails (by decide +kernel) kTp_fails rfl (Nat.le_of_ble_eq_true rfl) rfl ?_
  intro go hgo
  refine hgo 20 [] 0 _ _ _ _ _ ?_
  have e4 : up (tp I x s) 1 5 (nI k) 1 4 = nI s := by rw [up_n (by omega), tp_4]
  simp only [ixr_of, run_s, run_0, rTp_fails, rok_i, rok_z, bx_cons, bx_nil, eC0, eGI, eLA0, eLI1, ePI, eRI, fTp_fails_0, bTp_fails_0, ln_xtape_bytes, rg_xtape_0, ty_xtape, ty_xtape_bytes, Option.toList_some, Option.toList_none, List.cons_append, List.nil_append, List.length_cons, List.length_nil, List.mem_cons, List.not_mem_nil, or_false, false_or, or_true, true_or, ↓reduceIte, true_and, and_true, Nat.reduceEqDiff, Nat.reduceAdd, Nat.reduceLeDiff, Nat.reduceLT, dl_i, dl_r, dl_n, dl_u, eq_self, not_true_eq_false, not_false_eq_true, n10, n01, nm0, n0m, e4, imp_t, imp_f]
  exact hk
theorem x_sign {c : Nat} (h : TSt T n I a) (hc : c < 128) (hy : T (sk T n a) = nI c → kr (some (.int (nI 1))) (tp I (sk T n a + 1) (sk T n a)) E) (hn' : ¬ T (sk T n a) = nI c → kr (some (.int (nI 0))) (tp I (sk T n a) (sk T n a)) E) : Ex Γ l (shB b) (d + 2) (0, 0) mTp_sign [.ref 1, .int (nI c)] I E kr kx := by
  refine ex_of (ls0 := [some (.ref 1), some (.int (nI c))]) tTp_sign (by decide +kernel) kTp_sign rfl (Nat.le_of_ble_eq_true rfl) rfl ?_
  intro go hgo
  have hs := sk_b (t := T) h.2.2.2.2.2
  obtain ⟨hT, hB, hn, hn6, ha, han⟩ := h
  refine hgo 20 [] 0 _ _ _ _ _ ?_
  simp only [ixr_of, run_s, run_0, rTp_sign, rok_i, rok_z, bx_cons, bx_nil, eADD, eBALD, eC0, eC1, eCV0, eDUPr, eGI, eGR, jICge, jICne, eLA0, eLI1, ePI, eRI, fTp_sign_0, fTp_sign_15, fTp_sign_28, fTp_sign_40, bTp_sign_0, bTp_sign_15, bTp_sign_28, bTp_sign_40, ln_xtape_bytes, rg_xtape_0, ty_xtape, ty_xtape_bytes, Option.toList_some, Option.toList_none, List.cons_append, List.nil_append, List.length_cons, List.length_nil, List.mem_cons, List.not_mem_nil, or_false, false_or, or_true, true_or, ↓reduceIte, true_and, and_true, Nat.reduceEqDiff, Nat.reduceAdd, Nat.reduceLeDiff, Nat.reduceLT, dl_i, dl_r, dl_n, dl_u, eq_self, not_true_eq_false, not_false_eq_true, n10, n01, nm0, n0m, imp_t, imp_f]
  refine call0 (x_seek ⟨hT, hB, hn, hn6, ha, han⟩ ?_)
  have e2 : tp I (sk T n a) (sk T n a) 1 2 = nI n := by rw [tp_f (by decide) (by decide)]; exact hn
  obtain ⟨x, hx⟩ : ∃ x, x = sk T n a := ⟨_, rfl⟩
  rw [← hx] at hs hy hn' e2 ⊢
  simp only [ixr_of, run_s, run_0, rTp_sign, rok_i, rok_z, bx_cons, bx_nil, eADD, eBALD, eC0, eC1, eCV0, eDUPr, eGI, eGR, jICge, jICne, eLA0, eLI1, ePI, eRI, fTp_sign_0, fTp_sign_15, fTp_sign_28, fTp_sign_40, bTp_sign_0, bTp_sign_15, bTp_sign_28, bTp_sign_40, ln_xtape_bytes, rg_xtape_0, ty_xtape, ty_xtape_bytes, Option.toList_some, Option.toList_none, List.cons_append, List.nil_append, List.length_cons, List.length_nil, List.mem_cons, List.not_mem_nil, or_false, false_or, or_true, true_or, ↓reduceIte, true_and, and_true, Nat.reduceEqDiff, Nat.reduceAdd, Nat.reduceLeDiff, Nat.reduceLT, dl_i, dl_r, dl_n, dl_u, eq_self, not_true_eq_false, not_false_eq_true, n10, n01, nm0, n0m, tp_3, e2, imp_t, imp_f]
  rw [nIl (by omega) (by omega)]
  refine ⟨fun q => ?_, fun q => ixr_n (by omega) ?_⟩
  · refine hn' (fun e => ?_)
    rw [← hT, xt_Tx x q] at e
    have : ∀ c, c < 128 → ¬ (-1 : Int32) = nI c := by decide +kernel
    exact this c hc e
  · have hxn : x < n := by omega
    have e4 : tp I x x 2 x = I 2 x := by rw [tp_o (by decide)]
    rw [e4]
    refine ⟨fun q => hn' (fun e => q ((xt_eq hB hn6 hxn hc).mpr (by rw [hT]; exact e))), fun q => ?_⟩
    rw [nI_add, tp_up3]
    exact hy (by rw [← hT]; exact (xt_eq hB hn6 hxn hc).mp q)
theorem x_needSign {c : Nat} (h : TSt T n I a) (hc : c < 128) (hy : T (sk T n a) = nI c → kr (some (.int (nI 1))) (tp I (sk T n a + 1) (sk T n a)) E) (hn' : ¬ T (sk T n a) = nI c → kr (some (.int (nI 0))) (tf I (sk T n a) (sk T n a) 1) E) : Ex Γ l (shB b) (d + 3) (0, 0) mTp_needSign [.ref 1, .int (nI c)] I E kr kx := by
  refine ex_of (ls0 := [some (.ref 1), some (.int (nI c))]) tTp_needSign (by decide +kernel) kTp_needSign rfl (Nat.le_of_ble_eq_true rfl) rfl ?_
  intro go hgo
  refine hgo 20 [] 0 _ _ _ _ _ ?_
  simp only [ixr_of, run_s, run_0, rTp_needSign, rok_i, rok_z, bx_cons, bx_nil, eC0, eC1, eCV1, eGO, jIFeq, jIFne, eLA0, eLI1, eRI, fTp_needSign_0, fTp_needSign_8, fTp_needSign_16, fTp_needSign_20, fTp_needSign_21, bTp_needSign_0, bTp_needSign_8, bTp_needSign_16, bTp_needSign_20, bTp_needSign_21, ln_xtape_bytes, rg_xtape_0, ty_xtape, ty_xtape_bytes, Option.toList_some, Option.toList_none, List.cons_append, List.nil_append, List.length_cons, List.length_nil, List.mem_cons, List.not_mem_nil, or_false, false_or, or_true, true_or, ↓reduceIte, true_and, and_true, Nat.reduceEqDiff, Nat.reduceAdd, Nat.reduceLeDiff, Nat.reduceLT, dl_i, dl_r, dl_n, dl_u, eq_self, not_true_eq_false, not_false_eq_true, n10, n01, nm0, n0m, imp_t, imp_f]
  refine call0 (x_sign h hc (fun q => ?_) (fun q => ?_))
  · simp only [ixr_of, run_s, run_0, rTp_needSign, rok_i, rok_z, bx_cons, bx_nil, eC0, eC1, eCV1, eGO, jIFeq, jIFne, eLA0, eLI1, eRI, fTp_needSign_0, fTp_needSign_8, fTp_needSign_16, fTp_needSign_20, fTp_needSign_21, bTp_needSign_0, bTp_needSign_8, bTp_needSign_16, bTp_needSign_20, bTp_needSign_21, ln_xtape_bytes, rg_xtape_0, ty_xtape, ty_xtape_bytes, Option.toList_some, Option.toList_none, List.cons_append, List.nil_append, List.length_cons, List.length_nil, List.mem_cons, List.not_mem_nil, or_false, false_or, or_true, true_or, ↓reduceIte, true_and, and_true, Nat.reduceEqDiff, Nat.reduceAdd, Nat.reduceLeDiff, Nat.reduceLT, dl_i, dl_r, dl_n, dl_u, eq_self, not_true_eq_false, not_false_eq_true, n10, n01, nm0, n0m, imp_t, imp_f]
    exact hy q
  · simp only [ixr_of, run_s, run_0, rTp_needSign, rok_i, rok_z, bx_cons, bx_nil, eC0, eC1, eCV1, eGO, jIFeq, jIFne, eLA0, eLI1, eRI, fTp_needSign_0, fTp_needSign_8, fTp_needSign_16, fTp_needSign_20, fTp_needSign_21, bTp_needSign_0, bTp_needSign_8, bTp_needSign_16, bTp_needSign_20, bTp_needSign_21, ln_xtape_bytes, rg_xtape_0, ty_xtape, ty_xtape_bytes, Option.toList_some, Option.toList_none, List.cons_append, List.nil_append, List.length_cons, List.length_nil, List.mem_cons, List.not_mem_nil, or_false, false_or, or_true, true_or, ↓reduceIte, true_and, and_true, Nat.reduceEqDiff, Nat.reduceAdd, Nat.reduceLeDiff, Nat.reduceLT, dl_i, dl_r, dl_n, dl_u, eq_self, not_true_eq_false, not_false_eq_true, n10, n01, nm0, n0m, imp_t, imp_f]
    refine call0 (x_fails (k := 1) ?_)
    simp only [ixr_of, run_s, run_0, rTp_needSign, rok_i, rok_z, bx_cons, bx_nil, eC0, eC1, eCV1, eGO, jIFeq, jIFne, eLA0, eLI1, eRI, fTp_needSign_0, fTp_needSign_8, fTp_needSign_16, fTp_needSign_20, fTp_needSign_21, bTp_needSign_0, bTp_needSign_8, bTp_needSign_16, bTp_needSign_20, bTp_needSign_21, ln_xtape_bytes, rg_xtape_0, ty_xtape, ty_xtape_bytes, Option.toList_some, Option.toList_none, List.cons_append, List.nil_append, List.length_cons, List.length_nil, List.mem_cons, List.not_mem_nil, or_false, false_or, or_true, true_or, ↓reduceIte, true_and, and_true, Nat.reduceEqDiff, Nat.reduceAdd, Nat.reduceLeDiff, Nat.reduceLT, dl_i, dl_r, dl_n, dl_u, eq_self, not_true_eq_false, not_false_eq_true, n10, n01, nm0, n0m, imp_t, imp_f]
    exact hn' q
theorem x_isDigit (h : TSt T n I a) (hk : kr (some (.int (bi (nI 48 ≤ T a ∧ T a ≤ nI 57)))) I E) : Ex Γ l (shB b) (d + 1) (0, 0) mTp_isDigit [.ref 1] I E kr kx := by
  refine ex_of (ls0 := [some (.ref 1)]) tTp_isDigit (by decide +kernel) kTp_isDigit rfl (Nat.le_of_ble_eq_true rfl) rfl ?_
  intro go hgo
  obtain ⟨hT, hB, hn, hn6, ha, han⟩ := h
  refine hgo 20 [] 0 _ _ _ _ _ ?_
  simp only [ixr_of, run_s, run_0, rTp_isDigit, rok_i, rok_z, bx_cons, bx_nil, eBALD, eBP, eC0, eC1, eGI, eGO, eGR, jICge, jICgt, jIClt, eLA0, eRI, fTp_isDigit_0, fTp_isDigit_11, fTp_isDigit_25, fTp_isDigit_39, fTp_isDigit_43, fTp_isDigit_44, bTp_isDigit_0, bTp_isDigit_11, bTp_isDigit_25, bTp_isDigit_39, bTp_isDigit_43, bTp_isDigit_44, ln_xtape_bytes, rg_xtape_0, ty_xtape, ty_xtape_bytes, Option.toList_some, Option.toList_none, List.cons_append, List.nil_append, List.length_cons, List.length_nil, List.mem_cons, List.not_mem_nil, or_false, false_or, or_true, true_or, ↓reduceIte, true_and, and_true, Nat.reduceEqDiff, Nat.reduceAdd, Nat.reduceLeDiff, Nat.reduceLT, dl_i, dl_r, dl_n, dl_u, eq_self, not_true_eq_false, not_false_eq_true, n10, n01, nm0, n0m, ha, hn, imp_t, imp_f]
  rw [nIl (by omega) (by omega)]
  refine ⟨fun q => ?_, fun q => ixr_n (by omega) ?_⟩
  · rw [bi_f (by rw [← hT, xt_Tx a q]; decide)] at hk
    exact hk
  · have han' : a < n := by omega
    have hr := xt_r hB hn6 han' (lo := 48) (hi := 57) (by decide) (by decide)
    rw [hT] at hr
    refine ⟨fun c => ?_, fun c => ixr_n (by omega) ⟨fun c2 => ?_, fun c2 => ?_⟩⟩
    · rw [bi_f (fun q => i32_nle.mpr c (hr.mpr q).1)] at hk; exact hk
    · rw [bi_f (fun q => i32_nle.mpr c2 (hr.mpr q).2)] at hk; exact hk
    · rw [bi_t (hr.mp ⟨i32_nlt.mp c, i32_nlt.mp c2⟩)] at hk; exact hk
end XT
