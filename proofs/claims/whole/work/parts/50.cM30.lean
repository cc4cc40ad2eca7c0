/-! contracts of HerbWatersModel, 29: any text; the book -/
def RSt (T : Nat → Int32) (n : Nat) (I : Iv) (a : Nat) : Prop := tx I n = T ∧ I 500000 2 = nI n ∧ (n ≤ 600 ∧ I 500000 6 = -1) ∧ I 500000 4 = nI a ∧ a ≤ n ∧ I 500000 5 = nI 0
def Fq (I J : Iv) : Prop := (∀ i, i ≠ 500000 → J i = I i) ∧ ∀ j, j ≠ 4 → j ≠ 5 → j ≠ 6 → J 500000 j = I 500000 j
theorem Fq.rf {I : Iv} : Fq I I := ⟨fun _ _ => rfl, fun _ _ _ _ => rfl⟩
theorem Fq.tr {I J K : Iv} (h : Fq I J) (h2 : Fq J K) : Fq I K := ⟨fun i a => (h2.1 i a).trans (h.1 i a), fun j a b c => (h2.2 j a b c).trans (h.2 j a b c)⟩
theorem Fq.fl {I : Iv} {j : Nat} {x : Int32} (h : j = 4 ∨ j = 5 ∨ j = 6) : Fq I (up I 500000 j x) := ⟨fun i a => by funext q; exact up_n (by omega), fun q a b c => up_n (by omega)⟩
theorem fq3 {I : Iv} {x y z : Int32} : Fq I (up (up (up I 500000 4 x) 500000 5 y) 500000 6 z) := ((Fq.fl (by decide)).tr (Fq.fl (by decide))).tr (Fq.fl (by decide))
theorem RSt.at {T : Nat → Int32} {n : Nat} {I : Iv} {a x : Nat} (h : RSt T n I a) (hx : x ≤ n) : RSt T n (up I 500000 4 (nI x)) x := by
  obtain ⟨h1, h2, h3, h4, h5, h6⟩ := h
  exact ⟨by rw [tx_fl, h1], by rw [up_n (by decide), h2], ⟨h3.1, by rw [up_n (by decide), h3.2]⟩, up_s, hx, by rw [up_n (by decide), h6]⟩
/-- cells and fields that a reader of text does not look at -/
theorem RSt.mv {T : Nat → Int32} {n : Nat} {I J : Iv} {a : Nat} (h : RSt T n I a) (h1 : J 500001 = I 500001) (h2 : ∀ j, j = 2 ∨ j = 4 ∨ j = 5 ∨ j = 6 → J 500000 j = I 500000 j) : RSt T n J a := by
  obtain ⟨g1, g2, g3, g4, g5, g6⟩ := h
  refine ⟨?_, by rw [h2 _ (by decide), g2], ⟨g3.1, by rw [h2 _ (by decide), g3.2]⟩, by rw [h2 _ (by decide), g4], g5, by rw [h2 _ (by decide), g6]⟩
  rw [← g1]
  unfold tx
  rw [h1]
theorem OEr.mv {n : Nat} {I J : Iv} {e : Nat × Nat} (h : OEr n I e) (h2 : ∀ j, j = 4 ∨ j = 5 ∨ j = 6 → J 500000 j = I 500000 j) : OEr n J e := ⟨by rw [h2 _ (by decide)]; exact h.1, by rw [h2 _ (by decide)]; exact h.2.1, h.2.2.1, h.2.2.2.1, by rw [h2 _ (by decide)]; exact h.2.2.2.2⟩
section CM30
variable {Γ : Gm} {l : Launch} {d : Nat} {I : Iv} {E : Ev} {kr : Kr} {kx : Kxx} {T : Nat → Int32} {n a : Nat}
theorem RSt.atq {J : Iv} (h : RSt T n J a) : J 500000 4 = nI a := h.2.2.2.1
theorem r_blanks (h : RSt T n I a) (hk : ∀ J, J = up I 500000 4 (nI (sk T n a)) → RSt T n J (sk T n a) → kr none J E) : Ex Γ l shN (d + 2) (0, 0) mM_blanks [.ref 500000] I E kr kx := by
  have h' := h
  obtain ⟨h1, h2, h3, h4, h5, h6⟩ := h'
  refine c_blanks (n := n) h2 h3.1 h4 h5 ?_
  rw [h1]
  exact hk _ rfl (h.at (sk_b h5).2)
theorem r_isWord {x1 x2 x3 x4 x5 x6 x7 : Int32} (h : RSt T n I a) (hk : ∀ J, J = up I 500000 4 (nI (sk T n a)) → RSt T n J (sk T n a) → kr (some (.int (bi (wcode T n (sk T n a) = sevenL x1 x2 x3 x4 x5 x6 x7)))) J E) : Ex Γ l shN (d + 4) (0, 0) mM_isWord [.ref 500000, .int x1, .int x2, .int x3, .int x4, .int x5, .int x6, .int x7] I E kr kx := by
  have h' := h
  obtain ⟨h1, h2, h3, h4, h5, h6⟩ := h'
  refine c_isWord (n := n) h2 h3.1 h4 h5 (fun c => absurd h6 c) (fun _ => ?_)
  rw [h1]
  exact hk _ rfl (h.at (sk_b h5).2)
theorem r_takes {x1 x2 x3 x4 x5 x6 x7 : Int32} (h : RSt T n I a)
    (hy : wcode T n (sk T n a) = sevenL x1 x2 x3 x4 x5 x6 x7 → ∀ J, J = up I 500000 4 (nI (wEnd T n (sk T n a))) → RSt T n J (wEnd T n (sk T n a)) → kr (some (.int (nI 1))) J E)
    (hn' : ¬ wcode T n (sk T n a) = sevenL x1 x2 x3 x4 x5 x6 x7 → ∀ J, J = up I 500000 4 (nI (sk T n a)) → RSt T n J (sk T n a) → kr (some (.int (nI 0))) J E) : Ex Γ l shN (d + 5) (0, 0) mM_takes [.ref 500000, .int x1, .int x2, .int x3, .int x4, .int x5, .int x6, .int x7] I E kr kx := by
  have h' := h
  obtain ⟨h1, h2, h3, h4, h5, h6⟩ := h'
  have hs := sk_b (t := T) h5
  have hw := rn_b (t := T) (lo := nI 97) (hi := nI 122) hs.2
  refine c_takes (n := n) h2 h3.1 h4 h5 (fun c => absurd h6 c) (fun _ => ?_) (fun _ => ?_) <;> rw [h1]
  · exact fun q => hy q _ rfl (h.at hw.2)
  · exact fun q => hn' q _ rfl (h.at hs.2)
theorem r_sign {c : Int32} (hT : Tx T n) (h : RSt T n I a) (hc : ¬ c = -1) (ho : ∀ b J, sgS T n c a = .ok (b, []) → Fq I J → RSt T n J b → kr none J E) (he : ∀ e J, sgS T n c a = .error e → Fq I J → OEr n J e → kr none J E) : Ex Γ l shN (d + 3) (0, 0) mM_sign [.ref 500000, .int c] I E kr kx := by
  have h' := h
  obtain ⟨h1, h2, h3, h4, h5, h6⟩ := h'
  have hs := sk_b (t := T) h5
  refine c_sign (n := n) h2 h3.1 h4 h5 hc (fun c => absurd h6 c) (fun _ => ?_) (fun _ => ?_) <;> rw [h1] <;> intro q
  · have := hT.lt hc q
    exact ho _ _ (by unfold sgS; rw [if_pos q]) (Fq.fl (by decide)) (h.at (by omega))
  · exact he (1, sk T n a) _ (by unfold sgS; rw [if_neg q]) fq3 (er1 (by decide) (by decide) hs.2)
theorem r_number {lo hi : Int32} (hT : Tx T n) (h : RSt T n I a) (ho : nmF T n a lo hi = 0 → ∀ J, Fq I J → RSt T n J (nmE T n a) → kr (some (.int (nmV T n a))) J E) (he : ¬ nmF T n a lo hi = 0 → ∀ J, Fq I J → OEr n J (nmF T n a lo hi, sk T n a) → kr (some (.int (nI 0))) J E) : Ex Γ l shN (d + 3) (0, 0) mM_number [.ref 500000, .int lo, .int hi] I E kr kx := by
  have h' := h
  obtain ⟨h1, h2, h3, h4, h5, h6⟩ := h'
  refine c_number (n := n) h2 h3.1 h4 h5 (fun c => absurd h6 c) (fun _ => ?_) (fun _ => ?_) <;> rw [h1] <;> intro q
  · exact ho q _ (Fq.fl (by decide)) (h.at (nm_lt hT h5 q).2)
  · have := nmF_v (T := T) (n := n) (a := a) (lo := lo) (hi := hi)
    exact he q _ fq3 (er1 (by omega) (by omega) (rn_b (sk_b h5).2).2)
theorem r_skipWord (h : RSt T n I a) (hk : ∀ J, Fq I J → RSt T n J (wEnd T n a) → kr none J E) : Ex Γ l shN (d + 2) (0, 0) mM_skipWord [.ref 500000] I E kr kx := by
  have h' := h
  obtain ⟨h1, h2, h3, h4, h5, h6⟩ := h'
  have hw := rn_b (t := T) (lo := nI 97) (hi := nI 122) h5
  refine c_skipWord (n := n) h2 h3.1 h4 h5 ?_
  rw [h1]
  exact hk _ (Fq.fl (by decide)) (h.at hw.2)
theorem r_wrong {w b : Nat} (h : RSt T n I a) (hw : 1 ≤ w) (hw4 : w ≤ 4) (hk : ∀ J, Fq I J → OEr n J (w, b) → kr none J E) : Ex Γ l shN (d + 1) (0, 0) mM_wrong [.ref 500000, .int (nI w), .int (nI b)] I E kr kx := by
  obtain ⟨h1, h2, h3, h4, h5, h6⟩ := h
  refine c_wrong ?_
  rw [if_pos h6]
  exact hk _ ((Fq.fl (by decide)).tr (Fq.fl (by decide))) ⟨by rw [up_n (by decide), up_s], up_s, hw, hw4, a, h5, by rw [up_n (by decide), up_n (by decide), h4]⟩
theorem f_number {lo hi : Int32} (h : ¬ I 500000 5 = nI 0) (hk : kr (some (.int (nI 0))) I E) : Ex Γ l shN (d + 1) (0, 0) mM_number [.ref 500000, .int lo, .int hi] I E kr kx := by
  refine ex_of (ls0 := [some (.ref 500000), some (.int lo), some (.int hi), none, none]) tM_number (by decide +kernel) kM_number rfl (Nat.le_of_ble_eq_true rfl) rfl ?_
  intro go hgo
  refine hgo 20 [9] 0 _ _ _ _ _ ?_
  simp only [ixr_of, run_s, run_0, rM_number, rok_i, rok_z, bx_cons, bx_nil, eADD, eBP, eC0, eC1, eC2, eCS1, eCS3, eCV0, eCV1, eCV2, eDUPr, eGI, eGO, jICle, jIFeq, jIFne, eLA0, eLDC, eLI1, eLI2, eLI3, eLI4, eMUL, ePI, eRI, eSI3, eSI4, eSUB, fM_number_0, fM_number_7, fM_number_9, fM_number_35, fM_number_44, fM_number_58, fM_number_84, fM_number_89, fM_number_91, fM_number_106, fM_number_116, fM_number_122, fM_number_129, fM_number_134, fM_number_135, bM_number_0, bM_number_7, bM_number_9, bM_number_35, bM_number_44, bM_number_58, bM_number_84, bM_number_89, bM_number_91, bM_number_106, bM_number_116, bM_number_122, bM_number_129, bM_number_134, bM_number_135, ty_m, Option.toList_some, Option.toList_none, List.cons_append, List.nil_append, List.length_cons, List.length_nil, List.mem_cons, List.not_mem_nil, or_false, false_or, or_true, true_or, ↓reduceIte, true_and, and_true, Nat.reduceEqDiff, Nat.reduceAdd, Nat.reduceLeDiff, Nat.reduceLT, dl_i, dl_r, dl_n, dl_u, eq_self, not_true_eq_false, not_false_eq_true, n10, n01, nm0, n0m, imp_t, imp_f]
  exact ⟨fun q => absurd q h, fun _ => hk⟩
theorem r_herbHere (h : RSt T n I a) (hy : ∀ hb, hbW (wcode T n (sk T n a)) = hb → hb < 3 → ∀ J, Fq I J → RSt T n J (wEnd T n (sk T n a)) → kr (some (.int (nI hb))) J E) (hn' : ¬ hbW (wcode T n (sk T n a)) < 3 → ∀ J, Fq I J → RSt T n J (sk T n a) → kr (some (.int (-1))) J E) : Ex Γ l shN (d + 6) (0, 0) mM_herbHere [.ref 500000] I E kr kx := by
  have skk : sk T n (sk T n a) = sk T n a := sk_sk h.2.2.2.2.1
  refine ex_of (ls0 := [some (.ref 500000)]) tM_herbHere (by decide +kernel) kM_herbHere rfl (Nat.le_of_ble_eq_true rfl) rfl ?_
  intro go hgo
  refine hgo 20 [] 0 _ _ _ _ _ ?_
  simp only [ixr_of, run_s, run_0, rM_herbHere, rok_i, rok_z, bx_cons, bx_nil, eBP, eC0, eC1, eC2, eC5, eCV7, eCm1, eGO, jIFeq, eLA0, eRI, fM_herbHere_0, fM_herbHere_18, fM_herbHere_22, fM_herbHere_38, fM_herbHere_42, fM_herbHere_58, fM_herbHere_62, fM_herbHere_63, bM_herbHere_0, bM_herbHere_18, bM_herbHere_22, bM_herbHere_38, bM_herbHere_42, bM_herbHere_58, bM_herbHere_62, bM_herbHere_63, ty_m, Option.toList_some, Option.toList_none, List.cons_append, List.nil_append, List.length_cons, List.length_nil, List.mem_cons, List.not_mem_nil, or_false, false_or, or_true, true_or, ↓reduceIte, true_and, and_true, Nat.reduceEqDiff, Nat.reduceAdd, Nat.reduceLeDiff, Nat.reduceLT, dl_i, dl_r, dl_n, dl_u, eq_self, not_true_eq_false, not_false_eq_true, n10, n01, nm0, n0m, imp_t, imp_f]
  refine call0 (r_takes h (fun q J hJ hO => ?_) (fun q J hJ hO => ?_))
  · simp only [ixr_of, run_s, run_0, rM_herbHere, rok_i, rok_z, bx_cons, bx_nil, eBP, eC0, eC1, eC2, eC5, eCV7, eCm1, eGO, jIFeq, eLA0, eRI, fM_herbHere_0, fM_herbHere_18, fM_herbHere_22, fM_herbHere_38, fM_herbHere_42, fM_herbHere_58, fM_herbHere_62, fM_herbHere_63, bM_herbHere_0, bM_herbHere_18, bM_herbHere_22, bM_herbHere_38, bM_herbHere_42, bM_herbHere_58, bM_herbHere_62, bM_herbHere_63, ty_m, Option.toList_some, Option.toList_none, List.cons_append, List.nil_append, List.length_cons, List.length_nil, List.mem_cons, List.not_mem_nil, or_false, false_or, or_true, true_or, ↓reduceIte, true_and, and_true, Nat.reduceEqDiff, Nat.reduceAdd, Nat.reduceLeDiff, Nat.reduceLT, dl_i, dl_r, dl_n, dl_u, eq_self, not_true_eq_false, not_false_eq_true, n10, n01, nm0, n0m, imp_t, imp_f]
    exact hy 0 (by unfold hbW; rw [if_pos (show wcode T n (sk T n a) = w_mint from q)]) (by decide) J (by rw [hJ]; exact Fq.fl (by decide)) hO
  · have q : ¬ wcode T n (sk T n a) = w_mint := q
    simp only [ixr_of, run_s, run_0, rM_herbHere, rok_i, rok_z, bx_cons, bx_nil, eBP, eC0, eC1, eC2, eC5, eCV7, eCm1, eGO, jIFeq, eLA0, eRI, fM_herbHere_0, fM_herbHere_18, fM_herbHere_22, fM_herbHere_38, fM_herbHere_42, fM_herbHere_58, fM_herbHere_62, fM_herbHere_63, bM_herbHere_0, bM_herbHere_18, bM_herbHere_22, bM_herbHere_38, bM_herbHere_42, bM_herbHere_58, bM_herbHere_62, bM_herbHere_63, ty_m, Option.toList_some, Option.toList_none, List.cons_append, List.nil_append, List.length_cons, List.length_nil, List.mem_cons, List.not_mem_nil, or_false, false_or, or_true, true_or, ↓reduceIte, true_and, and_true, Nat.reduceEqDiff, Nat.reduceAdd, Nat.reduceLeDiff, Nat.reduceLT, dl_i, dl_r, dl_n, dl_u, eq_self, not_true_eq_false, not_false_eq_true, n10, n01, nm0, n0m, imp_t, imp_f]
    refine call0 (r_takes hO (fun q2 K hK hO2 => ?_) (fun q2 K hK hO2 => ?_)) <;> rw [skk] at q2 hK hO2
    · simp only [ixr_of, run_s, run_0, rM_herbHere, rok_i, rok_z, bx_cons, bx_nil, eBP, eC0, eC1, eC2, eC5, eCV7, eCm1, eGO, jIFeq, eLA0, eRI, fM_herbHere_0, fM_herbHere_18, fM_herbHere_22, fM_herbHere_38, fM_herbHere_42, fM_herbHere_58, fM_herbHere_62, fM_herbHere_63, bM_herbHere_0, bM_herbHere_18, bM_herbHere_22, bM_herbHere_38, bM_herbHere_42, bM_herbHere_58, bM_herbHere_62, bM_herbHere_63, ty_m, Option.toList_some, Option.toList_none, List.cons_append, List.nil_append, List.length_cons, List.length_nil, List.mem_cons, List.not_mem_nil, or_false, false_or, or_true, true_or, ↓reduceIte, true_and, and_true, Nat.reduceEqDiff, Nat.reduceAdd, Nat.reduceLeDiff, Nat.reduceLT, dl_i, dl_r, dl_n, dl_u, eq_self, not_true_eq_false, not_false_eq_true, n10, n01, nm0, n0m, imp_t, imp_f]
      exact hy 1 (by unfold hbW; rw [if_neg q, if_pos (show wcode T n (sk T n a) = w_rue from q2)]) (by decide) K (by rw [hK, hJ]; exact (Fq.fl (by decide)).tr (Fq.fl (by decide))) hO2
    · have q2 : ¬ wcode T n (sk T n a) = w_rue := q2
      simp only [ixr_of, run_s, run_0, rM_herbHere, rok_i, rok_z, bx_cons, bx_nil, eBP, eC0, eC1, eC2, eC5, eCV7, eCm1, eGO, jIFeq, eLA0, eRI, fM_herbHere_0, fM_herbHere_18, fM_herbHere_22, fM_herbHere_38, fM_herbHere_42, fM_herbHere_58, fM_herbHere_62, fM_herbHere_63, bM_herbHere_0, bM_herbHere_18, bM_herbHere_22, bM_herbHere_38, bM_herbHere_42, bM_herbHere_58, bM_herbHere_62, bM_herbHere_63, ty_m, Option.toList_some, Option.toList_none, List.cons_append, List.nil_append, List.length_cons, List.length_nil, List.mem_cons, List.not_mem_nil, or_false, false_or, or_true, true_or, ↓reduceIte, true_and, and_true, Nat.reduceEqDiff, Nat.reduceAdd, Nat.reduceLeDiff, Nat.reduceLT, dl_i, dl_r, dl_n, dl_u, eq_self, not_true_eq_false, not_false_eq_true, n10, n01, nm0, n0m, imp_t, imp_f]
      refine call0 (r_takes hO2 (fun q3 M hM hO3 => ?_) (fun q3 M hM hO3 => ?_)) <;> rw [skk] at q3 hM hO3
      · simp only [ixr_of, run_s, run_0, rM_herbHere, rok_i, rok_z, bx_cons, bx_nil, eBP, eC0, eC1, eC2, eC5, eCV7, eCm1, eGO, jIFeq, eLA0, eRI, fM_herbHere_0, fM_herbHere_18, fM_herbHere_22, fM_herbHere_38, fM_herbHere_42, fM_herbHere_58, fM_herbHere_62, fM_herbHere_63, bM_herbHere_0, bM_herbHere_18, bM_herbHere_22, bM_herbHere_38, bM_herbHere_42, bM_herbHere_58, bM_herbHere_62, bM_herbHere_63, ty_m, Option.toList_some, Option.toList_none, List.cons_append, List.nil_append, List.length_cons, List.length_nil, List.mem_cons, List.not_mem_nil, or_false, false_or, or_true, true_or, ↓reduceIte, true_and, and_true, Nat.reduceEqDiff, Nat.reduceAdd, Nat.reduceLeDiff, Nat.reduceLT, dl_i, dl_r, dl_n, dl_u, eq_self, not_true_eq_false, not_false_eq_true, n10, n01, nm0, n0m, imp_t, imp_f]
        exact hy 2 (by unfold hbW; rw [if_neg q, if_neg q2, if_pos (show wcode T n (sk T n a) = w_sage from q3)]) (by decide) M (by rw [hM, hK, hJ]; exact ((Fq.fl (by decide)).tr (Fq.fl (by decide))).tr (Fq.fl (by decide))) hO3
      · have q3 : ¬ wcode T n (sk T n a) = w_sage := q3
        simp only [ixr_of, run_s, run_0, rM_herbHere, rok_i, rok_z, bx_cons, bx_nil, eBP, eC0, eC1, eC2, eC5, eCV7, eCm1, eGO, jIFeq, eLA0, eRI, fM_herbHere_0, fM_herbHere_18, fM_herbHere_22, fM_herbHere_38, fM_herbHere_42, fM_herbHere_58, fM_herbHere_62, fM_herbHere_63, bM_herbHere_0, bM_herbHere_18, bM_herbHere_22, bM_herbHere_38, bM_herbHere_42, bM_herbHere_58, bM_herbHere_62, bM_herbHere_63, ty_m, Option.toList_some, Option.toList_none, List.cons_append, List.nil_append, List.length_cons, List.length_nil, List.mem_cons, List.not_mem_nil, or_false, false_or, or_true, true_or, ↓reduceIte, true_and, and_true, Nat.reduceEqDiff, Nat.reduceAdd, Nat.reduceLeDiff, Nat.reduceLT, dl_i, dl_r, dl_n, dl_u, eq_self, not_true_eq_false, not_false_eq_true, n10, n01, nm0, n0m, imp_t, imp_f]
        exact hn' (by unfold hbW; rw [if_neg q, if_neg q2, if_neg q3]; decide) M (by rw [hM, hK, hJ]; exact ((Fq.fl (by decide)).tr (Fq.fl (by decide))).tr (Fq.fl (by decide))) hO3
end CM30
/-! the book, read -/
def lnS (T : Nat → Int32) (n nl a : Nat) : Rx (Nat × Nat × Nat) :=
  if ¬ nmF T n a (nI 1) (nI 99) = 0 then .error (nmF T n a (nI 1) (nI 99), sk T n a)
  else if nl = 12 then .error (3, sk T n a)
  else if ¬ nmF T n (nmE T n a) (nI 0) (nI 7) = 0 then .error (nmF T n (nmE T n a) (nI 0) (nI 7), sk T n (nmE T n a))
  else match sgS T n (nI 59) (nmE T n (nmE T n a)) with
    | .error e => .error e
    | .ok (z, _) => .ok (z, (nmV T n a).toNatClampNeg, (nmV T n (nmE T n a)).toNatClampNeg)
def bkL (T : Nat → Int32) (n : Nat) : Nat → Nat → Nat → Rx (List (Nat × Nat))
  | 0, _, _ => .ok []
  | g + 1, nl, a => if n ≤ sk T n a then .ok [] else match lnS T n nl a with
    | .error e => .error e
    | .ok (b, p) => match bkL T n g (nl + 1) b with
      | .error e => .error e
      | .ok ps => .ok (p :: ps)
def bkS (T : Nat → Int32) (n : Nat) : Rx (List (Nat × Nat)) := bkL T n 13 0 0
theorem nm_sk {T : Nat → Int32} {n a : Nat} {lo hi : Int32} (ha : a ≤ n) : nmF T n (sk T n a) lo hi = nmF T n a lo hi ∧ nmE T n (sk T n a) = nmE T n a ∧ nmV T n (sk T n a) = nmV T n a := by
  have e : sk T n (sk T n a) = sk T n a := sk_sk ha
  have e1 : nmE T n (sk T n a) = nmE T n a := by unfold nmE; rw [e]
  have e2 : nmV T n (sk T n a) = nmV T n a := by unfold nmV; rw [e1, e]
  refine ⟨?_, e1, e2⟩
  unfold nmF
  rw [e, e2]
theorem lnS_sk {T : Nat → Int32} {n nl a : Nat} (ha : a ≤ n) : lnS T n nl (sk T n a) = lnS T n nl a := by
  obtain ⟨e1, e2, e3⟩ := nm_sk (lo := nI 1) (hi := nI 99) (T := T) ha
  unfold lnS
  rw [e1, e2, e3, sk_sk ha]
theorem bkL_sk {T : Nat → Int32} {n g nl a : Nat} (ha : a ≤ n) : bkL T n g nl (sk T n a) = bkL T n g nl a := by
  cases g with
  | zero => rfl
  | succ g =>
    unfold bkL
    rw [sk_sk ha, lnS_sk ha]
theorem lnS_len {T : Nat → Int32} {n nl a b : Nat} {p : Nat × Nat} (hT : Tx T n) (ha : a ≤ n) (h : lnS T n nl a = .ok (b, p)) : a < b ∧ b ≤ n ∧ nl ≠ 12 ∧ 1 ≤ p.1 ∧ p.1 ≤ 99 ∧ p.2 ≤ 7 := by
  unfold lnS at h
  by_cases q : ¬ nmF T n a (nI 1) (nI 99) = 0
  · rw [if_pos q] at h; cases h
  · rw [if_neg q] at h
    have q := Decidable.not_not.mp q
    by_cases q1 : nl = 12
    · rw [if_pos q1] at h; cases h
    · rw [if_neg q1] at h
      by_cases q2 : ¬ nmF T n (nmE T n a) (nI 0) (nI 7) = 0
      · rw [if_pos q2] at h; cases h
      · rw [if_neg q2] at h
        have q2 := Decidable.not_not.mp q2
        have g1 := nm_lt hT ha q
        have g2 := nm_lt hT g1.2 q2
        cases h3 : sgS T n (nI 59) (nmE T n (nmE T n a)) with
        | error e => rw [h3] at h; cases h
        | ok r =>
          obtain ⟨z, M3⟩ := r
          rw [h3] at h
          have g3 := sgS_g hT (by decide) _ _ _ g2.2 h3
          obtain ⟨v1, k1, k2, e1⟩ := rng1 (by decide) (nmF_0 q).2
          obtain ⟨v2, k3, e2⟩ := rng (by decide) (nmF_0 q2).2
          cases h
          refine ⟨by omega, g3.2.1, q1, ?_, ?_, ?_⟩
          · show 1 ≤ (nmV T n a).toNatClampNeg; rw [e1, nI_clamp (by omega)]; exact k1
          · show (nmV T n a).toNatClampNeg ≤ 99; rw [e1, nI_clamp (by omega)]; exact k2
          · show (nmV T n (nmE T n a)).toNatClampNeg ≤ 7; rw [e2, nI_clamp (by omega)]; exact k3
