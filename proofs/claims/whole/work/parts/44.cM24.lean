/-! contracts of HerbWatersModel, 23: reading opinions -/
/-- the reader of an opinion at a, o open, the codes L said -/
def OSt (T : Nat → Int32) (n : Nat) (I : Iv) (a o : Nat) (L : List Cd) : Prop := tx I n = T ∧ I 500000 2 = nI n ∧ (n ≤ 150 ∧ I 500000 6 = -1) ∧ I 500000 4 = nI a ∧ a ≤ n ∧ I 500000 5 = nI 0 ∧ I 500000 8 = nI o ∧ o ≤ 6 ∧ I 500000 26 = nI L.length ∧ L.length ≤ a ∧ (∀ k c, L[k]? = some c → I 500090 (2 * k) = nI c.1 ∧ I 500090 (2 * k + 1) = nI c.2) ∧ I 500000 27 = bi ((1, 4) ∈ L)
def OEr (n : Nat) (J : Iv) (e : Nat × Nat) : Prop := J 500000 5 = nI e.1 ∧ J 500000 6 = nI e.2 ∧ 1 ≤ e.1 ∧ e.1 ≤ 4 ∧ ∃ a, a ≤ n ∧ J 500000 4 = nI a
def Fo (I J : Iv) : Prop := (∀ i, i ≠ 500000 → i ≠ 500090 → J i = I i) ∧ ∀ j, j ≠ 4 → j ≠ 5 → j ≠ 6 → j ≠ 8 → j ≠ 26 → j ≠ 27 → J 500000 j = I 500000 j
theorem Fo.rf {I : Iv} : Fo I I := ⟨fun _ _ _ => rfl, fun _ _ _ _ _ _ _ => rfl⟩
theorem Fo.tr {I J K : Iv} (h : Fo I J) (h2 : Fo J K) : Fo I K := ⟨fun i a b => (h2.1 i a b).trans (h.1 i a b), fun j a b c d e f => (h2.2 j a b c d e f).trans (h.2 j a b c d e f)⟩
theorem Fo.fl {I : Iv} {j : Nat} {x : Int32} (h : j = 4 ∨ j = 5 ∨ j = 6 ∨ j = 8 ∨ j = 26 ∨ j = 27) : Fo I (up I 500000 j x) := ⟨fun i a _ => by funext q; exact up_n (by omega), fun q a b c d e f => up_n (by omega)⟩
theorem Fo.el {I : Iv} {k : Nat} {x : Int32} : Fo I (up I 500090 k x) := ⟨fun i _ b => by funext q; exact up_n (by omega), fun q _ _ _ _ _ _ => up_n (by omega)⟩
theorem OEr.nz {n : Nat} {J : Iv} {e : Nat × Nat} (h : OEr n J e) : ¬ J 500000 5 = nI 0 := by
  obtain ⟨h1, _, h3, h4, _⟩ := h
  rw [h1, nIe (by omega) (by decide)]
  omega
theorem tx_fl {I : Iv} {n j : Nat} {x : Int32} : tx (up I 500000 j x) n = tx I n := tx_up (by decide)
theorem OSt.at {T : Nat → Int32} {n : Nat} {I : Iv} {a o x : Nat} {L : List Cd} (h : OSt T n I a o L) (hx : x ≤ n) (hl : L.length ≤ x) : OSt T n (up I 500000 4 (nI x)) x o L := by
  obtain ⟨h1, h2, h3, h4, h5, h6, h7, h8, h9, h10, h11, h12⟩ := h
  refine ⟨by rw [tx_fl, h1], by rw [up_n (by decide), h2], ⟨h3.1, by rw [up_n (by decide), h3.2]⟩, up_s, hx, by rw [up_n (by decide), h6], by rw [up_n (by decide), h7], h8, by rw [up_n (by decide), h9], hl, fun k c hk => ?_, by rw [up_n (by decide), h12]⟩
  rw [up_n (by omega), up_n (by omega)]
  exact h11 k c hk
theorem OSt.op {T : Nat → Int32} {n : Nat} {I : Iv} {a o x : Nat} {L : List Cd} (h : OSt T n I a o L) (hx : x ≤ 6) : OSt T n (up I 500000 8 (nI x)) a x L := by
  obtain ⟨h1, h2, h3, h4, h5, h6, h7, h8, h9, h10, h11, h12⟩ := h
  refine ⟨by rw [tx_fl, h1], by rw [up_n (by decide), h2], ⟨h3.1, by rw [up_n (by decide), h3.2]⟩, by rw [up_n (by decide), h4], h5, by rw [up_n (by decide), h6], up_s, hx, by rw [up_n (by decide), h9], h10, fun k c hk => ?_, by rw [up_n (by decide), h12]⟩
  rw [up_n (by omega), up_n (by omega)]
  exact h11 k c hk
theorem skf_sk {T : Nat → Int32} {n : Nat} : ∀ (f k : Nat), f = n - k → k ≤ n → ¬ T (skf T f k) = nI 32 ∨ skf T f k = n
  | 0, k, h, hk => Or.inr (by show k = n; omega)
  | f + 1, k, h, hk => by
    unfold skf
    by_cases e : T k = nI 32
    · rw [if_pos e]; exact skf_sk f (k + 1) (by omega) (by omega)
    · rw [if_neg e]; exact Or.inl e
theorem sk_sk {T : Nat → Int32} {n a : Nat} (h : a ≤ n) : sk T n (sk T n a) = sk T n a := by
  have := skf_sk (T := T) (n - a) a rfl h
  rcases this with c | c
  · exact sk_stop c
  · have e : sk T n a = n := c
    rw [e]
    unfold sk
    rw [Nat.sub_self]
    rfl
section CM24
variable {Γ : Gm} {l : Launch} {d : Nat} {I : Iv} {E : Ev} {kr : Kr} {kx : Kxx} {T : Nat → Int32} {n a o : Nat} {L : List Cd}
theorem o_blanks (h : OSt T n I a o L) (hk : ∀ J, J = up I 500000 4 (nI (sk T n a)) → OSt T n J (sk T n a) o L → kr none J E) : Ex Γ l shN (d + 2) (0, 0) mM_blanks [.ref 500000] I E kr kx := by
  have h' := h
  obtain ⟨h1, h2, h3, h4, h5, h6, h7, h8, h9, h10, h11, h12⟩ := h'
  have hs := sk_b (t := T) h5
  refine c_blanks (n := n) h2 (by omega) h4 h5 ?_
  rw [h1]
  exact hk _ rfl (h.at hs.2 (by omega))
theorem o_takes {x1 x2 x3 x4 x5 x6 x7 : Int32} (h : OSt T n I a o L)
    (hy : wcode T n (sk T n a) = sevenL x1 x2 x3 x4 x5 x6 x7 → ∀ J, J = up I 500000 4 (nI (wEnd T n (sk T n a))) → OSt T n J (wEnd T n (sk T n a)) o L → kr (some (.int (nI 1))) J E)
    (hn' : ¬ wcode T n (sk T n a) = sevenL x1 x2 x3 x4 x5 x6 x7 → ∀ J, J = up I 500000 4 (nI (sk T n a)) → OSt T n J (sk T n a) o L → kr (some (.int (nI 0))) J E) : Ex Γ l shN (d + 5) (0, 0) mM_takes [.ref 500000, .int x1, .int x2, .int x3, .int x4, .int x5, .int x6, .int x7] I E kr kx := by
  have h' := h
  obtain ⟨h1, h2, h3, h4, h5, h6, h7, h8, h9, h10, h11, h12⟩ := h'
  have hs := sk_b (t := T) h5
  have hw := rn_b (t := T) (lo := nI 97) (hi := nI 122) hs.2
  refine c_takes (n := n) h2 (by omega) h4 h5 (fun c => absurd h6 c) (fun _ => ?_) (fun _ => ?_) <;> rw [h1]
  · exact fun q => hy q _ rfl (h.at hw.2 (by omega))
  · exact fun q => hn' q _ rfl (h.at hs.2 (by omega))
theorem o_isWord {x1 x2 x3 x4 x5 x6 x7 : Int32} (h : OSt T n I a o L) (hk : ∀ J, J = up I 500000 4 (nI (sk T n a)) → OSt T n J (sk T n a) o L → kr (some (.int (bi (wcode T n (sk T n a) = sevenL x1 x2 x3 x4 x5 x6 x7)))) J E) : Ex Γ l shN (d + 4) (0, 0) mM_isWord [.ref 500000, .int x1, .int x2, .int x3, .int x4, .int x5, .int x6, .int x7] I E kr kx := by
  have h' := h
  obtain ⟨h1, h2, h3, h4, h5, h6, h7, h8, h9, h10, h11, h12⟩ := h'
  have hs := sk_b (t := T) h5
  refine c_isWord (n := n) h2 (by omega) h4 h5 (fun c => absurd h6 c) (fun _ => ?_)
  rw [h1]
  exact hk _ rfl (h.at hs.2 (by omega))
theorem er1 {J : Iv} {x k p : Nat} (hk : 1 ≤ k) (hk4 : k ≤ 4) (hx : x ≤ n) : OEr n (up (up (up J 500000 4 (nI x)) 500000 5 (nI k)) 500000 6 (nI p)) (k, p) := ⟨by rw [up_n (by decide), up_s], up_s, hk, hk4, x, hx, by rw [up_n (by decide), up_n (by decide), up_s]⟩
theorem fo3 {x y z : Int32} : Fo I (up (up (up I 500000 4 x) 500000 5 y) 500000 6 z) := ((Fo.fl (by decide)).tr (Fo.fl (by decide))).tr (Fo.fl (by decide))
theorem o_sign {c : Int32} (hT : Tx T n) (h : OSt T n I a o L) (hc : ¬ c = -1) (ho : ∀ b J, sgS T n c a = .ok (b, []) → Fo I J → OSt T n J b o L → kr none J E) (he : ∀ e J, sgS T n c a = .error e → Fo I J → OEr n J e → kr none J E) : Ex Γ l shN (d + 3) (0, 0) mM_sign [.ref 500000, .int c] I E kr kx := by
  have h' := h
  obtain ⟨h1, h2, h3, h4, h5, h6, h7, h8, h9, h10, h11, h12⟩ := h'
  have hs := sk_b (t := T) h5
  refine c_sign (n := n) h2 (by omega) h4 h5 hc (fun c => absurd h6 c) (fun _ => ?_) (fun _ => ?_) <;> rw [h1] <;> intro q
  · have := hT.lt hc q
    exact ho _ _ (by unfold sgS; rw [if_pos q]) (Fo.fl (by decide)) (h.at (by omega) (by omega))
  · exact he (1, sk T n a) _ (by unfold sgS; rw [if_neg q]) fo3 (er1 (by decide) (by decide) hs.2)
theorem o_takesSign {c : Int32} (hT : Tx T n) (h : OSt T n I a o L) (hc : ¬ c = -1) (hy : T (sk T n a) = c → ∀ J, Fo I J → OSt T n J (sk T n a + 1) o L → kr (some (.int (nI 1))) J E) (hn' : ¬ T (sk T n a) = c → ∀ J, Fo I J → OSt T n J (sk T n a) o L → kr (some (.int (nI 0))) J E) : Ex Γ l shN (d + 3) (0, 0) mM_takesSign [.ref 500000, .int c] I E kr kx := by
  have h' := h
  obtain ⟨h1, h2, h3, h4, h5, h6, h7, h8, h9, h10, h11, h12⟩ := h'
  have hs := sk_b (t := T) h5
  refine c_takesSign (n := n) h2 (by omega) h4 h5 (fun c => absurd h6 c) (fun _ => ?_) (fun _ => ?_) <;> rw [h1] <;> intro q
  · have := hT.lt hc q
    exact hy q _ (Fo.fl (by decide)) (h.at (by omega) (by omega))
  · exact hn' q _ (Fo.fl (by decide)) (h.at (by omega) (by omega))
theorem nmF_v {T : Nat → Int32} {n a : Nat} {lo hi : Int32} : nmF T n a lo hi = 0 ∨ nmF T n a lo hi = 1 ∨ nmF T n a lo hi = 2 := by
  unfold nmF
  by_cases h : ¬ (nI 48 ≤ T (sk T n a) ∧ T (sk T n a) ≤ nI 57)
  · rw [if_pos h]; exact Or.inr (Or.inl rfl)
  · rw [if_neg h]
    by_cases h2 : ¬ (lo ≤ nmV T n a ∧ nmV T n a ≤ hi)
    · rw [if_pos h2]; exact Or.inr (Or.inr rfl)
    · rw [if_neg h2]; exact Or.inl rfl
theorem nmF_0 {T : Nat → Int32} {n a : Nat} {lo hi : Int32} (h : nmF T n a lo hi = 0) : (nI 48 ≤ T (sk T n a) ∧ T (sk T n a) ≤ nI 57) ∧ lo ≤ nmV T n a ∧ nmV T n a ≤ hi := by
  unfold nmF at h
  by_cases h1 : ¬ (nI 48 ≤ T (sk T n a) ∧ T (sk T n a) ≤ nI 57)
  · rw [if_pos h1] at h; exact absurd h (by decide)
  · rw [if_neg h1] at h
    by_cases h2 : ¬ (lo ≤ nmV T n a ∧ nmV T n a ≤ hi)
    · rw [if_pos h2] at h; exact absurd h (by decide)
    · exact ⟨Decidable.not_not.mp h1, Decidable.not_not.mp h2⟩
theorem nm_lt {T : Nat → Int32} {n a : Nat} {lo hi : Int32} (hT : Tx T n) (ha : a ≤ n) (h : nmF T n a lo hi = 0) : a < nmE T n a ∧ nmE T n a ≤ n := by
  have hs := sk_b (t := T) ha
  have hd := (nmF_0 h).1
  have hlt : sk T n a < n := by
    by_cases c : sk T n a < n
    · exact c
    · rw [hT _ (by omega)] at hd
      exact absurd hd (by decide)
  unfold nmE
  rw [rn_step hlt hd]
  have := rn_b (t := T) (lo := nI 48) (hi := nI 57) (show sk T n a + 1 ≤ n by omega)
  omega
theorem o_number {lo hi : Int32} (hT : Tx T n) (h : OSt T n I a o L) (ho : nmF T n a lo hi = 0 → ∀ J, Fo I J → OSt T n J (nmE T n a) o L → kr (some (.int (nmV T n a))) J E) (he : ¬ nmF T n a lo hi = 0 → ∀ J, Fo I J → OEr n J (nmF T n a lo hi, sk T n a) → kr (some (.int (nI 0))) J E) : Ex Γ l shN (d + 3) (0, 0) mM_number [.ref 500000, .int lo, .int hi] I E kr kx := by
  have h' := h
  obtain ⟨h1, h2, h3, h4, h5, h6, h7, h8, h9, h10, h11, h12⟩ := h'
  refine c_number (n := n) h2 (by omega) h4 h5 (fun c => absurd h6 c) (fun _ => ?_) (fun _ => ?_) <;> rw [h1] <;> intro q
  · have := nm_lt hT h5 q
    exact ho q _ (Fo.fl (by decide)) (h.at this.2 (by omega))
  · have := nmF_v (T := T) (n := n) (a := a) (lo := lo) (hi := hi)
    exact he q _ fo3 (er1 (by omega) (by omega) (rn_b (sk_b h5).2).2)
theorem o_says0 {w v : Nat} {x : Int32} (h : OSt T n I a o L) (hl : L.length + 1 ≤ a) (hx : x = bi ((1, 4) ∈ L ++ [(w, v)])) (hk : ∀ J, Fo I J → OSt T n J a o (L ++ [(w, v)]) → kr none J E) : Ex Γ l shN (d + 1) (0, 0) mM_says [.ref 500000, .int (nI w), .int (nI v)] (up I 500000 27 x) E kr kx := by
  obtain ⟨h1, h2, h3, h4, h5, h6, h7, h8, h9, h10, h11, h12⟩ := h
  have g6 : up I 500000 27 x 500000 5 = nI 0 := by rw [up_n (by decide), h6]
  have g9 : up I 500000 27 x 500000 26 = nI L.length := by rw [up_n (by decide), h9]
  refine ex_of (ls0 := [some (.ref 500000), some (.int (nI w)), some (.int (nI v))]) tM_says (by decide +kernel) kM_says rfl (Nat.le_of_ble_eq_true rfl) rfl ?_
  intro go hgo
  have i0 : 2 * L.length < 320 := by omega
  have i1 : 2 * L.length + 1 < 320 := by omega
  refine hgo 20 [] 0 _ _ _ _ _ ?_
  simp only [ixr_of, run_s, run_0, rM_says, rok_i, rok_z, bx_cons, bx_nil, eADD, eC1, eC2, eDUPr, eGI, eGR, eIAST, jIFeq, eLA0, eLI1, eLI2, eMUL, ePI, eRV, fM_says_0, fM_says_7, fM_says_8, bM_says_0, bM_says_7, bM_says_8, ln_mreadCode, rg_m_22, ty_m, ty_mreadCode, Option.toList_some, Option.toList_none, List.cons_append, List.nil_append, List.length_cons, List.length_nil, List.mem_cons, List.not_mem_nil, or_false, false_or, or_true, true_or, ↓reduceIte, true_and, and_true, Nat.reduceEqDiff, Nat.reduceAdd, Nat.reduceLeDiff, Nat.reduceLT, dl_i, dl_r, dl_n, dl_u, eq_self, not_true_eq_false, not_false_eq_true, n10, n01, nm0, n0m, g6, g9, pk_mul, i0, up_n (show ¬ ((500000:Nat) = 500090 ∧ (26:Nat) = 2 * L.length) by omega), nI_add, i1, up_n (show ¬ ((500000:Nat) = 500090 ∧ (26:Nat) = 2 * L.length + 1) by omega), imp_t, imp_f]
  refine hk _ ((((Fo.fl (by decide)).tr Fo.el).tr Fo.el).tr (Fo.fl (by decide))) ⟨?_, ?_, ⟨h3.1, by rw [up_n (by omega), up_n (by omega), up_n (by omega), up_n (by omega), h3.2]⟩, ?_, h5, ?_, ?_, h8, ?_, ?_, ?_, ?_⟩
  · rw [tx_fl, tx_up (by decide), tx_up (by decide), tx_fl, h1]
  · rw [up_n (by omega), up_n (by omega), up_n (by omega), up_n (by omega), h2]
  · rw [up_n (by omega), up_n (by omega), up_n (by omega), up_n (by omega), h4]
  · rw [up_n (by omega), up_n (by omega), up_n (by omega), up_n (by omega), h6]
  · rw [up_n (by omega), up_n (by omega), up_n (by omega), up_n (by omega), h7]
  · rw [up_s, List.length_append]; rfl
  · rw [List.length_append]; exact hl
  · intro k c hc
    by_cases e : k < L.length
    · rw [List.getElem?_append_left e] at hc
      have := h11 k c hc
      refine ⟨?_, ?_⟩
      · rw [up_n (by omega), up_n (by omega), up_n (by omega), up_n (by omega)]; exact this.1
      · rw [up_n (by omega), up_n (by omega), up_n (by omega), up_n (by omega)]; exact this.2
    · rw [List.getElem?_append_right (by omega)] at hc
      have e2 : k = L.length := by
        by_cases e3 : k - L.length = 0
        · omega
        · rw [List.getElem?_eq_none (by simp; omega)] at hc
          cases hc
      subst e2
      rw [Nat.sub_self] at hc
      cases hc
      exact ⟨by rw [up_n (by omega), up_n (by omega), up_s], by rw [up_n (by omega), up_s]⟩
  · rw [up_n (by omega), up_n (by omega), up_n (by omega), up_s, hx]
theorem o_says {w v : Nat} (h : OSt T n I a o L) (hl : L.length + 1 ≤ a) (hnd : ¬ (w = 1 ∧ v = 4)) (hk : ∀ J, Fo I J → OSt T n J a o (L ++ [(w, v)]) → kr none J E) : Ex Γ l shN (d + 1) (0, 0) mM_says [.ref 500000, .int (nI w), .int (nI v)] I E kr kx := by
  have h12 := h.2.2.2.2.2.2.2.2.2.2.2
  have := o_says0 (Γ := Γ) (l := l) (d := d) (E := E) (kr := kr) (kx := kx) (w := w) (v := v) (x := I 500000 27) h hl ?_ hk
  · rw [up_self rfl] at this
    exact this
  · rw [h12]
    refine bi_c ?_
    rw [List.mem_append]
    refine ⟨Or.inl, fun c => c.elim id (fun c => ?_)⟩
    rw [List.mem_singleton] at c
    cases c
    exact absurd ⟨rfl, rfl⟩ hnd
theorem f_says {w v : Int32} (h : ¬ I 500000 5 = nI 0) (hk : kr none I E) : Ex Γ l shN (d + 1) (0, 0) mM_says [.ref 500000, .int w, .int v] I E kr kx := by
  refine ex_of (ls0 := [some (.ref 500000), some (.int w), some (.int v)]) tM_says (by decide +kernel) kM_says rfl (Nat.le_of_ble_eq_true rfl) rfl ?_
  intro go hgo
  refine hgo 20 [] 0 _ _ _ _ _ ?_
  simp only [ixr_of, run_s, run_0, rM_says, rok_i, rok_z, bx_cons, bx_nil, eADD, eC1, eC2, eDUPr, eGI, eGR, eIAST, jIFeq, eLA0, eLI1, eLI2, eMUL, ePI, eRV, fM_says_0, fM_says_7, fM_says_8, bM_says_0, bM_says_7, bM_says_8, ln_mreadCode, rg_m_22, ty_m, ty_mreadCode, Option.toList_some, Option.toList_none, List.cons_append, List.nil_append, List.length_cons, List.length_nil, List.mem_cons, List.not_mem_nil, or_false, false_or, or_true, true_or, ↓reduceIte, true_and, and_true, Nat.reduceEqDiff, Nat.reduceAdd, Nat.reduceLeDiff, Nat.reduceLT, dl_i, dl_r, dl_n, dl_u, eq_self, not_true_eq_false, not_false_eq_true, n10, n01, nm0, n0m, imp_t, imp_f]
  exact ⟨fun q => absurd q h, fun _ => hk⟩
theorem o_opens (h : OSt T n I a o L) (h6 : o = 6 → ∀ J, Fo I J → OEr n J (3, a) → kr (some (.int (nI 0))) J E) (hk : o < 6 → ∀ J, Fo I J → OSt T n J a (o + 1) L → kr (some (.int (nI 1))) J E) : Ex Γ l shN (d + 2) (0, 0) mM_opens [.ref 500000] I E kr kx := by
  have h' := h
  obtain ⟨h1, h2, h3, h4, h5, hf, h7, h8, h9, h10, h11, h12⟩ := h'
  refine ex_of (ls0 := [some (.ref 500000)]) tM_opens (by decide +kernel) kM_opens rfl (Nat.le_of_ble_eq_true rfl) rfl ?_
  intro go hgo
  refine hgo 20 [45] 0 _ _ _ _ _ ?_
  simp only [ixr_of, run_s, run_0, rM_opens, rok_i, rok_z, bx_cons, bx_nil, eADD, eBP, eC0, eC1, eC3, eCV2, eDUPr, eGI, eGO, jICne, jIFne, eLA0, ePI, eRI, fM_opens_0, fM_opens_7, fM_opens_16, fM_opens_28, fM_opens_35, fM_opens_45, fM_opens_52, fM_opens_56, fM_opens_57, bM_opens_0, bM_opens_7, bM_opens_16, bM_opens_28, bM_opens_35, bM_opens_45, bM_opens_52, bM_opens_56, bM_opens_57, ty_m, Option.toList_some, Option.toList_none, List.cons_append, List.nil_append, List.length_cons, List.length_nil, List.mem_cons, List.not_mem_nil, or_false, false_or, or_true, true_or, ↓reduceIte, true_and, and_true, Nat.reduceEqDiff, Nat.reduceAdd, Nat.reduceLeDiff, Nat.reduceLT, dl_i, dl_r, dl_n, dl_u, eq_self, not_true_eq_false, not_false_eq_true, n10, n01, nm0, n0m, hf, h7, imp_t, imp_f]
  rw [nIe (by omega) (by decide)]
  refine ⟨fun q => ?_, fun q => ?_⟩
  · refine hgo 20 [] 45 _ _ _ _ _ ?_
    simp only [ixr_of, run_s, run_0, rM_opens, rok_i, rok_z, bx_cons, bx_nil, eADD, eBP, eC0, eC1, eC3, eCV2, eDUPr, eGI, eGO, jICne, jIFne, eLA0, ePI, eRI, fM_opens_0, fM_opens_7, fM_opens_16, fM_opens_28, fM_opens_35, fM_opens_45, fM_opens_52, fM_opens_56, fM_opens_57, bM_opens_0, bM_opens_7, bM_opens_16, bM_opens_28, bM_opens_35, bM_opens_45, bM_opens_52, bM_opens_56, bM_opens_57, ty_m, Option.toList_some, Option.toList_none, List.cons_append, List.nil_append, List.length_cons, List.length_nil, List.mem_cons, List.not_mem_nil, or_false, false_or, or_true, true_or, ↓reduceIte, true_and, and_true, Nat.reduceEqDiff, Nat.reduceAdd, Nat.reduceLeDiff, Nat.reduceLT, dl_i, dl_r, dl_n, dl_u, eq_self, not_true_eq_false, not_false_eq_true, n10, n01, nm0, n0m, nI_add, imp_t, imp_f]
    have e : up I 500000 8 (nI (o + 1)) 500000 5 = nI 0 := by rw [up_n (by decide), hf]
    rw [e]
    refine ⟨fun q => absurd rfl q, fun _ => ?_⟩
    exact hk (by omega) _ (Fo.fl (by decide)) (h.op (by omega))
  · refine call0 (c_wrong ?_)
    rw [if_pos hf]
    simp only [ixr_of, run_s, run_0, rM_opens, rok_i, rok_z, bx_cons, bx_nil, eADD, eBP, eC0, eC1, eC3, eCV2, eDUPr, eGI, eGO, jICne, jIFne, eLA0, ePI, eRI, fM_opens_0, fM_opens_7, fM_opens_16, fM_opens_28, fM_opens_35, fM_opens_45, fM_opens_52, fM_opens_56, fM_opens_57, bM_opens_0, bM_opens_7, bM_opens_16, bM_opens_28, bM_opens_35, bM_opens_45, bM_opens_52, bM_opens_56, bM_opens_57, ty_m, Option.toList_some, Option.toList_none, List.cons_append, List.nil_append, List.length_cons, List.length_nil, List.mem_cons, List.not_mem_nil, or_false, false_or, or_true, true_or, ↓reduceIte, true_and, and_true, Nat.reduceEqDiff, Nat.reduceAdd, Nat.reduceLeDiff, Nat.reduceLT, dl_i, dl_r, dl_n, dl_u, eq_self, not_true_eq_false, not_false_eq_true, n10, n01, nm0, n0m, imp_t, imp_f]
    refine hgo 20 [] 45 _ _ _ _ _ ?_
    simp only [ixr_of, run_s, run_0, rM_opens, rok_i, rok_z, bx_cons, bx_nil, eADD, eBP, eC0, eC1, eC3, eCV2, eDUPr, eGI, eGO, jICne, jIFne, eLA0, ePI, eRI, fM_opens_0, fM_opens_7, fM_opens_16, fM_opens_28, fM_opens_35, fM_opens_45, fM_opens_52, fM_opens_56, fM_opens_57, bM_opens_0, bM_opens_7, bM_opens_16, bM_opens_28, bM_opens_35, bM_opens_45, bM_opens_52, bM_opens_56, bM_opens_57, ty_m, Option.toList_some, Option.toList_none, List.cons_append, List.nil_append, List.length_cons, List.length_nil, List.mem_cons, List.not_mem_nil, or_false, false_or, or_true, true_or, ↓reduceIte, true_and, and_true, Nat.reduceEqDiff, Nat.reduceAdd, Nat.reduceLeDiff, Nat.reduceLT, dl_i, dl_r, dl_n, dl_u, eq_self, not_true_eq_false, not_false_eq_true, n10, n01, nm0, n0m, imp_t, imp_f]
    have e : up (up I 500000 5 (nI 3)) 500000 6 (I 500000 4) 500000 5 = nI 3 := by rw [up_n (by decide), up_s]
    rw [e, h4]
    refine ⟨fun _ => ?_, fun q => absurd q (by decide)⟩
    exact h6 q _ ((Fo.fl (by decide)).tr (Fo.fl (by decide))) ⟨by rw [up_n (by decide), up_s], up_s, show 1 ≤ 3 by decide, show 3 ≤ 4 by decide, a, h5, by rw [up_n (by decide), up_n (by decide), h4]⟩
/-- a word's herb, or none -/
theorem o_herbHere (h : OSt T n I a o L) (hy : ∀ hb, hbW (wcode T n (sk T n a)) = hb → hb < 3 → ∀ J, Fo I J → OSt T n J (wEnd T n (sk T n a)) o L → kr (some (.int (nI hb))) J E) (hn' : ¬ hbW (wcode T n (sk T n a)) < 3 → ∀ J, Fo I J → OSt T n J (sk T n a) o L → kr (some (.int (-1))) J E) : Ex Γ l shN (d + 6) (0, 0) mM_herbHere [.ref 500000] I E kr kx := by
  have skk : sk T n (sk T n a) = sk T n a := by
    obtain ⟨_, _, _, _, h5, _⟩ := h
    exact sk_sk h5
  refine ex_of (ls0 := [some (.ref 500000)]) tM_herbHere (by decide +kernel) kM_herbHere rfl (Nat.le_of_ble_eq_true rfl) rfl ?_
  intro go hgo
  refine hgo 20 [] 0 _ _ _ _ _ ?_
  simp only [ixr_of, run_s, run_0, rM_herbHere, rok_i, rok_z, bx_cons, bx_nil, eBP, eC0, eC1, eC2, eC5, eCV7, eCm1, eGO, jIFeq, eLA0, eRI, fM_herbHere_0, fM_herbHere_18, fM_herbHere_22, fM_herbHere_38, fM_herbHere_42, fM_herbHere_58, fM_herbHere_62, fM_herbHere_63, bM_herbHere_0, bM_herbHere_18, bM_herbHere_22, bM_herbHere_38, bM_herbHere_42, bM_herbHere_58, bM_herbHere_62, bM_herbHere_63, ty_m, Option.toList_some, Option.toList_none, List.cons_append, List.nil_append, List.length_cons, List.length_nil, List.mem_cons, List.not_mem_nil, or_false, false_or, or_true, true_or, ↓reduceIte, true_and, and_true, Nat.reduceEqDiff, Nat.reduceAdd, Nat.reduceLeDiff, Nat.reduceLT, dl_i, dl_r, dl_n, dl_u, eq_self, not_true_eq_false, not_false_eq_true, n10, n01, nm0, n0m, imp_t, imp_f]
  refine call0 (o_takes h (fun q J hJ hO => ?_) (fun q J hJ hO => ?_))
  · simp only [ixr_of, run_s, run_0, rM_herbHere, rok_i, rok_z, bx_cons, bx_nil, eBP, eC0, eC1, eC2, eC5, eCV7, eCm1, eGO, jIFeq, eLA0, eRI, fM_herbHere_0, fM_herbHere_18, fM_herbHere_22, fM_herbHere_38, fM_herbHere_42, fM_herbHere_58, fM_herbHere_62, fM_herbHere_63, bM_herbHere_0, bM_herbHere_18, bM_herbHere_22, bM_herbHere_38, bM_herbHere_42, bM_herbHere_58, bM_herbHere_62, bM_herbHere_63, ty_m, Option.toList_some, Option.toList_none, List.cons_append, List.nil_append, List.length_cons, List.length_nil, List.mem_cons, List.not_mem_nil, or_false, false_or, or_true, true_or, ↓reduceIte, true_and, and_true, Nat.reduceEqDiff, Nat.reduceAdd, Nat.reduceLeDiff, Nat.reduceLT, dl_i, dl_r, dl_n, dl_u, eq_self, not_true_eq_false, not_false_eq_true, n10, n01, nm0, n0m, imp_t, imp_f]
    exact hy 0 (by unfold hbW; rw [if_pos (show wcode T n (sk T n a) = w_mint from q)]) (by decide) J (by rw [hJ]; exact Fo.fl (by decide)) hO
  · simp only [ixr_of, run_s, run_0, rM_herbHere, rok_i, rok_z, bx_cons, bx_nil, eBP, eC0, eC1, eC2, eC5, eCV7, eCm1, eGO, jIFeq, eLA0, eRI, fM_herbHere_0, fM_herbHere_18, fM_herbHere_22, fM_herbHere_38, fM_herbHere_42, fM_herbHere_58, fM_herbHere_62, fM_herbHere_63, bM_herbHere_0, bM_herbHere_18, bM_herbHere_22, bM_herbHere_38, bM_herbHere_42, bM_herbHere_58, bM_herbHere_62, bM_herbHere_63, ty_m, Option.toList_some, Option.toList_none, List.cons_append, List.nil_append, List.length_cons, List.length_nil, List.mem_cons, List.not_mem_nil, or_false, false_or, or_true, true_or, ↓reduceIte, true_and, and_true, Nat.reduceEqDiff, Nat.reduceAdd, Nat.reduceLeDiff, Nat.reduceLT, dl_i, dl_r, dl_n, dl_u, eq_self, not_true_eq_false, not_false_eq_true, n10, n01, nm0, n0m, imp_t, imp_f]
    refine call0 (o_takes hO (fun q2 K hK hO2 => ?_) (fun q2 K hK hO2 => ?_)) <;> rw [skk] at q2 hK hO2
    · simp only [ixr_of, run_s, run_0, rM_herbHere, rok_i, rok_z, bx_cons, bx_nil, eBP, eC0, eC1, eC2, eC5, eCV7, eCm1, eGO, jIFeq, eLA0, eRI, fM_herbHere_0, fM_herbHere_18, fM_herbHere_22, fM_herbHere_38, fM_herbHere_42, fM_herbHere_58, fM_herbHere_62, fM_herbHere_63, bM_herbHere_0, bM_herbHere_18, bM_herbHere_22, bM_herbHere_38, bM_herbHere_42, bM_herbHere_58, bM_herbHere_62, bM_herbHere_63, ty_m, Option.toList_some, Option.toList_none, List.cons_append, List.nil_append, List.length_cons, List.length_nil, List.mem_cons, List.not_mem_nil, or_false, false_or, or_true, true_or, ↓reduceIte, true_and, and_true, Nat.reduceEqDiff, Nat.reduceAdd, Nat.reduceLeDiff, Nat.reduceLT, dl_i, dl_r, dl_n, dl_u, eq_self, not_true_eq_false, not_false_eq_true, n10, n01, nm0, n0m, imp_t, imp_f]
      exact hy 1 (by unfold hbW; rw [if_neg (show ¬ wcode T n (sk T n a) = w_mint from q), if_pos (show wcode T n (sk T n a) = w_rue from q2)]) (by decide) K (by rw [hK, hJ]; exact (Fo.fl (by decide)).tr (Fo.fl (by decide))) hO2
    · simp only [ixr_of, run_s, run_0, rM_herbHere, rok_i, rok_z, bx_cons, bx_nil, eBP, eC0, eC1, eC2, eC5, eCV7, eCm1, eGO, jIFeq, eLA0, eRI, fM_herbHere_0, fM_herbHere_18, fM_herbHere_22, fM_herbHere_38, fM_herbHere_42, fM_herbHere_58, fM_herbHere_62, fM_herbHere_63, bM_herbHere_0, bM_herbHere_18, bM_herbHere_22, bM_herbHere_38, bM_herbHere_42, bM_herbHere_58, bM_herbHere_62, bM_herbHere_63, ty_m, Option.toList_some, Option.toList_none, List.cons_append, List.nil_append, List.length_cons, List.length_nil, List.mem_cons, List.not_mem_nil, or_false, false_or, or_true, true_or, ↓reduceIte, true_and, and_true, Nat.reduceEqDiff, Nat.reduceAdd, Nat.reduceLeDiff, Nat.reduceLT, dl_i, dl_r, dl_n, dl_u, eq_self, not_true_eq_false, not_false_eq_true, n10, n01, nm0, n0m, imp_t, imp_f]
      refine call0 (o_takes hO2 (fun q3 M hM hO3 => ?_) (fun q3 M hM hO3 => ?_)) <;> rw [skk] at q3 hM hO3
      · simp only [ixr_of, run_s, run_0, rM_herbHere, rok_i, rok_z, bx_cons, bx_nil, eBP, eC0, eC1, eC2, eC5, eCV7, eCm1, eGO, jIFeq, eLA0, eRI, fM_herbHere_0, fM_herbHere_18, fM_herbHere_22, fM_herbHere_38, fM_herbHere_42, fM_herbHere_58, fM_herbHere_62, fM_herbHere_63, bM_herbHere_0, bM_herbHere_18, bM_herbHere_22, bM_herbHere_38, bM_herbHere_42, bM_herbHere_58, bM_herbHere_62, bM_herbHere_63, ty_m, Option.toList_some, Option.toList_none, List.cons_append, List.nil_append, List.length_cons, List.length_nil, List.mem_cons, List.not_mem_nil, or_false, false_or, or_true, true_or, ↓reduceIte, true_and, and_true, Nat.reduceEqDiff, Nat.reduceAdd, Nat.reduceLeDiff, Nat.reduceLT, dl_i, dl_r, dl_n, dl_u, eq_self, not_true_eq_false, not_false_eq_true, n10, n01, nm0, n0m, imp_t, imp_f]
        exact hy 2 (by unfold hbW; rw [if_neg (show ¬ wcode T n (sk T n a) = w_mint from q), if_neg (show ¬ wcode T n (sk T n a) = w_rue from q2), if_pos (show wcode T n (sk T n a) = w_sage from q3)]) (by decide) M (by rw [hM, hK, hJ]; exact ((Fo.fl (by decide)).tr (Fo.fl (by decide))).tr (Fo.fl (by decide))) hO3
      · simp only [ixr_of, run_s, run_0, rM_herbHere, rok_i, rok_z, bx_cons, bx_nil, eBP, eC0, eC1, eC2, eC5, eCV7, eCm1, eGO, jIFeq, eLA0, eRI, fM_herbHere_0, fM_herbHere_18, fM_herbHere_22, fM_herbHere_38, fM_herbHere_42, fM_herbHere_58, fM_herbHere_62, fM_herbHere_63, bM_herbHere_0, bM_herbHere_18, bM_herbHere_22, bM_herbHere_38, bM_herbHere_42, bM_herbHere_58, bM_herbHere_62, bM_herbHere_63, ty_m, Option.toList_some, Option.toList_none, List.cons_append, List.nil_append, List.length_cons, List.length_nil, List.mem_cons, List.not_mem_nil, or_false, false_or, or_true, true_or, ↓reduceIte, true_and, and_true, Nat.reduceEqDiff, Nat.reduceAdd, Nat.reduceLeDiff, Nat.reduceLT, dl_i, dl_r, dl_n, dl_u, eq_self, not_true_eq_false, not_false_eq_true, n10, n01, nm0, n0m, imp_t, imp_f]
        exact hn' (by unfold hbW; rw [if_neg (show ¬ wcode T n (sk T n a) = w_mint from q), if_neg (show ¬ wcode T n (sk T n a) = w_rue from q2), if_neg (show ¬ wcode T n (sk T n a) = w_sage from q3)]; decide) M (by rw [hM, hK, hJ]; exact ((Fo.fl (by decide)).tr (Fo.fl (by decide))).tr (Fo.fl (by decide))) hO3
end CM24
