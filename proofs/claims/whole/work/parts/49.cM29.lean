/-! contracts of HerbWatersModel, 28: opinion -/
def opS (T : Nat → Int32) (n : Nat) : Rx (List Pt) := opL T n 7 0 0
/-- a text was refused: what stands then -/
def ErJ (I : Iv) (e : Nat × Nat) (J : Iv) : Prop := (∀ i, i ≠ 500000 → i ≠ 500090 → i ≠ 500089 → J i = I i) ∧ (∀ j, 8 < j → j ≠ 25 → j ≠ 26 → j ≠ 27 → J 500000 j = I 500000 j) ∧ J 500000 0 = nI 0 ∧ J 500000 1 = nI 0 ∧ J 500000 3 = nI e.2
def CRt (r : Nat → Int32) (L : List Cd) : Prop := ∀ k c, L[k]? = some c → r (2 * k) = nI c.1 ∧ r (2 * k + 1) = nI c.2
def OpJ (I : Iv) (w : Nat) (ps : List Pt) (J : Iv) : Prop := (∀ i, i ≠ 500000 → i ≠ 500067 → i ≠ 500068 → i ≠ 500070 + w → i ≠ 500080 + w → i ≠ 500089 → i ≠ 500090 → i ≠ 500125 → J i = I i) ∧ (∀ j, 8 < j → j ≠ 25 → j ≠ 26 → j ≠ 27 → j ≠ 39 → J 500000 j = I 500000 j) ∧ J 500067 = ru (I 500067) w (nI ps.length) ∧ J 500068 = ru (I 500068) w (bi ((1, 4) ∈ cdA ps)) ∧ PRt (J (500070 + w)) ps ∧ CRt (J (500080 + w)) (cdA ps) ∧ J 500125 = I 500124 ∧ J 500000 39 = nI 0 ∧ J 500000 0 = nI 0 ∧ J 500000 1 = nI 0 ∧ J 500000 3 = -1
theorem ptS_len {T : Nat → Int32} {n np a b : Nat} {p : Pt} (hT : Tx T n) (ha : a ≤ n) (h : ptS T n np a = .ok (b, p)) : a < b ∧ b ≤ n := by
  have hs := sk_b (t := T) ha
  unfold ptS at h
  by_cases q : ¬ wcode T n (sk T n a) = w_put
  · rw [if_pos q] at h; cases h
  · rw [if_neg q] at h
    by_cases q1 : np = 6
    · rw [if_pos q1] at h; cases h
    · rw [if_neg q1] at h
      by_cases q2 : ¬ hbW (wcode T n (sk T n (wEnd T n (sk T n a)))) < 3
      · rw [if_pos q2] at h; cases h
      · rw [if_neg q2] at h
        have hw := wEnd_lt hs.2 (Decidable.not_not.mp q) (by decide)
        have hs1 := sk_b (t := T) hw.2
        have hw1 := rn_b (t := T) (lo := nI 97) (hi := nI 122) hs1.2
        cases h1 : sumD T n 6 (wEnd T n (sk T n (wEnd T n (sk T n a)))) with
        | error e => rw [h1] at h; cases h
        | ok r =>
          obtain ⟨x, M1⟩ := r
          rw [h1] at h
          have g1 := sumD_g hT 6 _ _ _ hw1.2 h1
          have hs2 := sk_b (t := T) g1.2.1
          have hle : sk T n (wEnd T n (sk T n a)) ≤ wEnd T n (sk T n (wEnd T n (sk T n a))) := hw1.1
          simp only at h
          by_cases q3 : wcode T n (sk T n x) = w_if
          · rw [if_pos q3] at h
            have hw3 := wEnd_lt hs2.2 q3 (by decide)
            cases h2 : anyW T n (oneD T n 6) (wEnd T n (sk T n x)) with
            | error e => rw [h2] at h; cases h
            | ok r =>
              obtain ⟨y, M2⟩ := r
              rw [h2] at h
              have g2 := anyW_g (oneD_g hT 6) _ _ _ hw3.2 h2
              simp only at h
              cases h3 : sgS T n (nI 59) y with
              | error e => rw [h3] at h; cases h
              | ok r =>
                obtain ⟨z, M3⟩ := r
                rw [h3] at h
                have g3 := sgS_g hT (by decide) _ _ _ g2.2.1 h3
                cases h
                omega
          · rw [if_neg q3] at h
            cases h3 : sgS T n (nI 59) (sk T n x) with
            | error e => rw [h3] at h; cases h
            | ok r =>
              obtain ⟨z, M3⟩ := r
              rw [h3] at h
              have g3 := sgS_g hT (by decide) _ _ _ hs2.2 h3
              cases h
              omega
theorem sgS_nil {T : Nat → Int32} {n a b : Nat} {c : Int32} {M : List Cd} (h : sgS T n c a = .ok (b, M)) : M = [] := by
  unfold sgS at h
  by_cases e : T (sk T n a) = c
  · rw [if_pos e] at h; cases h; rfl
  · rw [if_neg e] at h; cases h
theorem ptS_sk {T : Nat → Int32} {n np a : Nat} (ha : a ≤ n) : ptS T n np (sk T n a) = ptS T n np a := by
  unfold ptS
  rw [sk_sk ha]
theorem opL_sk {T : Nat → Int32} {n g np a : Nat} (ha : a ≤ n) : opL T n g np (sk T n a) = opL T n g np a := by
  cases g with
  | zero => rfl
  | succ g =>
    unfold opL
    rw [sk_sk ha, ptS_sk ha]
theorem ptS_6 {T : Nat → Int32} {n a : Nat} {r : Nat × Pt} (h : ptS T n 6 a = .ok r) : False := by
  unfold ptS at h
  by_cases q : ¬ wcode T n (sk T n a) = w_put
  · rw [if_pos q] at h; cases h
  · rw [if_neg q, if_pos rfl] at h; cases h
section CM29
/-- blanks, after a fault -/
theorem f_blanks {Γ : Gm} {l : Launch} {d : Nat} {I : Iv} {E : Ev} {kr : Kr} {kx : Kxx} {n : Nat} {e : Nat × Nat} (hsz : I 500000 2 = nI n) (hn : n ≤ 600) (h : OEr n I e) (hk : ∀ J, Fo I J → OEr n J e → kr none J E) : Ex Γ l shN (d + 2) (0, 0) mM_blanks [.ref 500000] I E kr kx := by
  obtain ⟨h1, h2, h3, h4, a, ha, hat⟩ := h
  refine c_blanks (n := n) hsz hn hat ha (hk _ (Fo.fl (by decide)) ⟨by rw [up_n (by decide), h1], by rw [up_n (by decide), h2], h3, h4, _, (sk_b ha).2, up_s⟩)
variable {Γ : Gm} {l : Launch} {d : Nat} {I : Iv} {E : Ev} {kr : Kr} {kx : Kxx}
theorem tx_Tx {n : Nat} : Tx (tx I n) n := fun k hk => tx_end hk
theorem c_opinion {v y : Int32} {nV tp : Nat} (h0 : I 500004 0 = nI nV) (h9 : nV ≤ 9) (htp : I 500000 1 = nI tp) (htp6 : tp ≤ 600)
    (h1 : ¬ (nI 0 ≤ v ∧ v ≤ I 500004 0 - nI 1) → kr (some (.int (nI 0))) (ref1 (up I 500000 0 (nI 0)) (nI 1) 0) E)
    (h2 : (nI 0 ≤ v ∧ v ≤ I 500004 0 - nI 1) → ¬ ((nI 0 ≤ y ∧ y ≤ nI tp) ∧ y ≤ nI 150) → kr (some (.int (nI 0))) (ref1 (up I 500000 0 (nI 0)) (nI 2) 1) E)
    (h3 : ∀ w n e J, w < nV → v = nI w → n ≤ tp → n ≤ 150 → y = nI n → opS (tx I n) n = .error e → ErJ I e J → kr (some (.int (nI e.1 - nI 10))) J E)
    (h4 : ∀ w n ps J, w < nV → v = nI w → n ≤ tp → n ≤ 150 → y = nI n → opS (tx I n) n = .ok ps → OpJ I w ps J → kr (some (.int (nI ps.length))) J E) : Ex Γ l shN (d + 33) (0, 0) mM_opinion [.ref 500000, .int v, .int y] I E kr kx := by
  refine ex_of (ls0 := [some (.ref 500000), some (.int v), some (.int y), none]) tM_opinion (by decide +kernel) kM_opinion rfl (Nat.le_of_ble_eq_true rfl) rfl ?_
  intro go hgo
  have et : up I 500000 0 (nI 0) 500000 1 = nI tp := by rw [up_n (by decide), htp]
  refine hgo 20 [82] 0 _ _ _ _ _ ?_
  simp only [ixr_of, run_s, run_0, rM_opinion, rok_i, rok_z, bx_cons, bx_nil, eAALD107, eBP, eC0, eC1, eC2, eC4, eCS3, eCV0, eCV1, eCV3, eGI, eGO, eGR, eIALD, eIAST, jICge, jICle, jIFeq, jIFne, eINC3, eLA0, eLI1, eLI2, eLI3, eMUL, ePI, ePZ, eRI, eSI3, eSP, eSUB, eZAST, fM_opinion_0, fM_opinion_14, fM_opinion_18, fM_opinion_19, fM_opinion_27, fM_opinion_40, fM_opinion_47, fM_opinion_51, fM_opinion_52, fM_opinion_60, fM_opinion_62, fM_opinion_82, fM_opinion_89, fM_opinion_100, fM_opinion_111, fM_opinion_126, fM_opinion_134, fM_opinion_156, fM_opinion_166, fM_opinion_186, fM_opinion_188, fM_opinion_198, fM_opinion_218, bM_opinion_0, bM_opinion_14, bM_opinion_18, bM_opinion_19, bM_opinion_27, bM_opinion_40, bM_opinion_47, bM_opinion_51, bM_opinion_52, bM_opinion_60, bM_opinion_62, bM_opinion_82, bM_opinion_89, bM_opinion_100, bM_opinion_111, bM_opinion_126, bM_opinion_134, bM_opinion_156, bM_opinion_166, bM_opinion_186, bM_opinion_188, bM_opinion_198, bM_opinion_218, ln_masksDay, ln_mcode, ln_mpart, ln_mpartMany, ln_mreadCode, ln_mreadPart, rg_m_17, rg_m_18, rg_m_19, rg_m_20, rg_m_21, rg_m_22, ty_m, ty_masksDay, ty_mcode, ty_mpart, ty_mpartMany, ty_mreadCode, ty_mreadPart, Option.toList_some, Option.toList_none, List.cons_append, List.nil_append, List.length_cons, List.length_nil, List.mem_cons, List.not_mem_nil, or_false, false_or, or_true, true_or, ↓reduceIte, true_and, and_true, Nat.reduceEqDiff, Nat.reduceAdd, Nat.reduceLeDiff, Nat.reduceLT, dl_i, dl_r, dl_n, dl_u, eq_self, not_true_eq_false, not_false_eq_true, n10, n01, nm0, n0m, imp_t, imp_f]
  refine call0 (c_isV ?_)
  simp only [ixr_of, run_s, run_0, rM_opinion, rok_i, rok_z, bx_cons, bx_nil, eAALD107, eBP, eC0, eC1, eC2, eC4, eCS3, eCV0, eCV1, eCV3, eGI, eGO, eGR, eIALD, eIAST, jICge, jICle, jIFeq, jIFne, eINC3, eLA0, eLI1, eLI2, eLI3, eMUL, ePI, ePZ, eRI, eSI3, eSP, eSUB, eZAST, fM_opinion_0, fM_opinion_14, fM_opinion_18, fM_opinion_19, fM_opinion_27, fM_opinion_40, fM_opinion_47, fM_opinion_51, fM_opinion_52, fM_opinion_60, fM_opinion_62, fM_opinion_82, fM_opinion_89, fM_opinion_100, fM_opinion_111, fM_opinion_126, fM_opinion_134, fM_opinion_156, fM_opinion_166, fM_opinion_186, fM_opinion_188, fM_opinion_198, fM_opinion_218, bM_opinion_0, bM_opinion_14, bM_opinion_18, bM_opinion_19, bM_opinion_27, bM_opinion_40, bM_opinion_47, bM_opinion_51, bM_opinion_52, bM_opinion_60, bM_opinion_62, bM_opinion_82, bM_opinion_89, bM_opinion_100, bM_opinion_111, bM_opinion_126, bM_opinion_134, bM_opinion_156, bM_opinion_166, bM_opinion_186, bM_opinion_188, bM_opinion_198, bM_opinion_218, ln_masksDay, ln_mcode, ln_mpart, ln_mpartMany, ln_mreadCode, ln_mreadPart, rg_m_17, rg_m_18, rg_m_19, rg_m_20, rg_m_21, rg_m_22, ty_m, ty_masksDay, ty_mcode, ty_mpart, ty_mpartMany, ty_mreadCode, ty_mreadPart, Option.toList_some, Option.toList_none, List.cons_append, List.nil_append, List.length_cons, List.length_nil, List.mem_cons, List.not_mem_nil, or_false, false_or, or_true, true_or, ↓reduceIte, true_and, and_true, Nat.reduceEqDiff, Nat.reduceAdd, Nat.reduceLeDiff, Nat.reduceLT, dl_i, dl_r, dl_n, dl_u, eq_self, not_true_eq_false, not_false_eq_true, n10, n01, nm0, n0m, imp_t, imp_f]
  by_cases hc0 : nI 0 ≤ v ∧ v ≤ I 500004 0 - nI 1
  rotate_left
  · rw [bi_f hc0]
    refine ⟨fun q => absurd rfl q, fun _ => ?_⟩
    refine call0 (c_bad0 (by decide) (by decide) up_s (fun q => absurd q n10) (fun _ => ?_))
    simp only [ixr_of, run_s, run_0, rM_opinion, rok_i, rok_z, bx_cons, bx_nil, eAALD107, eBP, eC0, eC1, eC2, eC4, eCS3, eCV0, eCV1, eCV3, eGI, eGO, eGR, eIALD, eIAST, jICge, jICle, jIFeq, jIFne, eINC3, eLA0, eLI1, eLI2, eLI3, eMUL, ePI, ePZ, eRI, eSI3, eSP, eSUB, eZAST, fM_opinion_0, fM_opinion_14, fM_opinion_18, fM_opinion_19, fM_opinion_27, fM_opinion_40, fM_opinion_47, fM_opinion_51, fM_opinion_52, fM_opinion_60, fM_opinion_62, fM_opinion_82, fM_opinion_89, fM_opinion_100, fM_opinion_111, fM_opinion_126, fM_opinion_134, fM_opinion_156, fM_opinion_166, fM_opinion_186, fM_opinion_188, fM_opinion_198, fM_opinion_218, bM_opinion_0, bM_opinion_14, bM_opinion_18, bM_opinion_19, bM_opinion_27, bM_opinion_40, bM_opinion_47, bM_opinion_51, bM_opinion_52, bM_opinion_60, bM_opinion_62, bM_opinion_82, bM_opinion_89, bM_opinion_100, bM_opinion_111, bM_opinion_126, bM_opinion_134, bM_opinion_156, bM_opinion_166, bM_opinion_186, bM_opinion_188, bM_opinion_198, bM_opinion_218, ln_masksDay, ln_mcode, ln_mpart, ln_mpartMany, ln_mreadCode, ln_mreadPart, rg_m_17, rg_m_18, rg_m_19, rg_m_20, rg_m_21, rg_m_22, ty_m, ty_masksDay, ty_mcode, ty_mpart, ty_mpartMany, ty_mreadCode, ty_mreadPart, Option.toList_some, Option.toList_none, List.cons_append, List.nil_append, List.length_cons, List.length_nil, List.mem_cons, List.not_mem_nil, or_false, false_or, or_true, true_or, ↓reduceIte, true_and, and_true, Nat.reduceEqDiff, Nat.reduceAdd, Nat.reduceLeDiff, Nat.reduceLT, dl_i, dl_r, dl_n, dl_u, eq_self, not_true_eq_false, not_false_eq_true, n10, n01, nm0, n0m, imp_t, imp_f]
    exact h1  hc0
  rw [bi_t hc0]
  refine ⟨fun _ => ?_, fun q => absurd q n10⟩
  refine call0 (c_bad0 (by decide) (by decide) up_s (fun _ => ?_) (fun q => absurd rfl q))
  simp only [ixr_of, run_s, run_0, rM_opinion, rok_i, rok_z, bx_cons, bx_nil, eAALD107, eBP, eC0, eC1, eC2, eC4, eCS3, eCV0, eCV1, eCV3, eGI, eGO, eGR, eIALD, eIAST, jICge, jICle, jIFeq, jIFne, eINC3, eLA0, eLI1, eLI2, eLI3, eMUL, ePI, ePZ, eRI, eSI3, eSP, eSUB, eZAST, fM_opinion_0, fM_opinion_14, fM_opinion_18, fM_opinion_19, fM_opinion_27, fM_opinion_40, fM_opinion_47, fM_opinion_51, fM_opinion_52, fM_opinion_60, fM_opinion_62, fM_opinion_82, fM_opinion_89, fM_opinion_100, fM_opinion_111, fM_opinion_126, fM_opinion_134, fM_opinion_156, fM_opinion_166, fM_opinion_186, fM_opinion_188, fM_opinion_198, fM_opinion_218, bM_opinion_0, bM_opinion_14, bM_opinion_18, bM_opinion_19, bM_opinion_27, bM_opinion_40, bM_opinion_47, bM_opinion_51, bM_opinion_52, bM_opinion_60, bM_opinion_62, bM_opinion_82, bM_opinion_89, bM_opinion_100, bM_opinion_111, bM_opinion_126, bM_opinion_134, bM_opinion_156, bM_opinion_166, bM_opinion_186, bM_opinion_188, bM_opinion_198, bM_opinion_218, ln_masksDay, ln_mcode, ln_mpart, ln_mpartMany, ln_mreadCode, ln_mreadPart, rg_m_17, rg_m_18, rg_m_19, rg_m_20, rg_m_21, rg_m_22, ty_m, ty_masksDay, ty_mcode, ty_mpart, ty_mpartMany, ty_mreadCode, ty_mreadPart, Option.toList_some, Option.toList_none, List.cons_append, List.nil_append, List.length_cons, List.length_nil, List.mem_cons, List.not_mem_nil, or_false, false_or, or_true, true_or, ↓reduceIte, true_and, and_true, Nat.reduceEqDiff, Nat.reduceAdd, Nat.reduceLeDiff, Nat.reduceLT, dl_i, dl_r, dl_n, dl_u, eq_self, not_true_eq_false, not_false_eq_true, n10, n01, nm0, n0m, imp_t, imp_f]
  rw [et]
  refine call0 (c_in ?_)
  simp only [ixr_of, run_s, run_0, rM_opinion, rok_i, rok_z, bx_cons, bx_nil, eAALD107, eBP, eC0, eC1, eC2, eC4, eCS3, eCV0, eCV1, eCV3, eGI, eGO, eGR, eIALD, eIAST, jICge, jICle, jIFeq, jIFne, eINC3, eLA0, eLI1, eLI2, eLI3, eMUL, ePI, ePZ, eRI, eSI3, eSP, eSUB, eZAST, fM_opinion_0, fM_opinion_14, fM_opinion_18, fM_opinion_19, fM_opinion_27, fM_opinion_40, fM_opinion_47, fM_opinion_51, fM_opinion_52, fM_opinion_60, fM_opinion_62, fM_opinion_82, fM_opinion_89, fM_opinion_100, fM_opinion_111, fM_opinion_126, fM_opinion_134, fM_opinion_156, fM_opinion_166, fM_opinion_186, fM_opinion_188, fM_opinion_198, fM_opinion_218, bM_opinion_0, bM_opinion_14, bM_opinion_18, bM_opinion_19, bM_opinion_27, bM_opinion_40, bM_opinion_47, bM_opinion_51, bM_opinion_52, bM_opinion_60, bM_opinion_62, bM_opinion_82, bM_opinion_89, bM_opinion_100, bM_opinion_111, bM_opinion_126, bM_opinion_134, bM_opinion_156, bM_opinion_166, bM_opinion_186, bM_opinion_188, bM_opinion_198, bM_opinion_218, ln_masksDay, ln_mcode, ln_mpart, ln_mpartMany, ln_mreadCode, ln_mreadPart, rg_m_17, rg_m_18, rg_m_19, rg_m_20, rg_m_21, rg_m_22, ty_m, ty_masksDay, ty_mcode, ty_mpart, ty_mpartMany, ty_mreadCode, ty_mreadPart, Option.toList_some, Option.toList_none, List.cons_append, List.nil_append, List.length_cons, List.length_nil, List.mem_cons, List.not_mem_nil, or_false, false_or, or_true, true_or, ↓reduceIte, true_and, and_true, Nat.reduceEqDiff, Nat.reduceAdd, Nat.reduceLeDiff, Nat.reduceLT, dl_i, dl_r, dl_n, dl_u, eq_self, not_true_eq_false, not_false_eq_true, n10, n01, nm0, n0m, imp_t, imp_f]
  by_cases hin : (nI 0 ≤ y ∧ y ≤ nI tp) ∧ y ≤ nI 150
  rotate_left
  · by_cases hin1 : nI 0 ≤ y ∧ y ≤ nI tp
    · rw [bi_t hin1]
      refine ⟨fun q => absurd q n10, fun _ => ⟨fun q => absurd ⟨hin1, q⟩ hin, fun _ => ?_⟩⟩
      refine call0 (c_bad0 (by decide) (by decide) up_s (fun q => absurd q n10) (fun _ => ?_))
      simp only [ixr_of, run_s, run_0, rM_opinion, rok_i, rok_z, bx_cons, bx_nil, eAALD107, eBP, eC0, eC1, eC2, eC4, eCS3, eCV0, eCV1, eCV3, eGI, eGO, eGR, eIALD, eIAST, jICge, jICle, jIFeq, jIFne, eINC3, eLA0, eLI1, eLI2, eLI3, eMUL, ePI, ePZ, eRI, eSI3, eSP, eSUB, eZAST, fM_opinion_0, fM_opinion_14, fM_opinion_18, fM_opinion_19, fM_opinion_27, fM_opinion_40, fM_opinion_47, fM_opinion_51, fM_opinion_52, fM_opinion_60, fM_opinion_62, fM_opinion_82, fM_opinion_89, fM_opinion_100, fM_opinion_111, fM_opinion_126, fM_opinion_134, fM_opinion_156, fM_opinion_166, fM_opinion_186, fM_opinion_188, fM_opinion_198, fM_opinion_218, bM_opinion_0, bM_opinion_14, bM_opinion_18, bM_opinion_19, bM_opinion_27, bM_opinion_40, bM_opinion_47, bM_opinion_51, bM_opinion_52, bM_opinion_60, bM_opinion_62, bM_opinion_82, bM_opinion_89, bM_opinion_100, bM_opinion_111, bM_opinion_126, bM_opinion_134, bM_opinion_156, bM_opinion_166, bM_opinion_186, bM_opinion_188, bM_opinion_198, bM_opinion_218, ln_masksDay, ln_mcode, ln_mpart, ln_mpartMany, ln_mreadCode, ln_mreadPart, rg_m_17, rg_m_18, rg_m_19, rg_m_20, rg_m_21, rg_m_22, ty_m, ty_masksDay, ty_mcode, ty_mpart, ty_mpartMany, ty_mreadCode, ty_mreadPart, Option.toList_some, Option.toList_none, List.cons_append, List.nil_append, List.length_cons, List.length_nil, List.mem_cons, List.not_mem_nil, or_false, false_or, or_true, true_or, ↓reduceIte, true_and, and_true, Nat.reduceEqDiff, Nat.reduceAdd, Nat.reduceLeDiff, Nat.reduceLT, dl_i, dl_r, dl_n, dl_u, eq_self, not_true_eq_false, not_false_eq_true, n10, n01, nm0, n0m, imp_t, imp_f]
      exact h2 hc0 hin
    · rw [bi_f hin1]
      refine ⟨fun _ => ?_, fun q => absurd rfl q⟩
      refine call0 (c_bad0 (by decide) (by decide) up_s (fun q => absurd q n10) (fun _ => ?_))
      simp only [ixr_of, run_s, run_0, rM_opinion, rok_i, rok_z, bx_cons, bx_nil, eAALD107, eBP, eC0, eC1, eC2, eC4, eCS3, eCV0, eCV1, eCV3, eGI, eGO, eGR, eIALD, eIAST, jICge, jICle, jIFeq, jIFne, eINC3, eLA0, eLI1, eLI2, eLI3, eMUL, ePI, ePZ, eRI, eSI3, eSP, eSUB, eZAST, fM_opinion_0, fM_opinion_14, fM_opinion_18, fM_opinion_19, fM_opinion_27, fM_opinion_40, fM_opinion_47, fM_opinion_51, fM_opinion_52, fM_opinion_60, fM_opinion_62, fM_opinion_82, fM_opinion_89, fM_opinion_100, fM_opinion_111, fM_opinion_126, fM_opinion_134, fM_opinion_156, fM_opinion_166, fM_opinion_186, fM_opinion_188, fM_opinion_198, fM_opinion_218, bM_opinion_0, bM_opinion_14, bM_opinion_18, bM_opinion_19, bM_opinion_27, bM_opinion_40, bM_opinion_47, bM_opinion_51, bM_opinion_52, bM_opinion_60, bM_opinion_62, bM_opinion_82, bM_opinion_89, bM_opinion_100, bM_opinion_111, bM_opinion_126, bM_opinion_134, bM_opinion_156, bM_opinion_166, bM_opinion_186, bM_opinion_188, bM_opinion_198, bM_opinion_218, ln_masksDay, ln_mcode, ln_mpart, ln_mpartMany, ln_mreadCode, ln_mreadPart, rg_m_17, rg_m_18, rg_m_19, rg_m_20, rg_m_21, rg_m_22, ty_m, ty_masksDay, ty_mcode, ty_mpart, ty_mpartMany, ty_mreadCode, ty_mreadPart, Option.toList_some, Option.toList_none, List.cons_append, List.nil_append, List.length_cons, List.length_nil, List.mem_cons, List.not_mem_nil, or_false, false_or, or_true, true_or, ↓reduceIte, true_and, and_true, Nat.reduceEqDiff, Nat.reduceAdd, Nat.reduceLeDiff, Nat.reduceLT, dl_i, dl_r, dl_n, dl_u, eq_self, not_true_eq_false, not_false_eq_true, n10, n01, nm0, n0m, imp_t, imp_f]
      exact h2 hc0 hin
  rw [bi_t hin.1]
  refine ⟨fun q => absurd q n10, fun _ => ⟨fun _ => ?_, fun q => absurd hin.2 q⟩⟩
  refine call0 (c_bad0 (by decide) (by decide) up_s (fun _ => ?_) (fun q => absurd rfl q))
  obtain ⟨n, hn, rfl⟩ := rng (by omega) hin.1
  have hn15 : n ≤ 150 := (nI_leI (by omega) (by omega)).mp hin.2
  obtain ⟨w, hw, rfl⟩ := isV_n h0 h9 hc0
  have h3 := fun e J => h3 w n e J hw rfl hn hn15 rfl
  have h4 := fun ps J => h4 w n ps J hw rfl hn hn15 rfl
  obtain ⟨T, hTd⟩ : ∃ T, T = tx I n := ⟨_, rfl⟩
  have hT : Tx T n := by rw [hTd]; exact tx_Tx
  rw [← hTd] at h3 h4
  simp only [ixr_of, run_s, run_0, rM_opinion, rok_i, rok_z, bx_cons, bx_nil, eAALD107, eBP, eC0, eC1, eC2, eC4, eCS3, eCV0, eCV1, eCV3, eGI, eGO, eGR, eIALD, eIAST, jICge, jICle, jIFeq, jIFne, eINC3, eLA0, eLI1, eLI2, eLI3, eMUL, ePI, ePZ, eRI, eSI3, eSP, eSUB, eZAST, fM_opinion_0, fM_opinion_14, fM_opinion_18, fM_opinion_19, fM_opinion_27, fM_opinion_40, fM_opinion_47, fM_opinion_51, fM_opinion_52, fM_opinion_60, fM_opinion_62, fM_opinion_82, fM_opinion_89, fM_opinion_100, fM_opinion_111, fM_opinion_126, fM_opinion_134, fM_opinion_156, fM_opinion_166, fM_opinion_186, fM_opinion_188, fM_opinion_198, fM_opinion_218, bM_opinion_0, bM_opinion_14, bM_opinion_18, bM_opinion_19, bM_opinion_27, bM_opinion_40, bM_opinion_47, bM_opinion_51, bM_opinion_52, bM_opinion_60, bM_opinion_62, bM_opinion_82, bM_opinion_89, bM_opinion_100, bM_opinion_111, bM_opinion_126, bM_opinion_134, bM_opinion_156, bM_opinion_166, bM_opinion_186, bM_opinion_188, bM_opinion_198, bM_opinion_218, ln_masksDay, ln_mcode, ln_mpart, ln_mpartMany, ln_mreadCode, ln_mreadPart, rg_m_17, rg_m_18, rg_m_19, rg_m_20, rg_m_21, rg_m_22, ty_m, ty_masksDay, ty_mcode, ty_mpart, ty_mpartMany, ty_mreadCode, ty_mreadPart, Option.toList_some, Option.toList_none, List.cons_append, List.nil_append, List.length_cons, List.length_nil, List.mem_cons, List.not_mem_nil, or_false, false_or, or_true, true_or, ↓reduceIte, true_and, and_true, Nat.reduceEqDiff, Nat.reduceAdd, Nat.reduceLeDiff, Nat.reduceLT, dl_i, dl_r, dl_n, dl_u, eq_self, not_true_eq_false, not_false_eq_true, n10, n01, nm0, n0m, imp_t, imp_f]
  refine call0 (c_starts (by omega) ?_)
  simp only [ixr_of, run_s, run_0, rM_opinion, rok_i, rok_z, bx_cons, bx_nil, eAALD107, eBP, eC0, eC1, eC2, eC4, eCS3, eCV0, eCV1, eCV3, eGI, eGO, eGR, eIALD, eIAST, jICge, jICle, jIFeq, jIFne, eINC3, eLA0, eLI1, eLI2, eLI3, eMUL, ePI, ePZ, eRI, eSI3, eSP, eSUB, eZAST, fM_opinion_0, fM_opinion_14, fM_opinion_18, fM_opinion_19, fM_opinion_27, fM_opinion_40, fM_opinion_47, fM_opinion_51, fM_opinion_52, fM_opinion_60, fM_opinion_62, fM_opinion_82, fM_opinion_89, fM_opinion_100, fM_opinion_111, fM_opinion_126, fM_opinion_134, fM_opinion_156, fM_opinion_166, fM_opinion_186, fM_opinion_188, fM_opinion_198, fM_opinion_218, bM_opinion_0, bM_opinion_14, bM_opinion_18, bM_opinion_19, bM_opinion_27, bM_opinion_40, bM_opinion_47, bM_opinion_51, bM_opinion_52, bM_opinion_60, bM_opinion_62, bM_opinion_82, bM_opinion_89, bM_opinion_100, bM_opinion_111, bM_opinion_126, bM_opinion_134, bM_opinion_156, bM_opinion_166, bM_opinion_186, bM_opinion_188, bM_opinion_198, bM_opinion_218, ln_masksDay, ln_mcode, ln_mpart, ln_mpartMany, ln_mreadCode, ln_mreadPart, rg_m_17, rg_m_18, rg_m_19, rg_m_20, rg_m_21, rg_m_22, ty_m, ty_masksDay, ty_mcode, ty_mpart, ty_mpartMany, ty_mreadCode, ty_mreadPart, Option.toList_some, Option.toList_none, List.cons_append, List.nil_append, List.length_cons, List.length_nil, List.mem_cons, List.not_mem_nil, or_false, false_or, or_true, true_or, ↓reduceIte, true_and, and_true, Nat.reduceEqDiff, Nat.reduceAdd, Nat.reduceLeDiff, Nat.reduceLT, dl_i, dl_r, dl_n, dl_u, eq_self, not_true_eq_false, not_false_eq_true, n10, n01, nm0, n0m, imp_t, imp_f]
  rw [tx_fl, ← hTd]
  obtain ⟨S, hS⟩ : ∃ S, S = up (up (up (up (up (up (up (up (up (up (up (up I 500000 0 (nI 0)) 500000 1 (nI 0)) 500000 2 (nI n)) 500000 4 (nI 0)) 500000 5 (nI 0)) 500000 6 (-1)) 500000 7 (nI 0)) 500000 8 (nI 0)) 500000 4 (nI (sk T n 0))) 500000 25 (nI 0)) 500000 26 (nI 0)) 500000 27 (nI 0) := ⟨_, rfl⟩
  rw [← hS]
  have hsk := sk_b (t := T) (Nat.zero_le n)
  have hOS : OSt T n S (sk T n 0) 0 [] := by
    refine ⟨?_, ?_, ⟨hn15, ?_⟩, ?_, hsk.2, ?_, ?_, by decide, ?_, by simp, fun k c hk => by simp at hk, ?_⟩
    · rw [hS, tx_fl, tx_fl, tx_fl, tx_fl, tx_fl, tx_fl, tx_fl, tx_fl, tx_fl, tx_fl, tx_fl, tx_fl, hTd]
    all_goals rw [hS]; simp [up, bi]
  have hSA : ∀ i, i ≠ 500000 → S i = I i := fun i hi => by rw [hS]; funext q; simp [up, hi]
  have hSF : ∀ j, 8 < j → j ≠ 25 → j ≠ 26 → j ≠ 27 → S 500000 j = I 500000 j := fun j a b c d => by
    rw [hS, up_n (by omega), up_n (by omega), up_n (by omega), up_n (by omega), up_n (by omega), up_n (by omega), up_n (by omega), up_n (by omega), up_n (by omega), up_n (by omega), up_n (by omega), up_n (by omega)]
  have hS0 : S 500000 0 = nI 0 := by rw [hS]; simp [up]
  have hS1 : S 500000 1 = nI 0 := by rw [hS]; simp [up]
  have hS6 : S 500000 6 = -1 := by rw [hS]; simp [up]
  have hS25 : S 500000 25 = nI 0 := by rw [hS]; simp [up]
  have err : ∀ (e : Nat × Nat) (K : Iv), opS T n = .error e → Fp S K → OEr n K e → kr (some (.int (nI e.1 - nI 10))) (up K 500000 3 (nI e.2)) E := by
    intro e K hv hF hE
    refine h3 e _ hv ⟨fun i a b c => ?_, fun j a b c d => ?_, ?_, ?_, up_s⟩
    · rw [show up K 500000 3 (nI e.2) i = K i by funext q; exact up_n (by omega), hF.1 i a b c, hSA i a]
    · rw [up_n (by omega), hF.2 j (by omega) (by omega) (by omega) (by omega) (by omega) (by omega) (by omega), hSF j a b c d]
    · rw [up_n (by decide), hF.2 _ (by decide) (by decide) (by decide) (by decide) (by decide) (by decide) (by decide), hS0]
    · rw [up_n (by decide), hF.2 _ (by decide) (by decide) (by decide) (by decide) (by decide) (by decide) (by decide), hS1]
  -- the text is read: its parts and codes are kept
  have keep : ∀ (K : Iv) (ps : List Pt) (b : Nat), opS T n = .ok ps → Fp S K → OSt T n K b 0 (cdA ps) → K 500000 25 = nI ps.length → ps.length ≤ 6 → PRt (K 500089) ps → go 111 [some (.ref 500000), some (.int (nI w)), some (.int (nI n)), none] [] K E (0, 0) := by
    intro K ps b hv hF hO h25 hp6 hr
    have hf : K 500000 5 = nI 0 := hO.2.2.2.2.2.1
    have h6 : K 500000 6 = -1 := hO.2.2.1.2
    have hcc := hO.2.2.2.2.2.2.2.2.1
    have hcl : (cdA ps).length ≤ 150 := Nat.le_trans hO.2.2.2.2.2.2.2.2.2.1 (Nat.le_trans hO.2.2.2.2.1 hn15)
    have hcr := hO.2.2.2.2.2.2.2.2.2.2.1
    have hask := hO.2.2.2.2.2.2.2.2.2.2.2
    have hw9 : w < 9 := by omega
    obtain ⟨K1, hK1⟩ : ∃ K1, K1 = up (up (up K 500000 3 (-1)) 500067 w (nI ps.length)) 500068 w (bi ((1, 4) ∈ cdA ps)) := ⟨_, rfl⟩
    have k25 : K1 500000 25 = nI ps.length := by rw [hK1, up_n (by omega), up_n (by omega), up_n (by omega), h25]
    have k26 : K1 500000 26 = nI (cdA ps).length := by rw [hK1, up_n (by omega), up_n (by omega), up_n (by omega), hcc]
    have k89 : K1 500089 = K 500089 := by rw [hK1]; funext q; rw [up_n (by omega), up_n (by omega), up_n (by omega)]
    have k90 : K1 500090 = K 500090 := by rw [hK1]; funext q; rw [up_n (by omega), up_n (by omega), up_n (by omega)]
    have cod : ∀ (g k : Nat) (P : Iv), g + k = 2 * (cdA ps).length → (∀ i, i ≠ 500070 + w → i ≠ 500080 + w → P i = K1 i) → (∀ k', k' < 4 * ps.length → P (500070 + w) k' = K 500089 k') → (∀ k', k' < k → P (500080 + w) k' = K 500090 k') → go 188 [some (.ref 500000), some (.int (nI w)), some (.int (nI n)), some (.int (nI k))] [] P E (0, 0) := by
      intro g
      induction g with
      | zero =>
        intro k P hk hP hp1 hp2
        have : k = 2 * (cdA ps).length := by omega
        subst this
        have p0 : P 500000 = K1 500000 := hP _ (by omega) (by omega)
        refine hgo 20 [188] 188 _ _ _ _ _ ?_
        simp only [ixr_of, run_s, run_0, rM_opinion, rok_i, rok_z, bx_cons, bx_nil, eAALD107, eBP, eC0, eC1, eC2, eC4, eCS3, eCV0, eCV1, eCV3, eGI, eGO, eGR, eIALD, eIAST, jICge, jICle, jIFeq, jIFne, eINC3, eLA0, eLI1, eLI2, eLI3, eMUL, ePI, ePZ, eRI, eSI3, eSP, eSUB, eZAST, fM_opinion_0, fM_opinion_14, fM_opinion_18, fM_opinion_19, fM_opinion_27, fM_opinion_40, fM_opinion_47, fM_opinion_51, fM_opinion_52, fM_opinion_60, fM_opinion_62, fM_opinion_82, fM_opinion_89, fM_opinion_100, fM_opinion_111, fM_opinion_126, fM_opinion_134, fM_opinion_156, fM_opinion_166, fM_opinion_186, fM_opinion_188, fM_opinion_198, fM_opinion_218, bM_opinion_0, bM_opinion_14, bM_opinion_18, bM_opinion_19, bM_opinion_27, bM_opinion_40, bM_opinion_47, bM_opinion_51, bM_opinion_52, bM_opinion_60, bM_opinion_62, bM_opinion_82, bM_opinion_89, bM_opinion_100, bM_opinion_111, bM_opinion_126, bM_opinion_134, bM_opinion_156, bM_opinion_166, bM_opinion_186, bM_opinion_188, bM_opinion_198, bM_opinion_218, ln_masksDay, ln_mcode, ln_mpart, ln_mpartMany, ln_mreadCode, ln_mreadPart, rg_m_17, rg_m_18, rg_m_19, rg_m_20, rg_m_21, rg_m_22, ty_m, ty_masksDay, ty_mcode, ty_mpart, ty_mpartMany, ty_mreadCode, ty_mreadPart, Option.toList_some, Option.toList_none, List.cons_append, List.nil_append, List.length_cons, List.length_nil, List.mem_cons, List.not_mem_nil, or_false, false_or, or_true, true_or, ↓reduceIte, true_and, and_true, Nat.reduceEqDiff, Nat.reduceAdd, Nat.reduceLeDiff, Nat.reduceLT, dl_i, dl_r, dl_n, dl_u, eq_self, not_true_eq_false, not_false_eq_true, n10, n01, nm0, n0m, p0, k25, k26, pk_mul, imp_t, imp_f]
        refine ⟨fun _ => ?_, fun q => absurd (Int32.le_refl _) q⟩
        refine call0 (c_settles' ?_)
        simp only [ixr_of, run_s, run_0, rM_opinion, rok_i, rok_z, bx_cons, bx_nil, eAALD107, eBP, eC0, eC1, eC2, eC4, eCS3, eCV0, eCV1, eCV3, eGI, eGO, eGR, eIALD, eIAST, jICge, jICle, jIFeq, jIFne, eINC3, eLA0, eLI1, eLI2, eLI3, eMUL, ePI, ePZ, eRI, eSI3, eSP, eSUB, eZAST, fM_opinion_0, fM_opinion_14, fM_opinion_18, fM_opinion_19, fM_opinion_27, fM_opinion_40, fM_opinion_47, fM_opinion_51, fM_opinion_52, fM_opinion_60, fM_opinion_62, fM_opinion_82, fM_opinion_89, fM_opinion_100, fM_opinion_111, fM_opinion_126, fM_opinion_134, fM_opinion_156, fM_opinion_166, fM_opinion_186, fM_opinion_188, fM_opinion_198, fM_opinion_218, bM_opinion_0, bM_opinion_14, bM_opinion_18, bM_opinion_19, bM_opinion_27, bM_opinion_40, bM_opinion_47, bM_opinion_51, bM_opinion_52, bM_opinion_60, bM_opinion_62, bM_opinion_82, bM_opinion_89, bM_opinion_100, bM_opinion_111, bM_opinion_126, bM_opinion_134, bM_opinion_156, bM_opinion_166, bM_opinion_186, bM_opinion_188, bM_opinion_198, bM_opinion_218, ln_masksDay, ln_mcode, ln_mpart, ln_mpartMany, ln_mreadCode, ln_mreadPart, rg_m_17, rg_m_18, rg_m_19, rg_m_20, rg_m_21, rg_m_22, ty_m, ty_masksDay, ty_mcode, ty_mpart, ty_mpartMany, ty_mreadCode, ty_mreadPart, Option.toList_some, Option.toList_none, List.cons_append, List.nil_append, List.length_cons, List.length_nil, List.mem_cons, List.not_mem_nil, or_false, false_or, or_true, true_or, ↓reduceIte, true_and, and_true, Nat.reduceEqDiff, Nat.reduceAdd, Nat.reduceLeDiff, Nat.reduceLT, dl_i, dl_r, dl_n, dl_u, eq_self, not_true_eq_false, not_false_eq_true, n10, n01, nm0, n0m, imp_t, imp_f]
        have e24 : P 500124 = I 500124 := by rw [hP _ (by omega) (by omega), hK1]; funext q; rw [up_n (by omega), up_n (by omega), up_n (by omega), hF.1 _ (by decide) (by decide) (by decide), hSA _ (by decide)]
        rw [up_n (by decide), sr_n (by decide), p0, k25, e24]
        refine h4 ps _ hv ⟨fun i a1 a2 a3 a4 a5 a6 a7 a8 => ?_, fun j b1 b2 b3 b4 b5 => ?_, ?_, ?_, ?_, ?_, ?_, ?_, ?_, ?_, ?_⟩
        · funext q
          rw [up_n (by omega), sr_n a8, hP i a4 a5, hK1, up_n (by omega), up_n (by omega), up_n (by omega), hF.1 i a1 a7 a6, hSA i a1]
        · rw [up_n (by omega), sr_n (by decide), p0, hK1, up_n (by omega), up_n (by omega), up_n (by omega), hF.2 j (by omega) (by omega) (by omega) (by omega) (by omega) (by omega) (by omega), hSF j b1 b2 b3 b4]
        · funext q
          rw [up_n (by omega), sr_n (by decide), hP _ (by omega) (by omega), hK1]
          unfold ru
          by_cases e : q = w
          · rw [if_pos e, e, up_n (by omega), up_s]
          · rw [if_neg e, up_n (by omega), up_n (by omega), up_n (by omega), hF.1 _ (by decide) (by decide) (by decide), hSA _ (by decide)]
        · funext q
          rw [up_n (by omega), sr_n (by decide), hP _ (by omega) (by omega), hK1]
          unfold ru
          by_cases e : q = w
          · rw [if_pos e, e, up_s]
          · rw [if_neg e, up_n (by omega), up_n (by omega), up_n (by omega), hF.1 _ (by decide) (by decide) (by decide), hSA _ (by decide)]
        · intro p x hx
          have hpl : p < ps.length := by
            by_cases c : p < ps.length
            · exact c
            · rw [List.getElem?_eq_none (by omega)] at hx; cases hx
          have := hr p x hx
          rw [← hp1 (4 * p) (by omega), ← hp1 (4 * p + 1) (by omega), ← hp1 (4 * p + 2) (by omega), ← hp1 (4 * p + 3) (by omega)] at this
          rw [up_n (by omega), up_n (by omega), up_n (by omega), up_n (by omega), sr_n (by omega)]
          exact this
        · intro k c hx
          have hpl : k < (cdA ps).length := by
            by_cases c : k < (cdA ps).length
            · exact c
            · rw [List.getElem?_eq_none (by omega)] at hx; cases hx
          have := hcr k c hx
          rw [← hp2 (2 * k) (by omega), ← hp2 (2 * k + 1) (by omega)] at this
          rw [up_n (by omega), up_n (by omega), sr_n (by omega)]
          exact this
        · funext q
          rw [up_n (by omega), sr_s]
        · rw [up_s]
        · rw [up_n (by decide), sr_n (by decide), p0, hK1, up_n (by omega), up_n (by omega), up_n (by decide), hF.2 _ (by decide) (by decide) (by decide) (by decide) (by decide) (by decide) (by decide), hS0]
        · rw [up_n (by decide), sr_n (by decide), p0, hK1, up_n (by omega), up_n (by omega), up_n (by decide), hF.2 _ (by decide) (by decide) (by decide) (by decide) (by decide) (by decide) (by decide), hS1]
        · rw [up_n (by decide), sr_n (by decide), p0, hK1, up_n (by omega), up_n (by omega), up_s]
      | succ g ih =>
        intro k P hk hP hp1 hp2
        have p0 : P 500000 = K1 500000 := hP _ (by omega) (by omega)
        have p90 : P 500090 = K 500090 := by rw [hP _ (by omega) (by omega), k90]
        have i0 : k < 320 := by omega
        refine hgo 20 [188] 188 _ _ _ _ _ ?_
        simp only [ixr_of, run_s, run_0, rM_opinion, rok_i, rok_z, bx_cons, bx_nil, eAALD107, eBP, eC0, eC1, eC2, eC4, eCS3, eCV0, eCV1, eCV3, eGI, eGO, eGR, eIALD, eIAST, jICge, jICle, jIFeq, jIFne, eINC3, eLA0, eLI1, eLI2, eLI3, eMUL, ePI, ePZ, eRI, eSI3, eSP, eSUB, eZAST, fM_opinion_0, fM_opinion_14, fM_opinion_18, fM_opinion_19, fM_opinion_27, fM_opinion_40, fM_opinion_47, fM_opinion_51, fM_opinion_52, fM_opinion_60, fM_opinion_62, fM_opinion_82, fM_opinion_89, fM_opinion_100, fM_opinion_111, fM_opinion_126, fM_opinion_134, fM_opinion_156, fM_opinion_166, fM_opinion_186, fM_opinion_188, fM_opinion_198, fM_opinion_218, bM_opinion_0, bM_opinion_14, bM_opinion_18, bM_opinion_19, bM_opinion_27, bM_opinion_40, bM_opinion_47, bM_opinion_51, bM_opinion_52, bM_opinion_60, bM_opinion_62, bM_opinion_82, bM_opinion_89, bM_opinion_100, bM_opinion_111, bM_opinion_126, bM_opinion_134, bM_opinion_156, bM_opinion_166, bM_opinion_186, bM_opinion_188, bM_opinion_198, bM_opinion_218, ln_masksDay, ln_mcode, ln_mpart, ln_mpartMany, ln_mreadCode, ln_mreadPart, rg_m_17, rg_m_18, rg_m_19, rg_m_20, rg_m_21, rg_m_22, ty_m, ty_masksDay, ty_mcode, ty_mpart, ty_mpartMany, ty_mreadCode, ty_mreadPart, Option.toList_some, Option.toList_none, List.cons_append, List.nil_append, List.length_cons, List.length_nil, List.mem_cons, List.not_mem_nil, or_false, false_or, or_true, true_or, ↓reduceIte, true_and, and_true, Nat.reduceEqDiff, Nat.reduceAdd, Nat.reduceLeDiff, Nat.reduceLT, dl_i, dl_r, dl_n, dl_u, eq_self, not_true_eq_false, not_false_eq_true, n10, n01, nm0, n0m, p0, k25, k26, pk_mul, p90, i0, hw9, rg_mcode hw9, tr_mcode hw9, lr_mcode hw9, nI_add, imp_t, imp_f]
        rw [nI_leI (by omega) (by omega)]
        refine ⟨fun q => absurd q (by omega), fun _ => ?_⟩
        refine ih (k + 1) _ (by omega) (fun i a1 a2 => ?_) (fun k' hk' => ?_) (fun k' hk' => ?_)
        · rw [← hP i a1 a2]; funext q; exact up_n (by omega)
        · rw [up_n (by omega)]; exact hp1 k' hk'
        · by_cases e : k' = k
          · subst e; rw [up_s]
          · rw [up_n (by omega)]; exact hp2 k' (by omega)
    have par : ∀ (g k : Nat) (P : Iv), g + k = 4 * ps.length → (∀ i, i ≠ 500070 + w → P i = K1 i) → (∀ k', k' < k → P (500070 + w) k' = K 500089 k') → go 156 [some (.ref 500000), some (.int (nI w)), some (.int (nI n)), some (.int (nI k))] [] P E (0, 0) := by
      intro g
      induction g with
      | zero =>
        intro k P hk hP hp1
        have : k = 4 * ps.length := by omega
        subst this
        have p0 : P 500000 = K1 500000 := hP _ (by omega)
        refine hgo 20 [156, 188] 156 _ _ _ _ _ ?_
        simp only [ixr_of, run_s, run_0, rM_opinion, rok_i, rok_z, bx_cons, bx_nil, eAALD107, eBP, eC0, eC1, eC2, eC4, eCS3, eCV0, eCV1, eCV3, eGI, eGO, eGR, eIALD, eIAST, jICge, jICle, jIFeq, jIFne, eINC3, eLA0, eLI1, eLI2, eLI3, eMUL, ePI, ePZ, eRI, eSI3, eSP, eSUB, eZAST, fM_opinion_0, fM_opinion_14, fM_opinion_18, fM_opinion_19, fM_opinion_27, fM_opinion_40, fM_opinion_47, fM_opinion_51, fM_opinion_52, fM_opinion_60, fM_opinion_62, fM_opinion_82, fM_opinion_89, fM_opinion_100, fM_opinion_111, fM_opinion_126, fM_opinion_134, fM_opinion_156, fM_opinion_166, fM_opinion_186, fM_opinion_188, fM_opinion_198, fM_opinion_218, bM_opinion_0, bM_opinion_14, bM_opinion_18, bM_opinion_19, bM_opinion_27, bM_opinion_40, bM_opinion_47, bM_opinion_51, bM_opinion_52, bM_opinion_60, bM_opinion_62, bM_opinion_82, bM_opinion_89, bM_opinion_100, bM_opinion_111, bM_opinion_126, bM_opinion_134, bM_opinion_156, bM_opinion_166, bM_opinion_186, bM_opinion_188, bM_opinion_198, bM_opinion_218, ln_masksDay, ln_mcode, ln_mpart, ln_mpartMany, ln_mreadCode, ln_mreadPart, rg_m_17, rg_m_18, rg_m_19, rg_m_20, rg_m_21, rg_m_22, ty_m, ty_masksDay, ty_mcode, ty_mpart, ty_mpartMany, ty_mreadCode, ty_mreadPart, Option.toList_some, Option.toList_none, List.cons_append, List.nil_append, List.length_cons, List.length_nil, List.mem_cons, List.not_mem_nil, or_false, false_or, or_true, true_or, ↓reduceIte, true_and, and_true, Nat.reduceEqDiff, Nat.reduceAdd, Nat.reduceLeDiff, Nat.reduceLT, dl_i, dl_r, dl_n, dl_u, eq_self, not_true_eq_false, not_false_eq_true, n10, n01, nm0, n0m, p0, k25, pk_mul, imp_t, imp_f]
        exact ⟨fun _ => cod (2 * (cdA ps).length) 0 P (by omega) (fun i a1 a2 => hP i a1) hp1 (fun k' hk' => by omega), fun q => absurd (Int32.le_refl _) q⟩
      | succ g ih =>
        intro k P hk hP hp1
        have p0 : P 500000 = K1 500000 := hP _ (by omega)
        have p89 : P 500089 = K 500089 := by rw [hP _ (by omega), k89]
        have i0 : k < 24 := by omega
        refine hgo 20 [156, 188] 156 _ _ _ _ _ ?_
        simp only [ixr_of, run_s, run_0, rM_opinion, rok_i, rok_z, bx_cons, bx_nil, eAALD107, eBP, eC0, eC1, eC2, eC4, eCS3, eCV0, eCV1, eCV3, eGI, eGO, eGR, eIALD, eIAST, jICge, jICle, jIFeq, jIFne, eINC3, eLA0, eLI1, eLI2, eLI3, eMUL, ePI, ePZ, eRI, eSI3, eSP, eSUB, eZAST, fM_opinion_0, fM_opinion_14, fM_opinion_18, fM_opinion_19, fM_opinion_27, fM_opinion_40, fM_opinion_47, fM_opinion_51, fM_opinion_52, fM_opinion_60, fM_opinion_62, fM_opinion_82, fM_opinion_89, fM_opinion_100, fM_opinion_111, fM_opinion_126, fM_opinion_134, fM_opinion_156, fM_opinion_166, fM_opinion_186, fM_opinion_188, fM_opinion_198, fM_opinion_218, bM_opinion_0, bM_opinion_14, bM_opinion_18, bM_opinion_19, bM_opinion_27, bM_opinion_40, bM_opinion_47, bM_opinion_51, bM_opinion_52, bM_opinion_60, bM_opinion_62, bM_opinion_82, bM_opinion_89, bM_opinion_100, bM_opinion_111, bM_opinion_126, bM_opinion_134, bM_opinion_156, bM_opinion_166, bM_opinion_186, bM_opinion_188, bM_opinion_198, bM_opinion_218, ln_masksDay, ln_mcode, ln_mpart, ln_mpartMany, ln_mreadCode, ln_mreadPart, rg_m_17, rg_m_18, rg_m_19, rg_m_20, rg_m_21, rg_m_22, ty_m, ty_masksDay, ty_mcode, ty_mpart, ty_mpartMany, ty_mreadCode, ty_mreadPart, Option.toList_some, Option.toList_none, List.cons_append, List.nil_append, List.length_cons, List.length_nil, List.mem_cons, List.not_mem_nil, or_false, false_or, or_true, true_or, ↓reduceIte, true_and, and_true, Nat.reduceEqDiff, Nat.reduceAdd, Nat.reduceLeDiff, Nat.reduceLT, dl_i, dl_r, dl_n, dl_u, eq_self, not_true_eq_false, not_false_eq_true, n10, n01, nm0, n0m, p0, k25, pk_mul, p89, i0, hw9, rg_mpart hw9, tr_mpart hw9, lr_mpart hw9, nI_add, imp_t, imp_f]
        rw [nI_leI (by omega) (by omega)]
        refine ⟨fun q => absurd q (by omega), fun _ => ?_⟩
        refine ih (k + 1) _ (by omega) (fun i a1 => ?_) (fun k' hk' => ?_)
        · rw [← hP i a1]; funext q; exact up_n (by omega)
        · by_cases e : k' = k
          · subst e; rw [up_s]
          · rw [up_n (by omega)]; exact hp1 k' (by omega)
    refine hgo 20 [156] 111 _ _ _ _ _ ?_
    have e5 : up K 500000 3 (-1) 500000 5 = nI 0 := by rw [up_n (by decide), hf]
    have e25 : up K 500000 3 (-1) 500000 25 = nI ps.length := by rw [up_n (by decide), h25]
    have e27 : up (up K 500000 3 (-1)) 500067 w (nI ps.length) 500000 27 = bi ((1, 4) ∈ cdA ps) := by rw [up_n (by omega), up_n (by decide), hask]
    simp only [ixr_of, run_s, run_0, rM_opinion, rok_i, rok_z, bx_cons, bx_nil, eAALD107, eBP, eC0, eC1, eC2, eC4, eCS3, eCV0, eCV1, eCV3, eGI, eGO, eGR, eIALD, eIAST, jICge, jICle, jIFeq, jIFne, eINC3, eLA0, eLI1, eLI2, eLI3, eMUL, ePI, ePZ, eRI, eSI3, eSP, eSUB, eZAST, fM_opinion_0, fM_opinion_14, fM_opinion_18, fM_opinion_19, fM_opinion_27, fM_opinion_40, fM_opinion_47, fM_opinion_51, fM_opinion_52, fM_opinion_60, fM_opinion_62, fM_opinion_82, fM_opinion_89, fM_opinion_100, fM_opinion_111, fM_opinion_126, fM_opinion_134, fM_opinion_156, fM_opinion_166, fM_opinion_186, fM_opinion_188, fM_opinion_198, fM_opinion_218, bM_opinion_0, bM_opinion_14, bM_opinion_18, bM_opinion_19, bM_opinion_27, bM_opinion_40, bM_opinion_47, bM_opinion_51, bM_opinion_52, bM_opinion_60, bM_opinion_62, bM_opinion_82, bM_opinion_89, bM_opinion_100, bM_opinion_111, bM_opinion_126, bM_opinion_134, bM_opinion_156, bM_opinion_166, bM_opinion_186, bM_opinion_188, bM_opinion_198, bM_opinion_218, ln_masksDay, ln_mcode, ln_mpart, ln_mpartMany, ln_mreadCode, ln_mreadPart, rg_m_17, rg_m_18, rg_m_19, rg_m_20, rg_m_21, rg_m_22, ty_m, ty_masksDay, ty_mcode, ty_mpart, ty_mpartMany, ty_mreadCode, ty_mreadPart, Option.toList_some, Option.toList_none, List.cons_append, List.nil_append, List.length_cons, List.length_nil, List.mem_cons, List.not_mem_nil, or_false, false_or, or_true, true_or, ↓reduceIte, true_and, and_true, Nat.reduceEqDiff, Nat.reduceAdd, Nat.reduceLeDiff, Nat.reduceLT, dl_i, dl_r, dl_n, dl_u, eq_self, not_true_eq_false, not_false_eq_true, n10, n01, nm0, n0m, h6, e5, e25, hw9, e27, imp_t, imp_f]
    refine ⟨bi_01, ?_⟩
    rw [← hK1]
    exact par (4 * ps.length) 0 K1 (by omega) (fun i _ => rfl) (fun k' hk' => by omega)
  have loop : ∀ (g : Nat) (K : Iv) (ps : List Pt) (b : Nat), ps.length + g = 7 → b ≤ n → sk T n b = b → Fp S K → OSt T n K b 0 (cdA ps) → K 500000 25 = nI ps.length → PRt (K 500089) ps → (opS T n = match opL T n g ps.length b with | .error e => .error e | .ok qs => .ok (ps ++ qs)) → ps.length ≤ 6 → go 82 [some (.ref 500000), some (.int (nI w)), some (.int (nI n)), none] [] K E (0, 0) := by
    intro g
    induction g with
    | zero => intro K ps b hg _ _ _ _ _ _ _ h6; omega
    | succ g ih =>
      intro K ps b hg hb hsb hF hO h25 hr hv hp6
      have hf : K 500000 5 = nI 0 := hO.2.2.2.2.2.1
      have hsz : K 500000 2 = nI n := hO.2.1
      refine hgo 20 [82, 111] 82 _ _ _ _ _ ?_
      simp only [ixr_of, run_s, run_0, rM_opinion, rok_i, rok_z, bx_cons, bx_nil, eAALD107, eBP, eC0, eC1, eC2, eC4, eCS3, eCV0, eCV1, eCV3, eGI, eGO, eGR, eIALD, eIAST, jICge, jICle, jIFeq, jIFne, eINC3, eLA0, eLI1, eLI2, eLI3, eMUL, ePI, ePZ, eRI, eSI3, eSP, eSUB, eZAST, fM_opinion_0, fM_opinion_14, fM_opinion_18, fM_opinion_19, fM_opinion_27, fM_opinion_40, fM_opinion_47, fM_opinion_51, fM_opinion_52, fM_opinion_60, fM_opinion_62, fM_opinion_82, fM_opinion_89, fM_opinion_100, fM_opinion_111, fM_opinion_126, fM_opinion_134, fM_opinion_156, fM_opinion_166, fM_opinion_186, fM_opinion_188, fM_opinion_198, fM_opinion_218, bM_opinion_0, bM_opinion_14, bM_opinion_18, bM_opinion_19, bM_opinion_27, bM_opinion_40, bM_opinion_47, bM_opinion_51, bM_opinion_52, bM_opinion_60, bM_opinion_62, bM_opinion_82, bM_opinion_89, bM_opinion_100, bM_opinion_111, bM_opinion_126, bM_opinion_134, bM_opinion_156, bM_opinion_166, bM_opinion_186, bM_opinion_188, bM_opinion_198, bM_opinion_218, ln_masksDay, ln_mcode, ln_mpart, ln_mpartMany, ln_mreadCode, ln_mreadPart, rg_m_17, rg_m_18, rg_m_19, rg_m_20, rg_m_21, rg_m_22, ty_m, ty_masksDay, ty_mcode, ty_mpart, ty_mpartMany, ty_mreadCode, ty_mreadPart, Option.toList_some, Option.toList_none, List.cons_append, List.nil_append, List.length_cons, List.length_nil, List.mem_cons, List.not_mem_nil, or_false, false_or, or_true, true_or, ↓reduceIte, true_and, and_true, Nat.reduceEqDiff, Nat.reduceAdd, Nat.reduceLeDiff, Nat.reduceLT, dl_i, dl_r, dl_n, dl_u, eq_self, not_true_eq_false, not_false_eq_true, n10, n01, nm0, n0m, hf, hsz, imp_t, imp_f]
      rw [hO.atq, nI_leI (by omega) (by omega)]
      unfold opL at hv
      rw [hsb] at hv
      refine ⟨fun q => ?_, fun q => ?_⟩
      · rw [if_pos q] at hv
        refine keep K ps b ?_ hF hO h25 hp6 hr
        rw [hv]
        simp only [List.append_nil]
      · rw [if_neg q] at hv
        refine call0 (c_partHere hT hO h25 hp6 hr (fun b' p P hpt hP hOP h25' hr' => ?_) (fun e P hpt hP hE => ?_))
        · simp only [ixr_of, run_s, run_0, rM_opinion, rok_i, rok_z, bx_cons, bx_nil, eAALD107, eBP, eC0, eC1, eC2, eC4, eCS3, eCV0, eCV1, eCV3, eGI, eGO, eGR, eIALD, eIAST, jICge, jICle, jIFeq, jIFne, eINC3, eLA0, eLI1, eLI2, eLI3, eMUL, ePI, ePZ, eRI, eSI3, eSP, eSUB, eZAST, fM_opinion_0, fM_opinion_14, fM_opinion_18, fM_opinion_19, fM_opinion_27, fM_opinion_40, fM_opinion_47, fM_opinion_51, fM_opinion_52, fM_opinion_60, fM_opinion_62, fM_opinion_82, fM_opinion_89, fM_opinion_100, fM_opinion_111, fM_opinion_126, fM_opinion_134, fM_opinion_156, fM_opinion_166, fM_opinion_186, fM_opinion_188, fM_opinion_198, fM_opinion_218, bM_opinion_0, bM_opinion_14, bM_opinion_18, bM_opinion_19, bM_opinion_27, bM_opinion_40, bM_opinion_47, bM_opinion_51, bM_opinion_52, bM_opinion_60, bM_opinion_62, bM_opinion_82, bM_opinion_89, bM_opinion_100, bM_opinion_111, bM_opinion_126, bM_opinion_134, bM_opinion_156, bM_opinion_166, bM_opinion_186, bM_opinion_188, bM_opinion_198, bM_opinion_218, ln_masksDay, ln_mcode, ln_mpart, ln_mpartMany, ln_mreadCode, ln_mreadPart, rg_m_17, rg_m_18, rg_m_19, rg_m_20, rg_m_21, rg_m_22, ty_m, ty_masksDay, ty_mcode, ty_mpart, ty_mpartMany, ty_mreadCode, ty_mreadPart, Option.toList_some, Option.toList_none, List.cons_append, List.nil_append, List.length_cons, List.length_nil, List.mem_cons, List.not_mem_nil, or_false, false_or, or_true, true_or, ↓reduceIte, true_and, and_true, Nat.reduceEqDiff, Nat.reduceAdd, Nat.reduceLeDiff, Nat.reduceLT, dl_i, dl_r, dl_n, dl_u, eq_self, not_true_eq_false, not_false_eq_true, n10, n01, nm0, n0m, imp_t, imp_f]
          refine call0 (o_blanks hOP ?_)
          intro Q hQ hOQ
          simp only [ixr_of, run_s, run_0, rM_opinion, rok_i, rok_z, bx_cons, bx_nil, eAALD107, eBP, eC0, eC1, eC2, eC4, eCS3, eCV0, eCV1, eCV3, eGI, eGO, eGR, eIALD, eIAST, jICge, jICle, jIFeq, jIFne, eINC3, eLA0, eLI1, eLI2, eLI3, eMUL, ePI, ePZ, eRI, eSI3, eSP, eSUB, eZAST, fM_opinion_0, fM_opinion_14, fM_opinion_18, fM_opinion_19, fM_opinion_27, fM_opinion_40, fM_opinion_47, fM_opinion_51, fM_opinion_52, fM_opinion_60, fM_opinion_62, fM_opinion_82, fM_opinion_89, fM_opinion_100, fM_opinion_111, fM_opinion_126, fM_opinion_134, fM_opinion_156, fM_opinion_166, fM_opinion_186, fM_opinion_188, fM_opinion_198, fM_opinion_218, bM_opinion_0, bM_opinion_14, bM_opinion_18, bM_opinion_19, bM_opinion_27, bM_opinion_40, bM_opinion_47, bM_opinion_51, bM_opinion_52, bM_opinion_60, bM_opinion_62, bM_opinion_82, bM_opinion_89, bM_opinion_100, bM_opinion_111, bM_opinion_126, bM_opinion_134, bM_opinion_156, bM_opinion_166, bM_opinion_186, bM_opinion_188, bM_opinion_198, bM_opinion_218, ln_masksDay, ln_mcode, ln_mpart, ln_mpartMany, ln_mreadCode, ln_mreadPart, rg_m_17, rg_m_18, rg_m_19, rg_m_20, rg_m_21, rg_m_22, ty_m, ty_masksDay, ty_mcode, ty_mpart, ty_mpartMany, ty_mreadCode, ty_mreadPart, Option.toList_some, Option.toList_none, List.cons_append, List.nil_append, List.length_cons, List.length_nil, List.mem_cons, List.not_mem_nil, or_false, false_or, or_true, true_or, ↓reduceIte, true_and, and_true, Nat.reduceEqDiff, Nat.reduceAdd, Nat.reduceLeDiff, Nat.reduceLT, dl_i, dl_r, dl_n, dl_u, eq_self, not_true_eq_false, not_false_eq_true, n10, n01, nm0, n0m, imp_t, imp_f]
          have hb' := ptS_len hT hb hpt
          have hsb' := sk_b (t := T) hb'.2
          have hFQ : Fo P Q := by rw [hQ]; exact Fo.fl (by decide)
          have hnp : ¬ ps.length = 6 := fun c => by rw [c] at hpt; exact ptS_6 hpt
          have hlen : (ps ++ [p]).length = ps.length + 1 := by rw [List.length_append]; rfl
          refine ih Q (ps ++ [p]) (sk T n b') (by omega) hsb'.2 (sk_sk hb'.2) (hF.tr (hP.tr hFQ.fp)) hOQ ?_ ?_ ?_ (by omega)
          · rw [hFQ.2 _ (by decide) (by decide) (by decide) (by decide) (by decide) (by decide), h25', hlen]
          · rw [hFQ.1 _ (by decide) (by decide)]; exact hr'
          · rw [hv, hpt, opL_sk hb'.2, hlen]
            simp only
            cases opL T n g (ps.length + 1) b' with
            | error e => rfl
            | ok qs => simp only [List.append_assoc, List.cons_append, List.nil_append]
        · simp only [ixr_of, run_s, run_0, rM_opinion, rok_i, rok_z, bx_cons, bx_nil, eAALD107, eBP, eC0, eC1, eC2, eC4, eCS3, eCV0, eCV1, eCV3, eGI, eGO, eGR, eIALD, eIAST, jICge, jICle, jIFeq, jIFne, eINC3, eLA0, eLI1, eLI2, eLI3, eMUL, ePI, ePZ, eRI, eSI3, eSP, eSUB, eZAST, fM_opinion_0, fM_opinion_14, fM_opinion_18, fM_opinion_19, fM_opinion_27, fM_opinion_40, fM_opinion_47, fM_opinion_51, fM_opinion_52, fM_opinion_60, fM_opinion_62, fM_opinion_82, fM_opinion_89, fM_opinion_100, fM_opinion_111, fM_opinion_126, fM_opinion_134, fM_opinion_156, fM_opinion_166, fM_opinion_186, fM_opinion_188, fM_opinion_198, fM_opinion_218, bM_opinion_0, bM_opinion_14, bM_opinion_18, bM_opinion_19, bM_opinion_27, bM_opinion_40, bM_opinion_47, bM_opinion_51, bM_opinion_52, bM_opinion_60, bM_opinion_62, bM_opinion_82, bM_opinion_89, bM_opinion_100, bM_opinion_111, bM_opinion_126, bM_opinion_134, bM_opinion_156, bM_opinion_166, bM_opinion_186, bM_opinion_188, bM_opinion_198, bM_opinion_218, ln_masksDay, ln_mcode, ln_mpart, ln_mpartMany, ln_mreadCode, ln_mreadPart, rg_m_17, rg_m_18, rg_m_19, rg_m_20, rg_m_21, rg_m_22, ty_m, ty_masksDay, ty_mcode, ty_mpart, ty_mpartMany, ty_mreadCode, ty_mreadPart, Option.toList_some, Option.toList_none, List.cons_append, List.nil_append, List.length_cons, List.length_nil, List.mem_cons, List.not_mem_nil, or_false, false_or, or_true, true_or, ↓reduceIte, true_and, and_true, Nat.reduceEqDiff, Nat.reduceAdd, Nat.reduceLeDiff, Nat.reduceLT, dl_i, dl_r, dl_n, dl_u, eq_self, not_true_eq_false, not_false_eq_true, n10, n01, nm0, n0m, imp_t, imp_f]
          have hszP : P 500000 2 = nI n := by rw [hP.2 _ (by decide) (by decide) (by decide) (by decide) (by decide) (by decide) (by decide), hsz]
          refine call0 (f_blanks hszP (by omega) hE ?_)
          intro Q hQ hEQ
          simp only [ixr_of, run_s, run_0, rM_opinion, rok_i, rok_z, bx_cons, bx_nil, eAALD107, eBP, eC0, eC1, eC2, eC4, eCS3, eCV0, eCV1, eCV3, eGI, eGO, eGR, eIALD, eIAST, jICge, jICle, jIFeq, jIFne, eINC3, eLA0, eLI1, eLI2, eLI3, eMUL, ePI, ePZ, eRI, eSI3, eSP, eSUB, eZAST, fM_opinion_0, fM_opinion_14, fM_opinion_18, fM_opinion_19, fM_opinion_27, fM_opinion_40, fM_opinion_47, fM_opinion_51, fM_opinion_52, fM_opinion_60, fM_opinion_62, fM_opinion_82, fM_opinion_89, fM_opinion_100, fM_opinion_111, fM_opinion_126, fM_opinion_134, fM_opinion_156, fM_opinion_166, fM_opinion_186, fM_opinion_188, fM_opinion_198, fM_opinion_218, bM_opinion_0, bM_opinion_14, bM_opinion_18, bM_opinion_19, bM_opinion_27, bM_opinion_40, bM_opinion_47, bM_opinion_51, bM_opinion_52, bM_opinion_60, bM_opinion_62, bM_opinion_82, bM_opinion_89, bM_opinion_100, bM_opinion_111, bM_opinion_126, bM_opinion_134, bM_opinion_156, bM_opinion_166, bM_opinion_186, bM_opinion_188, bM_opinion_198, bM_opinion_218, ln_masksDay, ln_mcode, ln_mpart, ln_mpartMany, ln_mreadCode, ln_mreadPart, rg_m_17, rg_m_18, rg_m_19, rg_m_20, rg_m_21, rg_m_22, ty_m, ty_masksDay, ty_mcode, ty_mpart, ty_mpartMany, ty_mreadCode, ty_mreadPart, Option.toList_some, Option.toList_none, List.cons_append, List.nil_append, List.length_cons, List.length_nil, List.mem_cons, List.not_mem_nil, or_false, false_or, or_true, true_or, ↓reduceIte, true_and, and_true, Nat.reduceEqDiff, Nat.reduceAdd, Nat.reduceLeDiff, Nat.reduceLT, dl_i, dl_r, dl_n, dl_u, eq_self, not_true_eq_false, not_false_eq_true, n10, n01, nm0, n0m, imp_t, imp_f]
          refine hgo 20 [82, 111] 82 _ _ _ _ _ ?_
          simp only [ixr_of, run_s, run_0, rM_opinion, rok_i, rok_z, bx_cons, bx_nil, eAALD107, eBP, eC0, eC1, eC2, eC4, eCS3, eCV0, eCV1, eCV3, eGI, eGO, eGR, eIALD, eIAST, jICge, jICle, jIFeq, jIFne, eINC3, eLA0, eLI1, eLI2, eLI3, eMUL, ePI, ePZ, eRI, eSI3, eSP, eSUB, eZAST, fM_opinion_0, fM_opinion_14, fM_opinion_18, fM_opinion_19, fM_opinion_27, fM_opinion_40, fM_opinion_47, fM_opinion_51, fM_opinion_52, fM_opinion_60, fM_opinion_62, fM_opinion_82, fM_opinion_89, fM_opinion_100, fM_opinion_111, fM_opinion_126, fM_opinion_134, fM_opinion_156, fM_opinion_166, fM_opinion_186, fM_opinion_188, fM_opinion_198, fM_opinion_218, bM_opinion_0, bM_opinion_14, bM_opinion_18, bM_opinion_19, bM_opinion_27, bM_opinion_40, bM_opinion_47, bM_opinion_51, bM_opinion_52, bM_opinion_60, bM_opinion_62, bM_opinion_82, bM_opinion_89, bM_opinion_100, bM_opinion_111, bM_opinion_126, bM_opinion_134, bM_opinion_156, bM_opinion_166, bM_opinion_186, bM_opinion_188, bM_opinion_198, bM_opinion_218, ln_masksDay, ln_mcode, ln_mpart, ln_mpartMany, ln_mreadCode, ln_mreadPart, rg_m_17, rg_m_18, rg_m_19, rg_m_20, rg_m_21, rg_m_22, ty_m, ty_masksDay, ty_mcode, ty_mpart, ty_mpartMany, ty_mreadCode, ty_mreadPart, Option.toList_some, Option.toList_none, List.cons_append, List.nil_append, List.length_cons, List.length_nil, List.mem_cons, List.not_mem_nil, or_false, false_or, or_true, true_or, ↓reduceIte, true_and, and_true, Nat.reduceEqDiff, Nat.reduceAdd, Nat.reduceLeDiff, Nat.reduceLT, dl_i, dl_r, dl_n, dl_u, eq_self, not_true_eq_false, not_false_eq_true, n10, n01, nm0, n0m, imp_t, imp_f]
          refine ⟨fun _ => ?_, fun q => absurd q hEQ.nz⟩
          refine hgo 20 [134] 111 _ _ _ _ _ ?_
          have e5 : up Q 500000 3 (nI e.2) 500000 5 = nI e.1 := by rw [up_n (by decide), hEQ.1]
          simp only [ixr_of, run_s, run_0, rM_opinion, rok_i, rok_z, bx_cons, bx_nil, eAALD107, eBP, eC0, eC1, eC2, eC4, eCS3, eCV0, eCV1, eCV3, eGI, eGO, eGR, eIALD, eIAST, jICge, jICle, jIFeq, jIFne, eINC3, eLA0, eLI1, eLI2, eLI3, eMUL, ePI, ePZ, eRI, eSI3, eSP, eSUB, eZAST, fM_opinion_0, fM_opinion_14, fM_opinion_18, fM_opinion_19, fM_opinion_27, fM_opinion_40, fM_opinion_47, fM_opinion_51, fM_opinion_52, fM_opinion_60, fM_opinion_62, fM_opinion_82, fM_opinion_89, fM_opinion_100, fM_opinion_111, fM_opinion_126, fM_opinion_134, fM_opinion_156, fM_opinion_166, fM_opinion_186, fM_opinion_188, fM_opinion_198, fM_opinion_218, bM_opinion_0, bM_opinion_14, bM_opinion_18, bM_opinion_19, bM_opinion_27, bM_opinion_40, bM_opinion_47, bM_opinion_51, bM_opinion_52, bM_opinion_60, bM_opinion_62, bM_opinion_82, bM_opinion_89, bM_opinion_100, bM_opinion_111, bM_opinion_126, bM_opinion_134, bM_opinion_156, bM_opinion_166, bM_opinion_186, bM_opinion_188, bM_opinion_198, bM_opinion_218, ln_masksDay, ln_mcode, ln_mpart, ln_mpartMany, ln_mreadCode, ln_mreadPart, rg_m_17, rg_m_18, rg_m_19, rg_m_20, rg_m_21, rg_m_22, ty_m, ty_masksDay, ty_mcode, ty_mpart, ty_mpartMany, ty_mreadCode, ty_mreadPart, Option.toList_some, Option.toList_none, List.cons_append, List.nil_append, List.length_cons, List.length_nil, List.mem_cons, List.not_mem_nil, or_false, false_or, or_true, true_or, ↓reduceIte, true_and, and_true, Nat.reduceEqDiff, Nat.reduceAdd, Nat.reduceLeDiff, Nat.reduceLT, dl_i, dl_r, dl_n, dl_u, eq_self, not_true_eq_false, not_false_eq_true, n10, n01, nm0, n0m, hEQ.2.1, e5, imp_t, imp_f]
          refine ⟨fun q => absurd q (by rw [← hEQ.1]; exact hEQ.nz), fun _ => ?_⟩
          refine err e Q ?_ (hF.tr (hP.tr hQ.fp)) hEQ
          rw [hv, hpt]
  refine loop 7 S [] (sk T n 0) rfl hsk.2 (sk_sk (Nat.zero_le n)) Fp.rf hOS hS25 (fun p x hx => by simp at hx) ?_ (by decide)
  rw [opL_sk (Nat.zero_le n)]
  unfold opS
  show opL T n 7 0 0 = match opL T n 7 0 0 with | .error e => .error e | .ok qs => .ok ([] ++ qs)
  cases opL T n 7 0 0 with
  | error e => rfl
  | ok qs => rfl
end CM29
