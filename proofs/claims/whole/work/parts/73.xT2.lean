/-! contracts of the class, 4: the tape: numbers, words -/
theorem nI_sb {a b : Nat} (h : b ≤ a) : nI a - nI b = nI (a - b) := (Int32.ofNat_sub a b h).symm
theorem nI_ml (a b : Nat) : nI a * nI b = nI (a * b) := (Int32.ofNat_mul a b).symm
/-- a number's value, of its first m digits, as the class takes it -/
def pX (T : Nat → Int32) (c : Nat) : Nat → Nat
  | 0 => 0
  | m + 1 => min (10 * pX T c m + ((T (c + m)).toNatClampNeg - 48)) 1000000
theorem pX_le {T : Nat → Int32} {c : Nat} : ∀ m, pX T c m ≤ 1000000
  | 0 => Nat.zero_le _
  | m + 1 => Nat.min_le_right _ _
theorem dig {x : Int32} (h : nI 48 ≤ x ∧ x ≤ nI 57) : ∃ k, k ≤ 9 ∧ x = nI (48 + k) := by
  obtain ⟨c, hc1, hc⟩ := rng (x := x) (n := 57) (by decide) ⟨Int32.le_trans (by decide) h.1, h.2⟩
  have hc2 : 48 ≤ c := by
    have := h.1
    rw [hc] at this
    exact (nI_leI (by omega) (by omega)).mp this
  exact ⟨c - 48, by omega, by rw [hc, show 48 + (c - 48) = c by omega]⟩
theorem nv_pX {T : Nat → Int32} {c : Nat} : ∀ m, (∀ i, i < m → nI 48 ≤ T (c + i) ∧ T (c + i) ≤ nI 57) → nv T c m = nI (min (pX T c m) 100000)
  | 0, _ => rfl
  | m + 1, h => by
    have ih := nv_pX m (fun i hi => h i (by omega))
    obtain ⟨k, hk, e⟩ := dig (h m (by omega))
    have hp := pX_le (T := T) (c := c) m
    rw [nv, ih, e, nI_ml, nI_add, nI_sb (by omega)]
    unfold clp
    have e2 : pX T c (m + 1) = min (10 * pX T c m + k) 1000000 := by
      rw [pX, e, nI_clamp (by omega), show 48 + k - 48 = k by omega]
    rw [e2]
    by_cases q : 100000 < 10 * min (pX T c m) 100000 + (48 + k) - 48
    · rw [if_pos (nI_lt q (by omega))]
      congr 1
      omega
    · rw [if_neg (nI_nlt (by omega) (by omega))]
      congr 1
      omega
section XT2
variable {Γ : Gm} {l : Launch} {b : Bool} {d : Nat} {I : Iv} {E : Ev} {kr : Kr} {kx : Kxx} {T : Nat → Int32} {n a : Nat}
theorem x_numberIn {lo hi : Int32} (h : TSt T n I a) (hhi : hi ≤ nI 999) (ho : nmF T n a lo hi = 0 → kr (some (.int (nmV T n a))) (tp I (nmE T n a) (sk T n a)) E)
    (he : ¬ nmF T n a lo hi = 0 → ∀ x, x ≤ n → kr (some (.int (-1))) (tf I x (sk T n a) (nmF T n a lo hi)) E) : Ex Γ l (shB b) (d + 2) (0, 0) mTp_numberIn [.ref 1, .int lo, .int hi] I E kr kx := by
  refine ex_of (ls0 := [some (.ref 1), some (.int lo), some (.int hi), none]) tTp_numberIn (by decide +kernel) kTp_numberIn rfl (Nat.le_of_ble_eq_true rfl) rfl ?_
  intro go hgo
  have hs := sk_b (t := T) h.2.2.2.2.2
  have hn6 := h.2.2.2.1
  obtain ⟨c, hc⟩ : ∃ c, c = sk T n a := ⟨_, rfl⟩
  have hTe : Tx T n := by rw [← h.1]; exact xt_Tx
  have hF : nmF T n a lo hi = if ¬ (nI 48 ≤ T c ∧ T c ≤ nI 57) then 1 else if ¬ (lo ≤ nmV T n a ∧ nmV T n a ≤ hi) then 2 else 0 := by rw [hc]; rfl
  have hE : nmE T n a = rn T (nI 48) (nI 57) n c := by rw [hc]; rfl
  have hV : nmV T n a = nv T c (rn T (nI 48) (nI 57) n c - c) := by rw [hc]; rfl
  rw [← hc] at hs ho he
  refine hgo 20 [21, 75] 0 _ _ _ _ _ ?_
  simp only [ixr_of, run_s, run_0, rTp_numberIn, rok_i, rok_z, bx_cons, bx_nil, eADD, eBALD, eBP, eC0, eC1, eC2, eCV0, eCV1, eCm1, eDUPr, eGI, eGO, eGR, jICge, jICle, jIClt, jIFeq, jIFne, eLA0, eLDC, eLI1, eLI2, eLI3, eMIN, eMUL, ePI, ePOPi, eRI, eSI3, eSUB, fTp_numberIn_0, fTp_numberIn_11, fTp_numberIn_19, fTp_numberIn_21, fTp_numberIn_32, fTp_numberIn_39, fTp_numberIn_75, fTp_numberIn_80, fTp_numberIn_85, fTp_numberIn_93, bTp_numberIn_0, bTp_numberIn_11, bTp_numberIn_19, bTp_numberIn_21, bTp_numberIn_32, bTp_numberIn_39, bTp_numberIn_75, bTp_numberIn_80, bTp_numberIn_85, bTp_numberIn_93, ln_xtape_bytes, rg_xtape_0, ty_xtape, ty_xtape_bytes, Option.toList_some, Option.toList_none, List.cons_append, List.nil_append, List.length_cons, List.length_nil, List.mem_cons, List.not_mem_nil, or_false, false_or, or_true, true_or, ↓reduceIte, true_and, and_true, Nat.reduceEqDiff, Nat.reduceAdd, Nat.reduceLeDiff, Nat.reduceLT, dl_i, dl_r, dl_n, dl_u, eq_self, not_true_eq_false, not_false_eq_true, n10, n01, nm0, n0m, imp_t, imp_f]
  refine call0 (x_seek h ?_)
  rw [← hc]
  simp only [ixr_of, run_s, run_0, rTp_numberIn, rok_i, rok_z, bx_cons, bx_nil, eADD, eBALD, eBP, eC0, eC1, eC2, eCV0, eCV1, eCm1, eDUPr, eGI, eGO, eGR, jICge, jICle, jIClt, jIFeq, jIFne, eLA0, eLDC, eLI1, eLI2, eLI3, eMIN, eMUL, ePI, ePOPi, eRI, eSI3, eSUB, fTp_numberIn_0, fTp_numberIn_11, fTp_numberIn_19, fTp_numberIn_21, fTp_numberIn_32, fTp_numberIn_39, fTp_numberIn_75, fTp_numberIn_80, fTp_numberIn_85, fTp_numberIn_93, bTp_numberIn_0, bTp_numberIn_11, bTp_numberIn_19, bTp_numberIn_21, bTp_numberIn_32, bTp_numberIn_39, bTp_numberIn_75, bTp_numberIn_80, bTp_numberIn_85, bTp_numberIn_93, ln_xtape_bytes, rg_xtape_0, ty_xtape, ty_xtape_bytes, Option.toList_some, Option.toList_none, List.cons_append, List.nil_append, List.length_cons, List.length_nil, List.mem_cons, List.not_mem_nil, or_false, false_or, or_true, true_or, ↓reduceIte, true_and, and_true, Nat.reduceEqDiff, Nat.reduceAdd, Nat.reduceLeDiff, Nat.reduceLT, dl_i, dl_r, dl_n, dl_u, eq_self, not_true_eq_false, not_false_eq_true, n10, n01, nm0, n0m, imp_t, imp_f]
  refine call0 (x_isDigit (h.tp hs.2) ?_)
  simp only [ixr_of, run_s, run_0, rTp_numberIn, rok_i, rok_z, bx_cons, bx_nil, eADD, eBALD, eBP, eC0, eC1, eC2, eCV0, eCV1, eCm1, eDUPr, eGI, eGO, eGR, jICge, jICle, jIClt, jIFeq, jIFne, eLA0, eLDC, eLI1, eLI2, eLI3, eMIN, eMUL, ePI, ePOPi, eRI, eSI3, eSUB, fTp_numberIn_0, fTp_numberIn_11, fTp_numberIn_19, fTp_numberIn_21, fTp_numberIn_32, fTp_numberIn_39, fTp_numberIn_75, fTp_numberIn_80, fTp_numberIn_85, fTp_numberIn_93, bTp_numberIn_0, bTp_numberIn_11, bTp_numberIn_19, bTp_numberIn_21, bTp_numberIn_32, bTp_numberIn_39, bTp_numberIn_75, bTp_numberIn_80, bTp_numberIn_85, bTp_numberIn_93, ln_xtape_bytes, rg_xtape_0, ty_xtape, ty_xtape_bytes, Option.toList_some, Option.toList_none, List.cons_append, List.nil_append, List.length_cons, List.length_nil, List.mem_cons, List.not_mem_nil, or_false, false_or, or_true, true_or, ↓reduceIte, true_and, and_true, Nat.reduceEqDiff, Nat.reduceAdd, Nat.reduceLeDiff, Nat.reduceLT, dl_i, dl_r, dl_n, dl_u, eq_self, not_true_eq_false, not_false_eq_true, n10, n01, nm0, n0m, imp_t, imp_f]
  by_cases hd : nI 48 ≤ T c ∧ T c ≤ nI 57
  rotate_left
  · rw [bi_f hd]
    refine ⟨fun q => absurd rfl q, fun _ => ?_⟩
    rw [if_pos hd] at hF
    refine call0 (x_fails (k := 1) ?_)
    simp only [ixr_of, run_s, run_0, rTp_numberIn, rok_i, rok_z, bx_cons, bx_nil, eADD, eBALD, eBP, eC0, eC1, eC2, eCV0, eCV1, eCm1, eDUPr, eGI, eGO, eGR, jICge, jICle, jIClt, jIFeq, jIFne, eLA0, eLDC, eLI1, eLI2, eLI3, eMIN, eMUL, ePI, ePOPi, eRI, eSI3, eSUB, fTp_numberIn_0, fTp_numberIn_11, fTp_numberIn_19, fTp_numberIn_21, fTp_numberIn_32, fTp_numberIn_39, fTp_numberIn_75, fTp_numberIn_80, fTp_numberIn_85, fTp_numberIn_93, bTp_numberIn_0, bTp_numberIn_11, bTp_numberIn_19, bTp_numberIn_21, bTp_numberIn_32, bTp_numberIn_39, bTp_numberIn_75, bTp_numberIn_80, bTp_numberIn_85, bTp_numberIn_93, ln_xtape_bytes, rg_xtape_0, ty_xtape, ty_xtape_bytes, Option.toList_some, Option.toList_none, List.cons_append, List.nil_append, List.length_cons, List.length_nil, List.mem_cons, List.not_mem_nil, or_false, false_or, or_true, true_or, ↓reduceIte, true_and, and_true, Nat.reduceEqDiff, Nat.reduceAdd, Nat.reduceLeDiff, Nat.reduceLT, dl_i, dl_r, dl_n, dl_u, eq_self, not_true_eq_false, not_false_eq_true, n10, n01, nm0, n0m, imp_t, imp_f]
    have := he (by rw [hF]; decide) c hs.2
    rw [hF] at this
    exact this
  rw [bi_t hd]
  refine ⟨fun _ => ?_, fun q => absurd q n10⟩
  rw [if_neg (fun q => q hd)] at hF
  -- the end: the number p at x
  have fin : ∀ m, c + m ≤ n → rn T (nI 48) (nI 57) n c = c + m → (∀ i, i < m → nI 48 ≤ T (c + i) ∧ T (c + i) ≤ nI 57) → go 75 [some (.ref 1), some (.int lo), some (.int hi), some (.int (nI (pX T c m)))] [] (tp I (c + m) c) E (0, 0) := by
    intro m hm hr hdg
    have hp := pX_le (T := T) (c := c) m
    have hVm : nmV T n a = nI (min (pX T c m) 100000) := by rw [hV, hr, show c + m - c = m by omega, nv_pX m hdg]
    have hiff : (lo ≤ nmV T n a ∧ nmV T n a ≤ hi) ↔ (lo ≤ nI (pX T c m) ∧ nI (pX T c m) ≤ hi) := by
      rw [hVm]
      by_cases q : pX T c m ≤ 100000
      · rw [show min (pX T c m) 100000 = pX T c m by omega]
      · refine ⟨fun z => ?_, fun z => ?_⟩
        · have := Int32.le_trans z.2 hhi
          have := (nI_leI (by omega) (by omega)).mp this
          omega
        · have := Int32.le_trans z.2 hhi
          have := (nI_leI (by omega) (by omega)).mp this
          omega
    have bad : ¬ (lo ≤ nmV T n a ∧ nmV T n a ≤ hi) → go 85 [some (.ref 1), some (.int lo), some (.int hi), some (.int (nI (pX T c m)))] [] (tp I (c + m) c) E (0, 0) := by
      intro hb
      rw [if_pos hb] at hF
      refine hgo 20 [] 85 _ _ _ _ _ ?_
      simp only [ixr_of, run_s, run_0, rTp_numberIn, rok_i, rok_z, bx_cons, bx_nil, eADD, eBALD, eBP, eC0, eC1, eC2, eCV0, eCV1, eCm1, eDUPr, eGI, eGO, eGR, jICge, jICle, jIClt, jIFeq, jIFne, eLA0, eLDC, eLI1, eLI2, eLI3, eMIN, eMUL, ePI, ePOPi, eRI, eSI3, eSUB, fTp_numberIn_0, fTp_numberIn_11, fTp_numberIn_19, fTp_numberIn_21, fTp_numberIn_32, fTp_numberIn_39, fTp_numberIn_75, fTp_numberIn_80, fTp_numberIn_85, fTp_numberIn_93, bTp_numberIn_0, bTp_numberIn_11, bTp_numberIn_19, bTp_numberIn_21, bTp_numberIn_32, bTp_numberIn_39, bTp_numberIn_75, bTp_numberIn_80, bTp_numberIn_85, bTp_numberIn_93, ln_xtape_bytes, rg_xtape_0, ty_xtape, ty_xtape_bytes, Option.toList_some, Option.toList_none, List.cons_append, List.nil_append, List.length_cons, List.length_nil, List.mem_cons, List.not_mem_nil, or_false, false_or, or_true, true_or, ↓reduceIte, true_and, and_true, Nat.reduceEqDiff, Nat.reduceAdd, Nat.reduceLeDiff, Nat.reduceLT, dl_i, dl_r, dl_n, dl_u, eq_self, not_true_eq_false, not_false_eq_true, n10, n01, nm0, n0m, imp_t, imp_f]
      refine call0 (x_fails (k := 2) ?_)
      simp only [ixr_of, run_s, run_0, rTp_numberIn, rok_i, rok_z, bx_cons, bx_nil, eADD, eBALD, eBP, eC0, eC1, eC2, eCV0, eCV1, eCm1, eDUPr, eGI, eGO, eGR, jICge, jICle, jIClt, jIFeq, jIFne, eLA0, eLDC, eLI1, eLI2, eLI3, eMIN, eMUL, ePI, ePOPi, eRI, eSI3, eSUB, fTp_numberIn_0, fTp_numberIn_11, fTp_numberIn_19, fTp_numberIn_21, fTp_numberIn_32, fTp_numberIn_39, fTp_numberIn_75, fTp_numberIn_80, fTp_numberIn_85, fTp_numberIn_93, bTp_numberIn_0, bTp_numberIn_11, bTp_numberIn_19, bTp_numberIn_21, bTp_numberIn_32, bTp_numberIn_39, bTp_numberIn_75, bTp_numberIn_80, bTp_numberIn_85, bTp_numberIn_93, ln_xtape_bytes, rg_xtape_0, ty_xtape, ty_xtape_bytes, Option.toList_some, Option.toList_none, List.cons_append, List.nil_append, List.length_cons, List.length_nil, List.mem_cons, List.not_mem_nil, or_false, false_or, or_true, true_or, ↓reduceIte, true_and, and_true, Nat.reduceEqDiff, Nat.reduceAdd, Nat.reduceLeDiff, Nat.reduceLT, dl_i, dl_r, dl_n, dl_u, eq_self, not_true_eq_false, not_false_eq_true, n10, n01, nm0, n0m, imp_t, imp_f]
      have := he (by rw [hF]; decide) (c + m) hm
      rw [hF] at this
      exact this
    refine hgo 20 [85] 75 _ _ _ _ _ ?_
    simp only [ixr_of, run_s, run_0, rTp_numberIn, rok_i, rok_z, bx_cons, bx_nil, eADD, eBALD, eBP, eC0, eC1, eC2, eCV0, eCV1, eCm1, eDUPr, eGI, eGO, eGR, jICge, jICle, jIClt, jIFeq, jIFne, eLA0, eLDC, eLI1, eLI2, eLI3, eMIN, eMUL, ePI, ePOPi, eRI, eSI3, eSUB, fTp_numberIn_0, fTp_numberIn_11, fTp_numberIn_19, fTp_numberIn_21, fTp_numberIn_32, fTp_numberIn_39, fTp_numberIn_75, fTp_numberIn_80, fTp_numberIn_85, fTp_numberIn_93, bTp_numberIn_0, bTp_numberIn_11, bTp_numberIn_19, bTp_numberIn_21, bTp_numberIn_32, bTp_numberIn_39, bTp_numberIn_75, bTp_numberIn_80, bTp_numberIn_85, bTp_numberIn_93, ln_xtape_bytes, rg_xtape_0, ty_xtape, ty_xtape_bytes, Option.toList_some, Option.toList_none, List.cons_append, List.nil_append, List.length_cons, List.length_nil, List.mem_cons, List.not_mem_nil, or_false, false_or, or_true, true_or, ↓reduceIte, true_and, and_true, Nat.reduceEqDiff, Nat.reduceAdd, Nat.reduceLeDiff, Nat.reduceLT, dl_i, dl_r, dl_n, dl_u, eq_self, not_true_eq_false, not_false_eq_true, n10, n01, nm0, n0m, imp_t, imp_f]
    refine ⟨fun q => bad (fun z => i32_nle.mpr q (hiff.mp z).1), fun q => ⟨fun q2 => ?_, fun q2 => bad (fun z => q2 (hiff.mp z).2)⟩⟩
    have hin := hiff.mpr ⟨i32_nlt.mp q, q2⟩
    rw [if_neg (fun z => z hin)] at hF
    have := ho hF
    rw [hE, hr] at this
    have hle : pX T c m ≤ 999 := (nI_leI (by omega) (by decide)).mp (Int32.le_trans q2 hhi)
    rw [hVm, show min (pX T c m) 100000 = pX T c m by omega] at this
    exact this
  have loop : ∀ (f m : Nat), n - (c + m) = f → c + m ≤ n → rn T (nI 48) (nI 57) n (c + m) = rn T (nI 48) (nI 57) n c → (∀ i, i < m → nI 48 ≤ T (c + i) ∧ T (c + i) ≤ nI 57) → go 21 [some (.ref 1), some (.int lo), some (.int hi), some (.int (nI (pX T c m)))] [] (tp I (c + m) c) E (0, 0) := by
    intro f
    induction f with
    | zero =>
      intro m hf hm hs2 hdg
      have hmn : c + m = n := by omega
      have e2 : tp I (c + m) c 1 2 = nI n := by rw [tp_f (by decide) (by decide)]; exact h.2.2.1
      refine hgo 20 [21, 75] 21 _ _ _ _ _ ?_
      simp only [ixr_of, run_s, run_0, rTp_numberIn, rok_i, rok_z, bx_cons, bx_nil, eADD, eBALD, eBP, eC0, eC1, eC2, eCV0, eCV1, eCm1, eDUPr, eGI, eGO, eGR, jICge, jICle, jIClt, jIFeq, jIFne, eLA0, eLDC, eLI1, eLI2, eLI3, eMIN, eMUL, ePI, ePOPi, eRI, eSI3, eSUB, fTp_numberIn_0, fTp_numberIn_11, fTp_numberIn_19, fTp_numberIn_21, fTp_numberIn_32, fTp_numberIn_39, fTp_numberIn_75, fTp_numberIn_80, fTp_numberIn_85, fTp_numberIn_93, bTp_numberIn_0, bTp_numberIn_11, bTp_numberIn_19, bTp_numberIn_21, bTp_numberIn_32, bTp_numberIn_39, bTp_numberIn_75, bTp_numberIn_80, bTp_numberIn_85, bTp_numberIn_93, ln_xtape_bytes, rg_xtape_0, ty_xtape, ty_xtape_bytes, Option.toList_some, Option.toList_none, List.cons_append, List.nil_append, List.length_cons, List.length_nil, List.mem_cons, List.not_mem_nil, or_false, false_or, or_true, true_or, ↓reduceIte, true_and, and_true, Nat.reduceEqDiff, Nat.reduceAdd, Nat.reduceLeDiff, Nat.reduceLT, dl_i, dl_r, dl_n, dl_u, eq_self, not_true_eq_false, not_false_eq_true, n10, n01, nm0, n0m, tp_3, e2, imp_t, imp_f]
      rw [nIl (by omega) (by omega)]
      refine ⟨fun _ => ?_, fun q => absurd (by omega) q⟩
      refine fin m hm ?_ hdg
      rw [← hs2, rn_stop (by rw [hTe _ (by omega)]; decide)]
    | succ f ih =>
      intro m hf hm hs2 hdg
      have hmn : c + m < n := by omega
      have e2 : tp I (c + m) c 1 2 = nI n := by rw [tp_f (by decide) (by decide)]; exact h.2.2.1
      refine hgo 20 [21, 75] 21 _ _ _ _ _ ?_
      simp only [ixr_of, run_s, run_0, rTp_numberIn, rok_i, rok_z, bx_cons, bx_nil, eADD, eBALD, eBP, eC0, eC1, eC2, eCV0, eCV1, eCm1, eDUPr, eGI, eGO, eGR, jICge, jICle, jIClt, jIFeq, jIFne, eLA0, eLDC, eLI1, eLI2, eLI3, eMIN, eMUL, ePI, ePOPi, eRI, eSI3, eSUB, fTp_numberIn_0, fTp_numberIn_11, fTp_numberIn_19, fTp_numberIn_21, fTp_numberIn_32, fTp_numberIn_39, fTp_numberIn_75, fTp_numberIn_80, fTp_numberIn_85, fTp_numberIn_93, bTp_numberIn_0, bTp_numberIn_11, bTp_numberIn_19, bTp_numberIn_21, bTp_numberIn_32, bTp_numberIn_39, bTp_numberIn_75, bTp_numberIn_80, bTp_numberIn_85, bTp_numberIn_93, ln_xtape_bytes, rg_xtape_0, ty_xtape, ty_xtape_bytes, Option.toList_some, Option.toList_none, List.cons_append, List.nil_append, List.length_cons, List.length_nil, List.mem_cons, List.not_mem_nil, or_false, false_or, or_true, true_or, ↓reduceIte, true_and, and_true, Nat.reduceEqDiff, Nat.reduceAdd, Nat.reduceLeDiff, Nat.reduceLT, dl_i, dl_r, dl_n, dl_u, eq_self, not_true_eq_false, not_false_eq_true, n10, n01, nm0, n0m, tp_3, e2, imp_t, imp_f]
      rw [nIl (by omega) (by omega)]
      refine ⟨fun q => absurd q (by omega), fun _ => ?_⟩
      refine call0 (x_isDigit (h.tp hm) ?_)
      simp only [ixr_of, run_s, run_0, rTp_numberIn, rok_i, rok_z, bx_cons, bx_nil, eADD, eBALD, eBP, eC0, eC1, eC2, eCV0, eCV1, eCm1, eDUPr, eGI, eGO, eGR, jICge, jICle, jIClt, jIFeq, jIFne, eLA0, eLDC, eLI1, eLI2, eLI3, eMIN, eMUL, ePI, ePOPi, eRI, eSI3, eSUB, fTp_numberIn_0, fTp_numberIn_11, fTp_numberIn_19, fTp_numberIn_21, fTp_numberIn_32, fTp_numberIn_39, fTp_numberIn_75, fTp_numberIn_80, fTp_numberIn_85, fTp_numberIn_93, bTp_numberIn_0, bTp_numberIn_11, bTp_numberIn_19, bTp_numberIn_21, bTp_numberIn_32, bTp_numberIn_39, bTp_numberIn_75, bTp_numberIn_80, bTp_numberIn_85, bTp_numberIn_93, ln_xtape_bytes, rg_xtape_0, ty_xtape, ty_xtape_bytes, Option.toList_some, Option.toList_none, List.cons_append, List.nil_append, List.length_cons, List.length_nil, List.mem_cons, List.not_mem_nil, or_false, false_or, or_true, true_or, ↓reduceIte, true_and, and_true, Nat.reduceEqDiff, Nat.reduceAdd, Nat.reduceLeDiff, Nat.reduceLT, dl_i, dl_r, dl_n, dl_u, eq_self, not_true_eq_false, not_false_eq_true, n10, n01, nm0, n0m, imp_t, imp_f]
      by_cases hd2 : nI 48 ≤ T (c + m) ∧ T (c + m) ≤ nI 57
      rotate_left
      · rw [bi_f hd2]
        refine ⟨fun _ => ?_, fun q => absurd rfl q⟩
        exact fin m hm (by rw [← hs2, rn_stop hd2]) hdg
      rw [bi_t hd2]
      refine ⟨fun q => absurd q n10, fun _ => ?_⟩
      have hp := pX_le (T := T) (c := c) m
      obtain ⟨k, hk, e⟩ := dig hd2
      have e5 : tp I (c + m) c 2 (c + m) = nI (48 + k) := by
        rw [tp_o (by decide)]
        rw [(xt_eq (c := 48 + k) h.2.1 hn6 hmn (by omega)).mpr (by rw [h.1]; exact e)]
      have ix : c + m < 600 := by omega
      simp only [ixr_of, run_s, run_0, rTp_numberIn, rok_i, rok_z, bx_cons, bx_nil, eADD, eBALD, eBP, eC0, eC1, eC2, eCV0, eCV1, eCm1, eDUPr, eGI, eGO, eGR, jICge, jICle, jIClt, jIFeq, jIFne, eLA0, eLDC, eLI1, eLI2, eLI3, eMIN, eMUL, ePI, ePOPi, eRI, eSI3, eSUB, fTp_numberIn_0, fTp_numberIn_11, fTp_numberIn_19, fTp_numberIn_21, fTp_numberIn_32, fTp_numberIn_39, fTp_numberIn_75, fTp_numberIn_80, fTp_numberIn_85, fTp_numberIn_93, bTp_numberIn_0, bTp_numberIn_11, bTp_numberIn_19, bTp_numberIn_21, bTp_numberIn_32, bTp_numberIn_39, bTp_numberIn_75, bTp_numberIn_80, bTp_numberIn_85, bTp_numberIn_93, ln_xtape_bytes, rg_xtape_0, ty_xtape, ty_xtape_bytes, Option.toList_some, Option.toList_none, List.cons_append, List.nil_append, List.length_cons, List.length_nil, List.mem_cons, List.not_mem_nil, or_false, false_or, or_true, true_or, ↓reduceIte, true_and, and_true, Nat.reduceEqDiff, Nat.reduceAdd, Nat.reduceLeDiff, Nat.reduceLT, dl_i, dl_r, dl_n, dl_u, eq_self, not_true_eq_false, not_false_eq_true, n10, n01, nm0, n0m, tp_3, ix, e5, imp_t, imp_f]
      rw [nI_ml, nI_sb (by omega), nI_add, miI_n (by omega) (by omega), nI_add, tp_up3]
      have := ih (m + 1) (by omega) (by omega) ((rn_step hmn hd2).symm.trans hs2) (fun i hi => by
        by_cases q : i < m
        · exact hdg i q
        · rw [show i = m by omega]; exact hd2)
      rw [show pX T c (m + 1) = min (pX T c m * 10 + (48 + k - 48)) 1000000 by rw [pX, e, nI_clamp (by omega)]; congr 1; omega] at this
      exact this
  have l0 := loop (n - c) 0 (by omega) (by omega) rfl (fun i hi => by omega)
  exact l0
/-- the text of the word w stands from c to e -/
theorem x_stands {w c e : Nat} (hG : GW Γ) (hw : w < 20) (hT : xt I n = T) (hB : By I) (hn6 : n ≤ 600) (he : I 1 3 = nI e) (hc : I 1 4 = nI c) (hce : c ≤ e) (hen : e ≤ n)
    (hk : kr (some (.int (bi (e = c + (wtx w).length ∧ ∀ i, i < (wtx w).length → T (c + i) = (wtx w).getD i 0)))) I E) : Ex Γ l (shB b) (d + 5) (0, 0) mTp_stands [.ref 1, .ref (1000000 + wst' Γ w)] I E kr kx := by
  refine ex_of (ls0 := [some (.ref 1), some (.ref (1000000 + wst' Γ w)), none]) tTp_stands (by decide +kernel) kTp_stands rfl (Nat.le_of_ble_eq_true rfl) rfl ?_
  intro go hgo
  obtain ⟨hl1, hl2⟩ := wtl_len w hw
  refine hgo 20 [20] 0 _ _ _ _ _ ?_
  simp only [ixr_of, run_s, run_0, rTp_stands, rok_i, rok_z, bx_cons, bx_nil, eADD, eBALD, eC0, eC1, eCT0, eCT1, eGI, eGO, eGR, jICeq, jICge, eINC2, eLA0, eLA1, eLI2, eRI, eSI2, eSUB, fTp_stands_0, fTp_stands_16, fTp_stands_18, fTp_stands_20, fTp_stands_28, fTp_stands_47, fTp_stands_49, fTp_stands_55, bTp_stands_0, bTp_stands_16, bTp_stands_18, bTp_stands_20, bTp_stands_28, bTp_stands_47, bTp_stands_49, bTp_stands_55, ln_xtape_bytes, rg_xtape_0, ty_xtape, ty_xtape_bytes, Option.toList_some, Option.toList_none, List.cons_append, List.nil_append, List.length_cons, List.length_nil, List.mem_cons, List.not_mem_nil, or_false, false_or, or_true, true_or, ↓reduceIte, true_and, and_true, Nat.reduceEqDiff, Nat.reduceAdd, Nat.reduceLeDiff, Nat.reduceLT, dl_i, dl_r, dl_n, dl_u, eq_self, not_true_eq_false, not_false_eq_true, n10, n01, nm0, n0m, imp_t, imp_f]
  refine ⟨hG, ⟨w, hw, rfl⟩, ?_⟩
  refine call0 (x_length hG hw ?_)
  simp only [ixr_of, run_s, run_0, rTp_stands, rok_i, rok_z, bx_cons, bx_nil, eADD, eBALD, eC0, eC1, eCT0, eCT1, eGI, eGO, eGR, jICeq, jICge, eINC2, eLA0, eLA1, eLI2, eRI, eSI2, eSUB, fTp_stands_0, fTp_stands_16, fTp_stands_18, fTp_stands_20, fTp_stands_28, fTp_stands_47, fTp_stands_49, fTp_stands_55, bTp_stands_0, bTp_stands_16, bTp_stands_18, bTp_stands_20, bTp_stands_28, bTp_stands_47, bTp_stands_49, bTp_stands_55, ln_xtape_bytes, rg_xtape_0, ty_xtape, ty_xtape_bytes, Option.toList_some, Option.toList_none, List.cons_append, List.nil_append, List.length_cons, List.length_nil, List.mem_cons, List.not_mem_nil, or_false, false_or, or_true, true_or, ↓reduceIte, true_and, and_true, Nat.reduceEqDiff, Nat.reduceAdd, Nat.reduceLeDiff, Nat.reduceLT, dl_i, dl_r, dl_n, dl_u, eq_self, not_true_eq_false, not_false_eq_true, n10, n01, nm0, n0m, he, hc, imp_t, imp_f]
  rw [nI_sb hce, nIe (by omega) (by omega)]
  refine ⟨fun q => ?_, fun q => ?_⟩
  rotate_left
  · rw [bi_f (by omega)] at hk
    exact hk
  have hv : ∀ w, w < 20 → ∀ i, i < (wtx w).length → ∃ k, k < 128 ∧ (wtx w).getD i 0 = nI k := by decide +kernel
  have loop : ∀ (g i : Nat), g + i = (wtx w).length → (∀ j, j < i → T (c + j) = (wtx w).getD j 0) → go 20 [some (.ref 1), some (.ref (1000000 + wst' Γ w)), some (.int (nI i))] [] I E (0, 0) := by
    intro g
    induction g with
    | zero =>
      intro i hi hj
      have : i = (wtx w).length := by omega
      subst this
      refine hgo 20 [20] 20 _ _ _ _ _ ?_
      simp only [ixr_of, run_s, run_0, rTp_stands, rok_i, rok_z, bx_cons, bx_nil, eADD, eBALD, eC0, eC1, eCT0, eCT1, eGI, eGO, eGR, jICeq, jICge, eINC2, eLA0, eLA1, eLI2, eRI, eSI2, eSUB, fTp_stands_0, fTp_stands_16, fTp_stands_18, fTp_stands_20, fTp_stands_28, fTp_stands_47, fTp_stands_49, fTp_stands_55, bTp_stands_0, bTp_stands_16, bTp_stands_18, bTp_stands_20, bTp_stands_28, bTp_stands_47, bTp_stands_49, bTp_stands_55, ln_xtape_bytes, rg_xtape_0, ty_xtape, ty_xtape_bytes, Option.toList_some, Option.toList_none, List.cons_append, List.nil_append, List.length_cons, List.length_nil, List.mem_cons, List.not_mem_nil, or_false, false_or, or_true, true_or, ↓reduceIte, true_and, and_true, Nat.reduceEqDiff, Nat.reduceAdd, Nat.reduceLeDiff, Nat.reduceLT, dl_i, dl_r, dl_n, dl_u, eq_self, not_true_eq_false, not_false_eq_true, n10, n01, nm0, n0m, imp_t, imp_f]
      refine ⟨hG, ⟨w, hw, rfl⟩, ?_⟩
      refine call0 (x_length hG hw ?_)
      simp only [ixr_of, run_s, run_0, rTp_stands, rok_i, rok_z, bx_cons, bx_nil, eADD, eBALD, eC0, eC1, eCT0, eCT1, eGI, eGO, eGR, jICeq, jICge, eINC2, eLA0, eLA1, eLI2, eRI, eSI2, eSUB, fTp_stands_0, fTp_stands_16, fTp_stands_18, fTp_stands_20, fTp_stands_28, fTp_stands_47, fTp_stands_49, fTp_stands_55, bTp_stands_0, bTp_stands_16, bTp_stands_18, bTp_stands_20, bTp_stands_28, bTp_stands_47, bTp_stands_49, bTp_stands_55, ln_xtape_bytes, rg_xtape_0, ty_xtape, ty_xtape_bytes, Option.toList_some, Option.toList_none, List.cons_append, List.nil_append, List.length_cons, List.length_nil, List.mem_cons, List.not_mem_nil, or_false, false_or, or_true, true_or, ↓reduceIte, true_and, and_true, Nat.reduceEqDiff, Nat.reduceAdd, Nat.reduceLeDiff, Nat.reduceLT, dl_i, dl_r, dl_n, dl_u, eq_self, not_true_eq_false, not_false_eq_true, n10, n01, nm0, n0m, imp_t, imp_f]
      refine ⟨fun _ => ?_, fun q => absurd (Int32.le_refl _) q⟩
      rw [bi_t ⟨by omega, hj⟩] at hk
      exact hk
    | succ g ih =>
      intro i hi hj
      have hil : i < (wtx w).length := by omega
      have ix : c + i < 600 := by omega
      refine hgo 20 [20] 20 _ _ _ _ _ ?_
      simp only [ixr_of, run_s, run_0, rTp_stands, rok_i, rok_z, bx_cons, bx_nil, eADD, eBALD, eC0, eC1, eCT0, eCT1, eGI, eGO, eGR, jICeq, jICge, eINC2, eLA0, eLA1, eLI2, eRI, eSI2, eSUB, fTp_stands_0, fTp_stands_16, fTp_stands_18, fTp_stands_20, fTp_stands_28, fTp_stands_47, fTp_stands_49, fTp_stands_55, bTp_stands_0, bTp_stands_16, bTp_stands_18, bTp_stands_20, bTp_stands_28, bTp_stands_47, bTp_stands_49, bTp_stands_55, ln_xtape_bytes, rg_xtape_0, ty_xtape, ty_xtape_bytes, Option.toList_some, Option.toList_none, List.cons_append, List.nil_append, List.length_cons, List.length_nil, List.mem_cons, List.not_mem_nil, or_false, false_or, or_true, true_or, ↓reduceIte, true_and, and_true, Nat.reduceEqDiff, Nat.reduceAdd, Nat.reduceLeDiff, Nat.reduceLT, dl_i, dl_r, dl_n, dl_u, eq_self, not_true_eq_false, not_false_eq_true, n10, n01, nm0, n0m, imp_t, imp_f]
      refine ⟨hG, ⟨w, hw, rfl⟩, ?_⟩
      refine call0 (x_length hG hw ?_)
      simp only [ixr_of, run_s, run_0, rTp_stands, rok_i, rok_z, bx_cons, bx_nil, eADD, eBALD, eC0, eC1, eCT0, eCT1, eGI, eGO, eGR, jICeq, jICge, eINC2, eLA0, eLA1, eLI2, eRI, eSI2, eSUB, fTp_stands_0, fTp_stands_16, fTp_stands_18, fTp_stands_20, fTp_stands_28, fTp_stands_47, fTp_stands_49, fTp_stands_55, bTp_stands_0, bTp_stands_16, bTp_stands_18, bTp_stands_20, bTp_stands_28, bTp_stands_47, bTp_stands_49, bTp_stands_55, ln_xtape_bytes, rg_xtape_0, ty_xtape, ty_xtape_bytes, Option.toList_some, Option.toList_none, List.cons_append, List.nil_append, List.length_cons, List.length_nil, List.mem_cons, List.not_mem_nil, or_false, false_or, or_true, true_or, ↓reduceIte, true_and, and_true, Nat.reduceEqDiff, Nat.reduceAdd, Nat.reduceLeDiff, Nat.reduceLT, dl_i, dl_r, dl_n, dl_u, eq_self, not_true_eq_false, not_false_eq_true, n10, n01, nm0, n0m, hc, nI_add, ix, imp_t, imp_f]
      rw [nIl (by omega) (by omega)]
      refine ⟨fun q => absurd q (by omega), fun _ => ⟨hG, ⟨w, hw, rfl⟩, ?_⟩⟩
      refine call0 (x_charAt hG hw hil ?_)
      simp only [ixr_of, run_s, run_0, rTp_stands, rok_i, rok_z, bx_cons, bx_nil, eADD, eBALD, eC0, eC1, eCT0, eCT1, eGI, eGO, eGR, jICeq, jICge, eINC2, eLA0, eLA1, eLI2, eRI, eSI2, eSUB, fTp_stands_0, fTp_stands_16, fTp_stands_18, fTp_stands_20, fTp_stands_28, fTp_stands_47, fTp_stands_49, fTp_stands_55, bTp_stands_0, bTp_stands_16, bTp_stands_18, bTp_stands_20, bTp_stands_28, bTp_stands_47, bTp_stands_49, bTp_stands_55, ln_xtape_bytes, rg_xtape_0, ty_xtape, ty_xtape_bytes, Option.toList_some, Option.toList_none, List.cons_append, List.nil_append, List.length_cons, List.length_nil, List.mem_cons, List.not_mem_nil, or_false, false_or, or_true, true_or, ↓reduceIte, true_and, and_true, Nat.reduceEqDiff, Nat.reduceAdd, Nat.reduceLeDiff, Nat.reduceLT, dl_i, dl_r, dl_n, dl_u, eq_self, not_true_eq_false, not_false_eq_true, n10, n01, nm0, n0m, imp_t, imp_f]
      obtain ⟨k, hk1, hk2⟩ := hv w hw i hil
      have hx := xt_eq (n := n) (k := c + i) hB hn6 (by omega) hk1
      rw [hT] at hx
      rw [hk2]
      refine ⟨fun q => ?_, fun q => ?_⟩
      · rw [nI_add]
        exact ih (i + 1) (by omega) (fun j hj' => by
          by_cases z : j < i
          · exact hj j z
          · rw [show j = i by omega, hk2]; exact hx.mp q)
      · rw [bi_f (fun z => q (hx.mpr (by rw [← hk2]; exact z.2 i hil)))] at hk
        exact hk
  exact loop _ 0 (by omega) (fun j hj => by omega)
theorem x_nextWord (hG : GW Γ) (h : TSt T n I a) (hk : ∀ w, Wi T n (sk T n a) w → kr (some (.ref (wrf Γ w))) (tp I (wEnd T n (sk T n a)) (sk T n a)) E) : Ex Γ l (shB b) (d + 6) (0, 0) mTp_nextWord [.ref 1] I E kr kx := by
  refine ex_of (ls0 := [some (.ref 1), none, none, none, none]) tTp_nextWord (by decide +kernel) kTp_nextWord rfl (Nat.le_of_ble_eq_true rfl) rfl ?_
  intro go hgo
  have hs := sk_b (t := T) h.2.2.2.2.2
  have hn6 := h.2.2.2.1
  have hTe : Tx T n := by rw [← h.1]; exact xt_Tx
  obtain ⟨c, hc⟩ : ∃ c, c = sk T n a := ⟨_, rfl⟩
  rw [← hc] at hs hk
  refine hgo 20 [4] 0 _ _ _ _ _ ?_
  simp only [ixr_of, run_s, run_0, rTp_nextWord, rok_i, rok_z, bx_cons, bx_nil, eADD, eAL, eBALD, eBP, eC0, eC1, eCV0, eCV1, eDUPr, eGI, eGO, eGR, eGS, eGW, jICge, jICgt, jIClt, jIFeq, eINC3, eLA0, eLA1, eLA4, eLI2, eLI3, ePI, eRA, eSA1, eSA4, eSI2, eSI3, eWA, eWL, fTp_nextWord_0, fTp_nextWord_4, fTp_nextWord_15, fTp_nextWord_29, fTp_nextWord_43, fTp_nextWord_56, fTp_nextWord_65, fTp_nextWord_70, fTp_nextWord_87, fTp_nextWord_90, fTp_nextWord_96, bTp_nextWord_0, bTp_nextWord_4, bTp_nextWord_15, bTp_nextWord_29, bTp_nextWord_43, bTp_nextWord_56, bTp_nextWord_65, bTp_nextWord_70, bTp_nextWord_87, bTp_nextWord_90, bTp_nextWord_96, ln_xtape_bytes, rg_xtape_0, ty_xtape, ty_xtape_bytes, Option.toList_some, Option.toList_none, List.cons_append, List.nil_append, List.length_cons, List.length_nil, List.mem_cons, List.not_mem_nil, or_false, false_or, or_true, true_or, ↓reduceIte, true_and, and_true, Nat.reduceEqDiff, Nat.reduceAdd, Nat.reduceLeDiff, Nat.reduceLT, dl_i, dl_r, dl_n, dl_u, eq_self, not_true_eq_false, not_false_eq_true, n10, n01, nm0, n0m, wfv0, wfv1, wfv2, imp_t, imp_f]
  refine call0 (x_seek h ?_)
  rw [← hc]
  simp only [ixr_of, run_s, run_0, rTp_nextWord, rok_i, rok_z, bx_cons, bx_nil, eADD, eAL, eBALD, eBP, eC0, eC1, eCV0, eCV1, eDUPr, eGI, eGO, eGR, eGS, eGW, jICge, jICgt, jIClt, jIFeq, eINC3, eLA0, eLA1, eLA4, eLI2, eLI3, ePI, eRA, eSA1, eSA4, eSI2, eSI3, eWA, eWL, fTp_nextWord_0, fTp_nextWord_4, fTp_nextWord_15, fTp_nextWord_29, fTp_nextWord_43, fTp_nextWord_56, fTp_nextWord_65, fTp_nextWord_70, fTp_nextWord_87, fTp_nextWord_90, fTp_nextWord_96, bTp_nextWord_0, bTp_nextWord_4, bTp_nextWord_15, bTp_nextWord_29, bTp_nextWord_43, bTp_nextWord_56, bTp_nextWord_65, bTp_nextWord_70, bTp_nextWord_87, bTp_nextWord_90, bTp_nextWord_96, ln_xtape_bytes, rg_xtape_0, ty_xtape, ty_xtape_bytes, Option.toList_some, Option.toList_none, List.cons_append, List.nil_append, List.length_cons, List.length_nil, List.mem_cons, List.not_mem_nil, or_false, false_or, or_true, true_or, ↓reduceIte, true_and, and_true, Nat.reduceEqDiff, Nat.reduceAdd, Nat.reduceLeDiff, Nat.reduceLT, dl_i, dl_r, dl_n, dl_u, eq_self, not_true_eq_false, not_false_eq_true, n10, n01, nm0, n0m, wfv0, wfv1, wfv2, imp_t, imp_f]
  have hwe := rn_b (t := T) (lo := nI 97) (hi := nI 122) hs.2
  have fin : ∀ (g w : Nat), g + w = 20 → (∀ v, v < w → v < 19 → ¬ wMt T n c v) → ∀ y, go 65 [some (.ref 1), some (.ref (1000000 + wAL Γ)), some (.int (nI 20)), some (.int (nI w)), y] [] (tp I (wEnd T n c) c) E (0, 0) := by
    intro g
    induction g with
    | zero =>
      intro w hw hv y
      have : w = 20 := by omega
      subst this
      refine hgo 20 [65] 65 _ _ _ _ _ ?_
      simp only [ixr_of, run_s, run_0, rTp_nextWord, rok_i, rok_z, bx_cons, bx_nil, eADD, eAL, eBALD, eBP, eC0, eC1, eCV0, eCV1, eDUPr, eGI, eGO, eGR, eGS, eGW, jICge, jICgt, jIClt, jIFeq, eINC3, eLA0, eLA1, eLA4, eLI2, eLI3, ePI, eRA, eSA1, eSA4, eSI2, eSI3, eWA, eWL, fTp_nextWord_0, fTp_nextWord_4, fTp_nextWord_15, fTp_nextWord_29, fTp_nextWord_43, fTp_nextWord_56, fTp_nextWord_65, fTp_nextWord_70, fTp_nextWord_87, fTp_nextWord_90, fTp_nextWord_96, bTp_nextWord_0, bTp_nextWord_4, bTp_nextWord_15, bTp_nextWord_29, bTp_nextWord_43, bTp_nextWord_56, bTp_nextWord_65, bTp_nextWord_70, bTp_nextWord_87, bTp_nextWord_90, bTp_nextWord_96, ln_xtape_bytes, rg_xtape_0, ty_xtape, ty_xtape_bytes, Option.toList_some, Option.toList_none, List.cons_append, List.nil_append, List.length_cons, List.length_nil, List.mem_cons, List.not_mem_nil, or_false, false_or, or_true, true_or, ↓reduceIte, true_and, and_true, Nat.reduceEqDiff, Nat.reduceAdd, Nat.reduceLeDiff, Nat.reduceLT, dl_i, dl_r, dl_n, dl_u, eq_self, not_true_eq_false, not_false_eq_true, n10, n01, nm0, n0m, wfv0, wfv1, wfv2, imp_t, imp_f]
      refine ⟨fun _ => ⟨hG, ⟨_, rfl⟩, ?_⟩, fun q => absurd (Int32.le_refl _) q⟩
      refine hk 19 ⟨by decide, fun v hv' => ?_⟩
      rw [← wMt_c hs.2 hv']
      exact ⟨fun q => absurd q (hv v (by omega) hv'), fun q => by omega⟩
    | succ g ih =>
      intro w hw hv y
      have w20 : w < 20 := by omega
      refine hgo 20 [65] 65 _ _ _ _ _ ?_
      simp only [ixr_of, run_s, run_0, rTp_nextWord, rok_i, rok_z, bx_cons, bx_nil, eADD, eAL, eBALD, eBP, eC0, eC1, eCV0, eCV1, eDUPr, eGI, eGO, eGR, eGS, eGW, jICge, jICgt, jIClt, jIFeq, eINC3, eLA0, eLA1, eLA4, eLI2, eLI3, ePI, eRA, eSA1, eSA4, eSI2, eSI3, eWA, eWL, fTp_nextWord_0, fTp_nextWord_4, fTp_nextWord_15, fTp_nextWord_29, fTp_nextWord_43, fTp_nextWord_56, fTp_nextWord_65, fTp_nextWord_70, fTp_nextWord_87, fTp_nextWord_90, fTp_nextWord_96, bTp_nextWord_0, bTp_nextWord_4, bTp_nextWord_15, bTp_nextWord_29, bTp_nextWord_43, bTp_nextWord_56, bTp_nextWord_65, bTp_nextWord_70, bTp_nextWord_87, bTp_nextWord_90, bTp_nextWord_96, ln_xtape_bytes, rg_xtape_0, ty_xtape, ty_xtape_bytes, Option.toList_some, Option.toList_none, List.cons_append, List.nil_append, List.length_cons, List.length_nil, List.mem_cons, List.not_mem_nil, or_false, false_or, or_true, true_or, ↓reduceIte, true_and, and_true, Nat.reduceEqDiff, Nat.reduceAdd, Nat.reduceLeDiff, Nat.reduceLT, dl_i, dl_r, dl_n, dl_u, eq_self, not_true_eq_false, not_false_eq_true, n10, n01, nm0, n0m, w20, wfv0, wfv1, wfv2, imp_t, imp_f]
      rw [nIl (by omega) (by omega)]
      refine ⟨fun q => absurd q (by omega), fun _ => ⟨hG, hG, w, w20, rfl, ?_⟩⟩
      refine call0 (x_stands (n := n) (T := T) (c := c) (e := wEnd T n c) hG w20 (by rw [xt_2 (tp_o (by decide))]; exact h.1) (fun k hk' => by rw [tp_o (by decide)]; exact h.2.1 k hk') hn6 tp_3 tp_4 hwe.1 hwe.2 ?_)
      simp only [ixr_of, run_s, run_0, rTp_nextWord, rok_i, rok_z, bx_cons, bx_nil, eADD, eAL, eBALD, eBP, eC0, eC1, eCV0, eCV1, eDUPr, eGI, eGO, eGR, eGS, eGW, jICge, jICgt, jIClt, jIFeq, eINC3, eLA0, eLA1, eLA4, eLI2, eLI3, ePI, eRA, eSA1, eSA4, eSI2, eSI3, eWA, eWL, fTp_nextWord_0, fTp_nextWord_4, fTp_nextWord_15, fTp_nextWord_29, fTp_nextWord_43, fTp_nextWord_56, fTp_nextWord_65, fTp_nextWord_70, fTp_nextWord_87, fTp_nextWord_90, fTp_nextWord_96, bTp_nextWord_0, bTp_nextWord_4, bTp_nextWord_15, bTp_nextWord_29, bTp_nextWord_43, bTp_nextWord_56, bTp_nextWord_65, bTp_nextWord_70, bTp_nextWord_87, bTp_nextWord_90, bTp_nextWord_96, ln_xtape_bytes, rg_xtape_0, ty_xtape, ty_xtape_bytes, Option.toList_some, Option.toList_none, List.cons_append, List.nil_append, List.length_cons, List.length_nil, List.mem_cons, List.not_mem_nil, or_false, false_or, or_true, true_or, ↓reduceIte, true_and, and_true, Nat.reduceEqDiff, Nat.reduceAdd, Nat.reduceLeDiff, Nat.reduceLT, dl_i, dl_r, dl_n, dl_u, eq_self, not_true_eq_false, not_false_eq_true, n10, n01, nm0, n0m, wfv0, wfv1, wfv2, imp_t, imp_f]
      by_cases hm : wMt T n c w
      · rw [bi_t (show wEnd T n c = c + (wtx w).length ∧ ∀ i, i < (wtx w).length → T (c + i) = (wtx w).getD i 0 from hm)]
        refine ⟨fun q => absurd q n10, fun _ => ⟨⟨_, rfl⟩, ?_⟩⟩
        by_cases w19 : w < 19
        · refine hk w ⟨w20, fun v hv' => ?_⟩
          have hcw := (wMt_c hs.2 w19).mp hm
          refine ⟨fun q => ?_, fun q => by rw [q]; exact hcw⟩
          have hinj : ∀ v, v < 19 → ∀ w, w < 19 → wcd w = wcd v → v = w := by decide +kernel
          exact hinj v hv' w w19 (hcw.symm.trans q)
        · have : w = 19 := by omega
          subst this
          refine hk 19 ⟨by decide, fun v hv' => ?_⟩
          rw [← wMt_c hs.2 hv']
          exact ⟨fun q => absurd q (hv v hv' hv'), fun q => by omega⟩
      · rw [bi_f (show ¬ (wEnd T n c = c + (wtx w).length ∧ ∀ i, i < (wtx w).length → T (c + i) = (wtx w).getD i 0) from hm)]
        refine ⟨fun _ => ?_, fun q => absurd rfl q⟩
        rw [nI_add]
        exact ih (w + 1) (by omega) (fun v h1 h2 => by
          by_cases q : v < w
          · exact hv v q h2
          · rw [show v = w by omega]; exact hm) _
  have tail : go 56 [some (.ref 1), none, none, none, none] [] (tp I (wEnd T n c) c) E (0, 0) := by
    refine hgo 20 [65] 56 _ _ _ _ _ ?_
    simp only [ixr_of, run_s, run_0, rTp_nextWord, rok_i, rok_z, bx_cons, bx_nil, eADD, eAL, eBALD, eBP, eC0, eC1, eCV0, eCV1, eDUPr, eGI, eGO, eGR, eGS, eGW, jICge, jICgt, jIClt, jIFeq, eINC3, eLA0, eLA1, eLA4, eLI2, eLI3, ePI, eRA, eSA1, eSA4, eSI2, eSI3, eWA, eWL, fTp_nextWord_0, fTp_nextWord_4, fTp_nextWord_15, fTp_nextWord_29, fTp_nextWord_43, fTp_nextWord_56, fTp_nextWord_65, fTp_nextWord_70, fTp_nextWord_87, fTp_nextWord_90, fTp_nextWord_96, bTp_nextWord_0, bTp_nextWord_4, bTp_nextWord_15, bTp_nextWord_29, bTp_nextWord_43, bTp_nextWord_56, bTp_nextWord_65, bTp_nextWord_70, bTp_nextWord_87, bTp_nextWord_90, bTp_nextWord_96, ln_xtape_bytes, rg_xtape_0, ty_xtape, ty_xtape_bytes, Option.toList_some, Option.toList_none, List.cons_append, List.nil_append, List.length_cons, List.length_nil, List.mem_cons, List.not_mem_nil, or_false, false_or, or_true, true_or, ↓reduceIte, true_and, and_true, Nat.reduceEqDiff, Nat.reduceAdd, Nat.reduceLeDiff, Nat.reduceLT, dl_i, dl_r, dl_n, dl_u, eq_self, not_true_eq_false, not_false_eq_true, n10, n01, nm0, n0m, wfv0, wfv1, wfv2, imp_t, imp_f]
    exact ⟨hG, hG, fin 20 0 rfl (fun v h1 => by omega) none⟩
  have loop : ∀ (f x : Nat), n - x = f → x ≤ n → rn T (nI 97) (nI 122) n x = wEnd T n c → go 4 [some (.ref 1), none, none, none, none] [] (tp I x c) E (0, 0) := by
    intro f
    induction f with
    | zero =>
      intro x hf hx hs2
      have hxn : x = n := by omega
      have e2 : tp I x c 1 2 = nI n := by rw [tp_f (by decide) (by decide)]; exact h.2.2.1
      refine hgo 20 [4, 56] 4 _ _ _ _ _ ?_
      simp only [ixr_of, run_s, run_0, rTp_nextWord, rok_i, rok_z, bx_cons, bx_nil, eADD, eAL, eBALD, eBP, eC0, eC1, eCV0, eCV1, eDUPr, eGI, eGO, eGR, eGS, eGW, jICge, jICgt, jIClt, jIFeq, eINC3, eLA0, eLA1, eLA4, eLI2, eLI3, ePI, eRA, eSA1, eSA4, eSI2, eSI3, eWA, eWL, fTp_nextWord_0, fTp_nextWord_4, fTp_nextWord_15, fTp_nextWord_29, fTp_nextWord_43, fTp_nextWord_56, fTp_nextWord_65, fTp_nextWord_70, fTp_nextWord_87, fTp_nextWord_90, fTp_nextWord_96, bTp_nextWord_0, bTp_nextWord_4, bTp_nextWord_15, bTp_nextWord_29, bTp_nextWord_43, bTp_nextWord_56, bTp_nextWord_65, bTp_nextWord_70, bTp_nextWord_87, bTp_nextWord_90, bTp_nextWord_96, ln_xtape_bytes, rg_xtape_0, ty_xtape, ty_xtape_bytes, Option.toList_some, Option.toList_none, List.cons_append, List.nil_append, List.length_cons, List.length_nil, List.mem_cons, List.not_mem_nil, or_false, false_or, or_true, true_or, ↓reduceIte, true_and, and_true, Nat.reduceEqDiff, Nat.reduceAdd, Nat.reduceLeDiff, Nat.reduceLT, dl_i, dl_r, dl_n, dl_u, eq_self, not_true_eq_false, not_false_eq_true, n10, n01, nm0, n0m, tp_3, e2, wfv0, wfv1, wfv2, imp_t, imp_f]
      rw [nIl (by omega) (by omega)]
      refine ⟨fun _ => ?_, fun q => absurd (by omega) q⟩
      rw [← hs2, rn_stop (by rw [hTe _ (by omega)]; decide)] at tail
      exact tail
    | succ f ih =>
      intro x hf hx hs2
      have hxn : x < n := by omega
      have ix : x < 600 := by omega
      have e2 : tp I x c 1 2 = nI n := by rw [tp_f (by decide) (by decide)]; exact h.2.2.1
      have e4 : tp I x c 2 x = I 2 x := by rw [tp_o (by decide)]
      have hr := xt_r h.2.1 hn6 hxn (lo := 97) (hi := 122) (by decide) (by decide)
      rw [h.1] at hr
      have out : ¬ (nI 97 ≤ T x ∧ T x ≤ nI 122) → go 56 [some (.ref 1), none, none, none, none] [] (tp I x c) E (0, 0) := by
        intro q
        rw [← hs2, rn_stop q] at tail
        exact tail
      refine hgo 20 [4, 56] 4 _ _ _ _ _ ?_
      simp only [ixr_of, run_s, run_0, rTp_nextWord, rok_i, rok_z, bx_cons, bx_nil, eADD, eAL, eBALD, eBP, eC0, eC1, eCV0, eCV1, eDUPr, eGI, eGO, eGR, eGS, eGW, jICge, jICgt, jIClt, jIFeq, eINC3, eLA0, eLA1, eLA4, eLI2, eLI3, ePI, eRA, eSA1, eSA4, eSI2, eSI3, eWA, eWL, fTp_nextWord_0, fTp_nextWord_4, fTp_nextWord_15, fTp_nextWord_29, fTp_nextWord_43, fTp_nextWord_56, fTp_nextWord_65, fTp_nextWord_70, fTp_nextWord_87, fTp_nextWord_90, fTp_nextWord_96, bTp_nextWord_0, bTp_nextWord_4, bTp_nextWord_15, bTp_nextWord_29, bTp_nextWord_43, bTp_nextWord_56, bTp_nextWord_65, bTp_nextWord_70, bTp_nextWord_87, bTp_nextWord_90, bTp_nextWord_96, ln_xtape_bytes, rg_xtape_0, ty_xtape, ty_xtape_bytes, Option.toList_some, Option.toList_none, List.cons_append, List.nil_append, List.length_cons, List.length_nil, List.mem_cons, List.not_mem_nil, or_false, false_or, or_true, true_or, ↓reduceIte, true_and, and_true, Nat.reduceEqDiff, Nat.reduceAdd, Nat.reduceLeDiff, Nat.reduceLT, dl_i, dl_r, dl_n, dl_u, eq_self, not_true_eq_false, not_false_eq_true, n10, n01, nm0, n0m, tp_3, e2, ix, e4, wfv0, wfv1, wfv2, imp_t, imp_f]
      rw [nIl (by omega) (by omega)]
      refine ⟨fun q => absurd q (by omega), fun _ => ⟨fun q => out (fun z => i32_nle.mpr q (hr.mpr z).1), fun q => ⟨fun q2 => out (fun z => i32_nle.mpr q2 (hr.mpr z).2), fun q2 => ?_⟩⟩⟩
      rw [nI_add, tp_up3]
      exact ih (x + 1) (by omega) (by omega) ((rn_step hxn (hr.mp ⟨i32_nlt.mp q, i32_nlt.mp q2⟩)).symm.trans hs2)
  exact loop (n - c) c rfl hs.2 rfl
end XT2
