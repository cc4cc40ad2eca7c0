/-! contracts of HerbWatersModel, 35: town, feed -/
def ErT (I : Iv) (e : Nat × Nat) (J : Iv) : Prop := (∀ i, i ≠ 500000 → i ≠ 500003 → ¬ (500006 ≤ i ∧ i < 500015) → ¬ (500026 ≤ i ∧ i < 500046) → J i = I i) ∧ (∀ j, 8 < j → J 500000 j = I 500000 j) ∧ J 500000 0 = nI 0 ∧ J 500000 1 = nI 0 ∧ J 500000 3 = nI e.2
/-- the town S is told -/
def TwK (J : Iv) (S : Tn) : Prop := J 500004 0 = nI S.1.1 ∧ J 500004 1 = nI S.1.2 ∧ J 500004 2 = tvI S.2.1.1 ∧ J 500004 3 = nI S.2.1.2.1 ∧ J 500004 4 = nI S.2.1.2.2 ∧ (∀ v i, v < S.1.1 → i < 8 → J (500016 + v) i = nI (S.2.2.1 v i)) ∧ (∀ c i, c < S.1.2 → i < 3 → J (500047 + c) i = nI (S.2.2.2 c i))
def TwJ (I : Iv) (S : Tn) (J : Iv) : Prop := (∀ i, i ≠ 500000 → i ≠ 500003 → i ≠ 500004 → ¬ (500006 ≤ i ∧ i < 500015) → ¬ (500026 ≤ i ∧ i < 500046) → ¬ (500016 ≤ i ∧ i < 500025) → ¬ (500047 ≤ i ∧ i < 500067) → i ≠ 500067 → i ≠ 500068 → i ≠ 500123 → i ≠ 500124 → i ≠ 500125 → i ≠ 500127 → J i = I i) ∧
  (∀ j, 8 < j → ¬ (36 ≤ j ∧ j ≤ 40) → J 500000 j = I 500000 j) ∧ (∀ j, 36 ≤ j ∧ j ≤ 40 → J 500000 j = nI 0) ∧ J 500000 0 = nI 0 ∧ J 500000 1 = nI 0 ∧ J 500000 3 = -1 ∧ TwK J S ∧
  (∀ v, v < 9 → J 500067 v = nI 0 ∧ J 500068 v = nI 0 ∧ J 500123 v = nI 0) ∧ (∀ k, k < 502 → J 500127 k = bgR S k) ∧ J 500124 = J 500127 ∧ J 500125 = J 500127
theorem clS_sk {T : Nat → Int32} {n cl a : Nat} {S : Tn} (ha : a ≤ n) : clS T n cl S (sk T n a) = clS T n cl S a := by
  unfold clS
  rw [sk_sk ha]
theorem twL_sk {T : Nat → Int32} {n g cl a : Nat} {S : Tn} (ha : a ≤ n) : twL T n g cl S (sk T n a) = twL T n g cl S a := by
  cases g with
  | zero => rfl
  | succ g =>
    unfold twL
    rw [sk_sk ha, clS_sk ha]
section CM37
variable {Γ : Gm} {l : Launch} {d : Nat} {I : Iv} {E : Ev} {kr : Kr} {kx : Kxx}
theorem c_tellsNothing (h : ∀ J, TRt J tn0 → (∀ i, i ≠ 500003 → J i = I i) → kr none J E) : Ex Γ l shN (d + 1) (0, 0) mM_tellsNothing [.ref 500000] I E kr kx := by
  refine ex_of (ls0 := [some (.ref 500000)]) tM_tellsNothing (by decide +kernel) kM_tellsNothing rfl (Nat.le_of_ble_eq_true rfl) rfl ?_
  intro go hgo
  refine hgo 20 [] 0 _ _ _ _ _ ?_
  simp only [ixr_of, run_s, run_0, rM_tellsNothing, rok_i, rok_z, bx_cons, bx_nil, eBP, eC0, eC1, eC2, eC3, eC4, eCm1, eGR, eIAST, eLA0, eRV, fM_tellsNothing_0, bM_tellsNothing_0, ln_mreadTold, rg_m_11, ty_m, ty_mreadTold, Option.toList_some, Option.toList_none, List.cons_append, List.nil_append, List.length_cons, List.length_nil, List.mem_cons, List.not_mem_nil, or_false, false_or, or_true, true_or, ↓reduceIte, true_and, and_true, Nat.reduceEqDiff, Nat.reduceAdd, Nat.reduceLeDiff, Nat.reduceLT, dl_i, dl_r, dl_n, dl_u, eq_self, not_true_eq_false, not_false_eq_true, n10, n01, nm0, n0m, imp_t, imp_f]
  refine h _ ⟨?_, ?_, ?_, ?_, ?_, fun v i hv => absurd hv (Nat.not_lt_zero _), fun c i hc => absurd hc (Nat.not_lt_zero _)⟩ (fun i hi => ?_)
  · simp [up]; rfl
  · simp [up]; rfl
  · simp [up]; rfl
  · simp [up]; rfl
  · simp [up]; rfl
  · funext q
    rw [up_n (by omega), up_n (by omega), up_n (by omega), up_n (by omega), up_n (by omega)]
theorem c_town {y : Int32} {tp : Nat} (htp : I 500000 1 = nI tp) (htp6 : tp ≤ 600)
    (h2 : ¬ (nI 0 ≤ y ∧ y ≤ nI tp) → kr (some (.int (nI 0))) (ref1 (up I 500000 0 (nI 0)) (nI 1) 1) E)
    (h3 : ∀ n e J, n ≤ tp → y = nI n → twS (tx I n) n = .error e → ErT I e J → kr (some (.int (nI e.1 - nI 10))) J E)
    (h4 : ∀ n S J, n ≤ tp → y = nI n → twS (tx I n) n = .ok S → TwJ I S J → kr (some (.int (nI S.1.1))) J E) : Ex Γ l shN (d + 9) (0, 0) mM_town [.ref 500000, .int y] I E kr kx := by
  refine ex_of (ls0 := [some (.ref 500000), some (.int y)]) tM_town (by decide +kernel) kM_town rfl (Nat.le_of_ble_eq_true rfl) rfl ?_
  intro go hgo
  have et : up I 500000 0 (nI 0) 500000 1 = nI tp := by rw [up_n (by decide), htp]
  refine hgo 20 [42] 0 _ _ _ _ _ ?_
  simp only [ixr_of, run_s, run_0, rM_town, rok_i, rok_z, bx_cons, bx_nil, eBP, eC0, eC1, eCS3, eCV0, eCV1, eCV3, eGI, eGO, eGR, eIALD, jICge, jIFeq, jIFne, eLA0, eLI1, ePI, eRI, eSUB, fM_town_0, fM_town_18, fM_town_22, fM_town_23, fM_town_31, fM_town_33, fM_town_42, fM_town_49, fM_town_60, fM_town_71, fM_town_86, fM_town_94, bM_town_0, bM_town_18, bM_town_22, bM_town_23, bM_town_31, bM_town_33, bM_town_42, bM_town_49, bM_town_60, bM_town_71, bM_town_86, bM_town_94, ln_mtold, rg_m_12, ty_m, ty_mtold, Option.toList_some, Option.toList_none, List.cons_append, List.nil_append, List.length_cons, List.length_nil, List.mem_cons, List.not_mem_nil, or_false, false_or, or_true, true_or, ↓reduceIte, true_and, and_true, Nat.reduceEqDiff, Nat.reduceAdd, Nat.reduceLeDiff, Nat.reduceLT, dl_i, dl_r, dl_n, dl_u, eq_self, not_true_eq_false, not_false_eq_true, n10, n01, nm0, n0m, imp_t, imp_f]
  rw [et]
  refine call0 (c_in ?_)
  simp only [ixr_of, run_s, run_0, rM_town, rok_i, rok_z, bx_cons, bx_nil, eBP, eC0, eC1, eCS3, eCV0, eCV1, eCV3, eGI, eGO, eGR, eIALD, jICge, jIFeq, jIFne, eLA0, eLI1, ePI, eRI, eSUB, fM_town_0, fM_town_18, fM_town_22, fM_town_23, fM_town_31, fM_town_33, fM_town_42, fM_town_49, fM_town_60, fM_town_71, fM_town_86, fM_town_94, bM_town_0, bM_town_18, bM_town_22, bM_town_23, bM_town_31, bM_town_33, bM_town_42, bM_town_49, bM_town_60, bM_town_71, bM_town_86, bM_town_94, ln_mtold, rg_m_12, ty_m, ty_mtold, Option.toList_some, Option.toList_none, List.cons_append, List.nil_append, List.length_cons, List.length_nil, List.mem_cons, List.not_mem_nil, or_false, false_or, or_true, true_or, ↓reduceIte, true_and, and_true, Nat.reduceEqDiff, Nat.reduceAdd, Nat.reduceLeDiff, Nat.reduceLT, dl_i, dl_r, dl_n, dl_u, eq_self, not_true_eq_false, not_false_eq_true, n10, n01, nm0, n0m, imp_t, imp_f]
  by_cases hin : nI 0 ≤ y ∧ y ≤ nI tp
  rotate_left
  · rw [bi_f hin]
    refine ⟨fun q => absurd rfl q, fun _ => ?_⟩
    refine call0 (c_bad0 (by decide) (by decide) up_s (fun q => absurd q n10) (fun _ => ?_))
    simp only [ixr_of, run_s, run_0, rM_town, rok_i, rok_z, bx_cons, bx_nil, eBP, eC0, eC1, eCS3, eCV0, eCV1, eCV3, eGI, eGO, eGR, eIALD, jICge, jIFeq, jIFne, eLA0, eLI1, ePI, eRI, eSUB, fM_town_0, fM_town_18, fM_town_22, fM_town_23, fM_town_31, fM_town_33, fM_town_42, fM_town_49, fM_town_60, fM_town_71, fM_town_86, fM_town_94, bM_town_0, bM_town_18, bM_town_22, bM_town_23, bM_town_31, bM_town_33, bM_town_42, bM_town_49, bM_town_60, bM_town_71, bM_town_86, bM_town_94, ln_mtold, rg_m_12, ty_m, ty_mtold, Option.toList_some, Option.toList_none, List.cons_append, List.nil_append, List.length_cons, List.length_nil, List.mem_cons, List.not_mem_nil, or_false, false_or, or_true, true_or, ↓reduceIte, true_and, and_true, Nat.reduceEqDiff, Nat.reduceAdd, Nat.reduceLeDiff, Nat.reduceLT, dl_i, dl_r, dl_n, dl_u, eq_self, not_true_eq_false, not_false_eq_true, n10, n01, nm0, n0m, imp_t, imp_f]
    exact h2 hin
  rw [bi_t hin]
  refine ⟨fun _ => ?_, fun q => absurd q n10⟩
  refine call0 (c_bad0 (by decide) (by decide) up_s (fun _ => ?_) (fun q => absurd rfl q))
  obtain ⟨n, hn, rfl⟩ := rng (by omega) hin
  have h3 := fun e J => h3 n e J hn rfl
  have h4 := fun ps J => h4 n ps J hn rfl
  obtain ⟨T, hTd⟩ : ∃ T, T = tx I n := ⟨_, rfl⟩
  have hT : Tx T n := by rw [hTd]; exact tx_Tx
  rw [← hTd] at h3 h4
  simp only [ixr_of, run_s, run_0, rM_town, rok_i, rok_z, bx_cons, bx_nil, eBP, eC0, eC1, eCS3, eCV0, eCV1, eCV3, eGI, eGO, eGR, eIALD, jICge, jIFeq, jIFne, eLA0, eLI1, ePI, eRI, eSUB, fM_town_0, fM_town_18, fM_town_22, fM_town_23, fM_town_31, fM_town_33, fM_town_42, fM_town_49, fM_town_60, fM_town_71, fM_town_86, fM_town_94, bM_town_0, bM_town_18, bM_town_22, bM_town_23, bM_town_31, bM_town_33, bM_town_42, bM_town_49, bM_town_60, bM_town_71, bM_town_86, bM_town_94, ln_mtold, rg_m_12, ty_m, ty_mtold, Option.toList_some, Option.toList_none, List.cons_append, List.nil_append, List.length_cons, List.length_nil, List.mem_cons, List.not_mem_nil, or_false, false_or, or_true, true_or, ↓reduceIte, true_and, and_true, Nat.reduceEqDiff, Nat.reduceAdd, Nat.reduceLeDiff, Nat.reduceLT, dl_i, dl_r, dl_n, dl_u, eq_self, not_true_eq_false, not_false_eq_true, n10, n01, nm0, n0m, imp_t, imp_f]
  refine call0 (r_starts (by omega) ?_)
  rw [tx_fl, ← hTd]
  intro S0 hRS hSA hSF hS0 hS1 hS7 hS8
  rw [up_s] at hS0
  have hSA : ∀ i, i ≠ 500000 → S0 i = I i := fun i hi => by rw [hSA i hi]; funext q; exact up_n (by omega)
  have hSF : ∀ j, 8 < j → S0 500000 j = I 500000 j := fun j hj => by rw [hSF j hj]; exact up_n (by omega)
  simp only [ixr_of, run_s, run_0, rM_town, rok_i, rok_z, bx_cons, bx_nil, eBP, eC0, eC1, eCS3, eCV0, eCV1, eCV3, eGI, eGO, eGR, eIALD, jICge, jIFeq, jIFne, eLA0, eLI1, ePI, eRI, eSUB, fM_town_0, fM_town_18, fM_town_22, fM_town_23, fM_town_31, fM_town_33, fM_town_42, fM_town_49, fM_town_60, fM_town_71, fM_town_86, fM_town_94, bM_town_0, bM_town_18, bM_town_22, bM_town_23, bM_town_31, bM_town_33, bM_town_42, bM_town_49, bM_town_60, bM_town_71, bM_town_86, bM_town_94, ln_mtold, rg_m_12, ty_m, ty_mtold, Option.toList_some, Option.toList_none, List.cons_append, List.nil_append, List.length_cons, List.length_nil, List.mem_cons, List.not_mem_nil, or_false, false_or, or_true, true_or, ↓reduceIte, true_and, and_true, Nat.reduceEqDiff, Nat.reduceAdd, Nat.reduceLeDiff, Nat.reduceLT, dl_i, dl_r, dl_n, dl_u, eq_self, not_true_eq_false, not_false_eq_true, n10, n01, nm0, n0m, imp_t, imp_f]
  refine call0 (c_tellsNothing ?_)
  intro S1 hTR hS1a
  have s10 : S1 500000 = S0 500000 := hS1a _ (by decide)
  have hRS1 : RSt T n S1 (sk T n 0) := hRS.mv (hS1a _ (by decide)) (fun j _ => by rw [s10])
  simp only [ixr_of, run_s, run_0, rM_town, rok_i, rok_z, bx_cons, bx_nil, eBP, eC0, eC1, eCS3, eCV0, eCV1, eCV3, eGI, eGO, eGR, eIALD, jICge, jIFeq, jIFne, eLA0, eLI1, ePI, eRI, eSUB, fM_town_0, fM_town_18, fM_town_22, fM_town_23, fM_town_31, fM_town_33, fM_town_42, fM_town_49, fM_town_60, fM_town_71, fM_town_86, fM_town_94, bM_town_0, bM_town_18, bM_town_22, bM_town_23, bM_town_31, bM_town_33, bM_town_42, bM_town_49, bM_town_60, bM_town_71, bM_town_86, bM_town_94, ln_mtold, rg_m_12, ty_m, ty_mtold, Option.toList_some, Option.toList_none, List.cons_append, List.nil_append, List.length_cons, List.length_nil, List.mem_cons, List.not_mem_nil, or_false, false_or, or_true, true_or, ↓reduceIte, true_and, and_true, Nat.reduceEqDiff, Nat.reduceAdd, Nat.reduceLeDiff, Nat.reduceLT, dl_i, dl_r, dl_n, dl_u, eq_self, not_true_eq_false, not_false_eq_true, n10, n01, nm0, n0m, imp_t, imp_f]
  have hsk := sk_b (t := T) (Nat.zero_le n)
  obtain ⟨Ch, hCh⟩ : ∃ Ch : Iv → Prop, ∀ K, Ch K ↔ ((∀ i, i ≠ 500000 → i ≠ 500003 → ¬ (500006 ≤ i ∧ i < 500015) → ¬ (500026 ≤ i ∧ i < 500046) → K i = I i) ∧ (∀ j, j ≠ 4 → j ≠ 5 → j ≠ 6 → j ≠ 7 → K 500000 j = S0 500000 j)) := ⟨_, fun _ => Iff.rfl⟩
  have chc : ∀ K P, Ch K → Fc K P → Ch P := fun K P hK hP => (hCh P).mpr ⟨fun i a b c d => by rw [hP.1 i a b c d]; exact ((hCh K).mp hK).1 i a b c d, fun j a b c d => by rw [hP.2 j a b c d]; exact ((hCh K).mp hK).2 j a b c d⟩
  have err : ∀ (e : Nat × Nat) (K : Iv), twS T n = .error e → Ch K → OEr n K e → go 71 [some (.ref 500000), some (.int (nI n))] [] K E (0, 0) := by
    intro e K hv hC hE
    have hC := (hCh K).mp hC
    refine hgo 20 [94] 71 _ _ _ _ _ ?_
    have e5 : up K 500000 3 (nI e.2) 500000 5 = nI e.1 := by rw [up_n (by decide), hE.1]
    simp only [ixr_of, run_s, run_0, rM_town, rok_i, rok_z, bx_cons, bx_nil, eBP, eC0, eC1, eCS3, eCV0, eCV1, eCV3, eGI, eGO, eGR, eIALD, jICge, jIFeq, jIFne, eLA0, eLI1, ePI, eRI, eSUB, fM_town_0, fM_town_18, fM_town_22, fM_town_23, fM_town_31, fM_town_33, fM_town_42, fM_town_49, fM_town_60, fM_town_71, fM_town_86, fM_town_94, bM_town_0, bM_town_18, bM_town_22, bM_town_23, bM_town_31, bM_town_33, bM_town_42, bM_town_49, bM_town_60, bM_town_71, bM_town_86, bM_town_94, ln_mtold, rg_m_12, ty_m, ty_mtold, Option.toList_some, Option.toList_none, List.cons_append, List.nil_append, List.length_cons, List.length_nil, List.mem_cons, List.not_mem_nil, or_false, false_or, or_true, true_or, ↓reduceIte, true_and, and_true, Nat.reduceEqDiff, Nat.reduceAdd, Nat.reduceLeDiff, Nat.reduceLT, dl_i, dl_r, dl_n, dl_u, eq_self, not_true_eq_false, not_false_eq_true, n10, n01, nm0, n0m, hE.2.1, e5, imp_t, imp_f]
    refine ⟨fun q => absurd q (by rw [← hE.1]; exact hE.nz), fun _ => ?_⟩
    refine h3 e _ hv ⟨fun i a b c d => ?_, fun j a => ?_, ?_, ?_, up_s⟩
    · rw [← hC.1 i a b c d]; funext q; exact up_n (by omega)
    · rw [up_n (by omega), hC.2 j (by omega) (by omega) (by omega) (by omega), hSF j a]
    · rw [up_n (by decide), hC.2 _ (by decide) (by decide) (by decide) (by decide), hS0]
    · rw [up_n (by decide), hC.2 _ (by decide) (by decide) (by decide) (by decide), hS1]
  have keep : ∀ (K : Iv) (S : Tn) (b : Nat), twS T n = .ok S → Ch K → RSt T n K b → TnV S → TRt K S → go 71 [some (.ref 500000), some (.int (nI n))] [] K E (0, 0) := by
    intro K S b hv hC hR hV hS
    have hC := (hCh K).mp hC
    have hf : K 500000 5 = nI 0 := hR.2.2.2.2.2
    have h6 : K 500000 6 = -1 := hR.2.2.1.2
    refine hgo 20 [94] 71 _ _ _ _ _ ?_
    have e5 : up K 500000 3 (-1) 500000 5 = nI 0 := by rw [up_n (by decide), hf]
    simp only [ixr_of, run_s, run_0, rM_town, rok_i, rok_z, bx_cons, bx_nil, eBP, eC0, eC1, eCS3, eCV0, eCV1, eCV3, eGI, eGO, eGR, eIALD, jICge, jIFeq, jIFne, eLA0, eLI1, ePI, eRI, eSUB, fM_town_0, fM_town_18, fM_town_22, fM_town_23, fM_town_31, fM_town_33, fM_town_42, fM_town_49, fM_town_60, fM_town_71, fM_town_86, fM_town_94, bM_town_0, bM_town_18, bM_town_22, bM_town_23, bM_town_31, bM_town_33, bM_town_42, bM_town_49, bM_town_60, bM_town_71, bM_town_86, bM_town_94, ln_mtold, rg_m_12, ty_m, ty_mtold, Option.toList_some, Option.toList_none, List.cons_append, List.nil_append, List.length_cons, List.length_nil, List.mem_cons, List.not_mem_nil, or_false, false_or, or_true, true_or, ↓reduceIte, true_and, and_true, Nat.reduceEqDiff, Nat.reduceAdd, Nat.reduceLeDiff, Nat.reduceLT, dl_i, dl_r, dl_n, dl_u, eq_self, not_true_eq_false, not_false_eq_true, n10, n01, nm0, n0m, h6, e5, imp_t, imp_f]
    refine hgo 20 [] 94 _ _ _ _ _ ?_
    simp only [ixr_of, run_s, run_0, rM_town, rok_i, rok_z, bx_cons, bx_nil, eBP, eC0, eC1, eCS3, eCV0, eCV1, eCV3, eGI, eGO, eGR, eIALD, jICge, jIFeq, jIFne, eLA0, eLI1, ePI, eRI, eSUB, fM_town_0, fM_town_18, fM_town_22, fM_town_23, fM_town_31, fM_town_33, fM_town_42, fM_town_49, fM_town_60, fM_town_71, fM_town_86, fM_town_94, bM_town_0, bM_town_18, bM_town_22, bM_town_23, bM_town_31, bM_town_33, bM_town_42, bM_town_49, bM_town_60, bM_town_71, bM_town_86, bM_town_94, ln_mtold, rg_m_12, ty_m, ty_mtold, Option.toList_some, Option.toList_none, List.cons_append, List.nil_append, List.length_cons, List.length_nil, List.mem_cons, List.not_mem_nil, or_false, false_or, or_true, true_or, ↓reduceIte, true_and, and_true, Nat.reduceEqDiff, Nat.reduceAdd, Nat.reduceLeDiff, Nat.reduceLT, dl_i, dl_r, dl_n, dl_u, eq_self, not_true_eq_false, not_false_eq_true, n10, n01, nm0, n0m, imp_t, imp_f]
    obtain ⟨t1, t2, t3, t4, t5, t6, t7⟩ := hS
    have h9 := hV.1
    have h20 := hV.2.1
    have hS' : TRt (up K 500000 3 (-1)) S := ⟨by rw [up_n (by omega), t1], by rw [up_n (by omega), t2], by rw [up_n (by omega), t3], by rw [up_n (by omega), t4], by rw [up_n (by omega), t5], fun v i hv hi => by rw [up_n (by omega)]; exact t6 v i hv hi, fun c i hc hi => by rw [up_n (by omega)]; exact t7 c i hc hi⟩
    refine call0 (c_stands hV hS' ?_)
    intro J hJ
    obtain ⟨j1, j2, j3, j4, j5, j6, j7, j8, j9, j10⟩ := hJ
    have e0 : J 500004 0 = nI S.1.1 := by rw [j4 0 (by decide), up_n (by omega), t1]
    simp only [ixr_of, run_s, run_0, rM_town, rok_i, rok_z, bx_cons, bx_nil, eBP, eC0, eC1, eCS3, eCV0, eCV1, eCV3, eGI, eGO, eGR, eIALD, jICge, jIFeq, jIFne, eLA0, eLI1, ePI, eRI, eSUB, fM_town_0, fM_town_18, fM_town_22, fM_town_23, fM_town_31, fM_town_33, fM_town_42, fM_town_49, fM_town_60, fM_town_71, fM_town_86, fM_town_94, bM_town_0, bM_town_18, bM_town_22, bM_town_23, bM_town_31, bM_town_33, bM_town_42, bM_town_49, bM_town_60, bM_town_71, bM_town_86, bM_town_94, ln_mtold, rg_m_12, ty_m, ty_mtold, Option.toList_some, Option.toList_none, List.cons_append, List.nil_append, List.length_cons, List.length_nil, List.mem_cons, List.not_mem_nil, or_false, false_or, or_true, true_or, ↓reduceIte, true_and, and_true, Nat.reduceEqDiff, Nat.reduceAdd, Nat.reduceLeDiff, Nat.reduceLT, dl_i, dl_r, dl_n, dl_u, eq_self, not_true_eq_false, not_false_eq_true, n10, n01, nm0, n0m, e0, imp_t, imp_f]
    refine h4 S J hv ⟨fun i a0 a3 a4 a5 a6 a7 a8 a9 b1 b2 b3 b4 b5 => ?_, fun j a b => ?_, j3, ?_, ?_, ?_, ⟨e0, ?_, ?_, ?_, ?_, j5, j6⟩, j7, j8, j9, j10⟩
    · rw [j1 i a0 a4 a7 a8 a9 b1 b2 b3 b4 b5, ← hC.1 i a0 a3 a5 a6]; funext q; exact up_n (by omega)
    · rw [j2 j b, up_n (by omega), hC.2 j (by omega) (by omega) (by omega) (by omega), hSF j a]
    · rw [j2 _ (by decide), up_n (by omega), hC.2 _ (by decide) (by decide) (by decide) (by decide), hS0]
    · rw [j2 _ (by decide), up_n (by omega), hC.2 _ (by decide) (by decide) (by decide) (by decide), hS1]
    · rw [j2 _ (by decide), up_s]
    · rw [j4 1 (by decide), up_n (by omega), t2]
    · rw [j4 2 (by decide), up_n (by omega), t3]
    · rw [j4 3 (by decide), up_n (by omega), t4]
    · rw [j4 4 (by decide), up_n (by omega), t5]
  have loop : ∀ (g cl : Nat) (K : Iv) (S : Tn) (b : Nat), cl + g = 61 → b ≤ n → sk T n b = b → Ch K → RSt T n K b → TnV S → TRt K S → K 500000 7 = nI cl → twS T n = twL T n g cl S b → cl ≤ 60 → go 42 [some (.ref 500000), some (.int (nI n))] [] K E (0, 0) := by
    intro g
    induction g with
    | zero => intro cl K S b hg _ _ _ _ _ _ _ _ h6; omega
    | succ g ih =>
      intro cl K S b hg hb hsb hC hR hV hS h7 hv h60
      have hf : K 500000 5 = nI 0 := hR.2.2.2.2.2
      have hsz : K 500000 2 = nI n := hR.2.1
      refine hgo 20 [42, 71] 42 _ _ _ _ _ ?_
      simp only [ixr_of, run_s, run_0, rM_town, rok_i, rok_z, bx_cons, bx_nil, eBP, eC0, eC1, eCS3, eCV0, eCV1, eCV3, eGI, eGO, eGR, eIALD, jICge, jIFeq, jIFne, eLA0, eLI1, ePI, eRI, eSUB, fM_town_0, fM_town_18, fM_town_22, fM_town_23, fM_town_31, fM_town_33, fM_town_42, fM_town_49, fM_town_60, fM_town_71, fM_town_86, fM_town_94, bM_town_0, bM_town_18, bM_town_22, bM_town_23, bM_town_31, bM_town_33, bM_town_42, bM_town_49, bM_town_60, bM_town_71, bM_town_86, bM_town_94, ln_mtold, rg_m_12, ty_m, ty_mtold, Option.toList_some, Option.toList_none, List.cons_append, List.nil_append, List.length_cons, List.length_nil, List.mem_cons, List.not_mem_nil, or_false, false_or, or_true, true_or, ↓reduceIte, true_and, and_true, Nat.reduceEqDiff, Nat.reduceAdd, Nat.reduceLeDiff, Nat.reduceLT, dl_i, dl_r, dl_n, dl_u, eq_self, not_true_eq_false, not_false_eq_true, n10, n01, nm0, n0m, hf, hsz, imp_t, imp_f]
      rw [hR.atq, nIl (by omega) (by omega)]
      unfold twL at hv
      rw [hsb] at hv
      refine ⟨fun q => ?_, fun q => ?_⟩
      · rw [if_pos q] at hv
        exact keep K S b hv hC hR hV hS
      · rw [if_neg q] at hv
        refine call0 (c_clause hT hR hV hS h7 h60 (fun c S' P hcs hP hRP hSP h7P => ?_) (fun e P hcs hP hE => ?_))
        · rw [hcs] at hv
          have gv := clS_v hT hb hV hcs
          have hsc := sk_b (t := T) gv.2.1
          simp only [ixr_of, run_s, run_0, rM_town, rok_i, rok_z, bx_cons, bx_nil, eBP, eC0, eC1, eCS3, eCV0, eCV1, eCV3, eGI, eGO, eGR, eIALD, jICge, jIFeq, jIFne, eLA0, eLI1, ePI, eRI, eSUB, fM_town_0, fM_town_18, fM_town_22, fM_town_23, fM_town_31, fM_town_33, fM_town_42, fM_town_49, fM_town_60, fM_town_71, fM_town_86, fM_town_94, bM_town_0, bM_town_18, bM_town_22, bM_town_23, bM_town_31, bM_town_33, bM_town_42, bM_town_49, bM_town_60, bM_town_71, bM_town_86, bM_town_94, ln_mtold, rg_m_12, ty_m, ty_mtold, Option.toList_some, Option.toList_none, List.cons_append, List.nil_append, List.length_cons, List.length_nil, List.mem_cons, List.not_mem_nil, or_false, false_or, or_true, true_or, ↓reduceIte, true_and, and_true, Nat.reduceEqDiff, Nat.reduceAdd, Nat.reduceLeDiff, Nat.reduceLT, dl_i, dl_r, dl_n, dl_u, eq_self, not_true_eq_false, not_false_eq_true, n10, n01, nm0, n0m, imp_t, imp_f]
          refine call0 (r_blanks hRP ?_)
          intro U hU hRU
          have hFU : Fq P U := by rw [hU]; exact Fq.fl (by decide)
          simp only [ixr_of, run_s, run_0, rM_town, rok_i, rok_z, bx_cons, bx_nil, eBP, eC0, eC1, eCS3, eCV0, eCV1, eCV3, eGI, eGO, eGR, eIALD, jICge, jIFeq, jIFne, eLA0, eLI1, ePI, eRI, eSUB, fM_town_0, fM_town_18, fM_town_22, fM_town_23, fM_town_31, fM_town_33, fM_town_42, fM_town_49, fM_town_60, fM_town_71, fM_town_86, fM_town_94, bM_town_0, bM_town_18, bM_town_22, bM_town_23, bM_town_31, bM_town_33, bM_town_42, bM_town_49, bM_town_60, bM_town_71, bM_town_86, bM_town_94, ln_mtold, rg_m_12, ty_m, ty_mtold, Option.toList_some, Option.toList_none, List.cons_append, List.nil_append, List.length_cons, List.length_nil, List.mem_cons, List.not_mem_nil, or_false, false_or, or_true, true_or, ↓reduceIte, true_and, and_true, Nat.reduceEqDiff, Nat.reduceAdd, Nat.reduceLeDiff, Nat.reduceLT, dl_i, dl_r, dl_n, dl_u, eq_self, not_true_eq_false, not_false_eq_true, n10, n01, nm0, n0m, imp_t, imp_f]
          refine ih (cl + 1) U S' (sk T n c) (by omega) hsc.2 (sk_sk gv.2.1) (chc P U (chc K P hC hP) hFU.ft.fc) hRU gv.2.2.2 (hSP.fq gv.2.2.2 hFU) ?_ ?_ (by omega)
          · rw [hFU.2 _ (by decide) (by decide) (by decide), h7P]
          · rw [hv, twL_sk gv.2.1]
        · rw [hcs] at hv
          simp only [ixr_of, run_s, run_0, rM_town, rok_i, rok_z, bx_cons, bx_nil, eBP, eC0, eC1, eCS3, eCV0, eCV1, eCV3, eGI, eGO, eGR, eIALD, jICge, jIFeq, jIFne, eLA0, eLI1, ePI, eRI, eSUB, fM_town_0, fM_town_18, fM_town_22, fM_town_23, fM_town_31, fM_town_33, fM_town_42, fM_town_49, fM_town_60, fM_town_71, fM_town_86, fM_town_94, bM_town_0, bM_town_18, bM_town_22, bM_town_23, bM_town_31, bM_town_33, bM_town_42, bM_town_49, bM_town_60, bM_town_71, bM_town_86, bM_town_94, ln_mtold, rg_m_12, ty_m, ty_mtold, Option.toList_some, Option.toList_none, List.cons_append, List.nil_append, List.length_cons, List.length_nil, List.mem_cons, List.not_mem_nil, or_false, false_or, or_true, true_or, ↓reduceIte, true_and, and_true, Nat.reduceEqDiff, Nat.reduceAdd, Nat.reduceLeDiff, Nat.reduceLT, dl_i, dl_r, dl_n, dl_u, eq_self, not_true_eq_false, not_false_eq_true, n10, n01, nm0, n0m, imp_t, imp_f]
          have hszP : P 500000 2 = nI n := by rw [hP.2 _ (by decide) (by decide) (by decide) (by decide), hsz]
          refine call0 (fq_blanks hszP (by omega) hE ?_)
          intro U hU hEU
          simp only [ixr_of, run_s, run_0, rM_town, rok_i, rok_z, bx_cons, bx_nil, eBP, eC0, eC1, eCS3, eCV0, eCV1, eCV3, eGI, eGO, eGR, eIALD, jICge, jIFeq, jIFne, eLA0, eLI1, ePI, eRI, eSUB, fM_town_0, fM_town_18, fM_town_22, fM_town_23, fM_town_31, fM_town_33, fM_town_42, fM_town_49, fM_town_60, fM_town_71, fM_town_86, fM_town_94, bM_town_0, bM_town_18, bM_town_22, bM_town_23, bM_town_31, bM_town_33, bM_town_42, bM_town_49, bM_town_60, bM_town_71, bM_town_86, bM_town_94, ln_mtold, rg_m_12, ty_m, ty_mtold, Option.toList_some, Option.toList_none, List.cons_append, List.nil_append, List.length_cons, List.length_nil, List.mem_cons, List.not_mem_nil, or_false, false_or, or_true, true_or, ↓reduceIte, true_and, and_true, Nat.reduceEqDiff, Nat.reduceAdd, Nat.reduceLeDiff, Nat.reduceLT, dl_i, dl_r, dl_n, dl_u, eq_self, not_true_eq_false, not_false_eq_true, n10, n01, nm0, n0m, imp_t, imp_f]
          refine hgo 20 [49, 71] 42 _ _ _ _ _ ?_
          simp only [ixr_of, run_s, run_0, rM_town, rok_i, rok_z, bx_cons, bx_nil, eBP, eC0, eC1, eCS3, eCV0, eCV1, eCV3, eGI, eGO, eGR, eIALD, jICge, jIFeq, jIFne, eLA0, eLI1, ePI, eRI, eSUB, fM_town_0, fM_town_18, fM_town_22, fM_town_23, fM_town_31, fM_town_33, fM_town_42, fM_town_49, fM_town_60, fM_town_71, fM_town_86, fM_town_94, bM_town_0, bM_town_18, bM_town_22, bM_town_23, bM_town_31, bM_town_33, bM_town_42, bM_town_49, bM_town_60, bM_town_71, bM_town_86, bM_town_94, ln_mtold, rg_m_12, ty_m, ty_mtold, Option.toList_some, Option.toList_none, List.cons_append, List.nil_append, List.length_cons, List.length_nil, List.mem_cons, List.not_mem_nil, or_false, false_or, or_true, true_or, ↓reduceIte, true_and, and_true, Nat.reduceEqDiff, Nat.reduceAdd, Nat.reduceLeDiff, Nat.reduceLT, dl_i, dl_r, dl_n, dl_u, eq_self, not_true_eq_false, not_false_eq_true, n10, n01, nm0, n0m, imp_t, imp_f]
          refine ⟨fun _ => ?_, fun q => absurd q hEU.nz⟩
          exact err e U hv (chc P U (chc K P hC hP) hU.ft.fc) hEU
  refine loop 61 0 S1 tn0 (sk T n 0) rfl hsk.2 (sk_sk (Nat.zero_le n)) ((hCh S1).mpr ⟨fun i a b _ _ => by rw [hS1a i b, hSA i a], fun j _ _ _ _ => by rw [s10]⟩) hRS1 tn0_v hTR (by rw [s10, hS7]) ?_ (by decide)
  rw [twL_sk (Nat.zero_le n)]
  rfl
/-- bytes of the five numbers -/
def fdV (a b c e f : Int32) (k : Nat) : Int32 := (if k < 4 then a else if k < 8 then b else if k < 12 then c else if k < 16 then e else f) >>> ((nI 24 - nI 8 * nI (k % 4)) &&& 31) &&& nI 255
def fdR (r : Nat → Int32) (tp : Nat) (a b c e f : Int32) (m : Nat) : Nat → Int32 := fun k => if tp ≤ k ∧ k < tp + m then fdV a b c e f (k - tp) else r k
theorem c_feed {x1 x2 x3 x4 x5 : Int32} {tp : Nat} (htp : I 500000 1 = nI tp) (htp6 : tp ≤ 600) (h1 : 600 < tp + 20 → kr (some (.int (-1))) (up I 500000 0 (nI 0)) E)
    (h2 : tp + 20 ≤ 600 → kr (some (.int (nI (tp + 20)))) (up (sr (up I 500000 0 (nI 0)) 500001 (fdR (I 500001) tp x1 x2 x3 x4 x5 20)) 500000 1 (nI (tp + 20))) E) : Ex Γ l shN (d + 1) (0, 0) mM_feed [.ref 500000, .int x1, .int x2, .int x3, .int x4, .int x5] I E kr kx := by
  refine ex_of (ls0 := [some (.ref 500000), some (.int x1), some (.int x2), some (.int x3), some (.int x4), some (.int x5), none, none]) tM_feed (by decide +kernel) kM_feed rfl (Nat.le_of_ble_eq_true rfl) rfl ?_
  intro go hgo
  have et : up I 500000 0 (nI 0) 500000 1 = nI tp := by rw [up_n (by decide), htp]
  by_cases hb : 600 < tp + 20
  · refine hgo 20 [23] 0 _ _ _ _ _ ?_
    simp only [ixr_of, run_s, run_0, rM_feed, rok_i, rok_z, bx_cons, bx_nil, eADD, eAND, eBP, eC0, eC1, eC4, eCm1, eDUPr, eGI, eGO, eGR, eIAST, jICge, jICle, eINC6, eLA0, eLI1, eLI2, eLI3, eLI4, eLI5, eLI6, eLI7, eMUL, ePI, eREM, eRI, eSHR, eSI6, eSI7, eSP, eSUB, fM_feed_0, fM_feed_18, fM_feed_20, fM_feed_23, fM_feed_30, fM_feed_36, fM_feed_40, fM_feed_47, fM_feed_51, fM_feed_58, fM_feed_62, fM_feed_69, fM_feed_74, fM_feed_76, fM_feed_120, bM_feed_0, bM_feed_18, bM_feed_20, bM_feed_23, bM_feed_30, bM_feed_36, bM_feed_40, bM_feed_47, bM_feed_51, bM_feed_58, bM_feed_62, bM_feed_69, bM_feed_74, bM_feed_76, bM_feed_120, ln_mfed, rg_m_9, ty_m, ty_mfed, Option.toList_some, Option.toList_none, List.cons_append, List.nil_append, List.length_cons, List.length_nil, List.mem_cons, List.not_mem_nil, or_false, false_or, or_true, true_or, ↓reduceIte, true_and, and_true, Nat.reduceEqDiff, Nat.reduceAdd, Nat.reduceLeDiff, Nat.reduceLT, dl_i, dl_r, dl_n, dl_u, eq_self, not_true_eq_false, not_false_eq_true, n10, n01, nm0, n0m, et, nI_add, imp_t, imp_f]
    rw [nIl (by omega) (by omega)]
    exact ⟨fun q => absurd q (by omega), fun _ => h1 hb⟩
  · obtain ⟨I0, hI0⟩ : ∃ I0, I0 = up I 500000 0 (nI 0) := ⟨_, rfl⟩
    rw [← hI0] at h2 et
    have loop : ∀ (g k : Nat) (y : Option Value), g + k = 20 → go 23 [some (.ref 500000), some (.int x1), some (.int x2), some (.int x3), some (.int x4), some (.int x5), some (.int (nI k)), y] [] (up (sr I0 500001 (fdR (I 500001) tp x1 x2 x3 x4 x5 k)) 500000 1 (nI (tp + k))) E (0, 0) := by
      intro g
      induction g with
      | zero =>
        intro k y hk
        have : k = 20 := by omega
        subst this
        refine hgo 20 [23] 23 _ _ _ _ _ ?_
        simp only [ixr_of, run_s, run_0, rM_feed, rok_i, rok_z, bx_cons, bx_nil, eADD, eAND, eBP, eC0, eC1, eC4, eCm1, eDUPr, eGI, eGO, eGR, eIAST, jICge, jICle, eINC6, eLA0, eLI1, eLI2, eLI3, eLI4, eLI5, eLI6, eLI7, eMUL, ePI, eREM, eRI, eSHR, eSI6, eSI7, eSP, eSUB, fM_feed_0, fM_feed_18, fM_feed_20, fM_feed_23, fM_feed_30, fM_feed_36, fM_feed_40, fM_feed_47, fM_feed_51, fM_feed_58, fM_feed_62, fM_feed_69, fM_feed_74, fM_feed_76, fM_feed_120, bM_feed_0, bM_feed_18, bM_feed_20, bM_feed_23, bM_feed_30, bM_feed_36, bM_feed_40, bM_feed_47, bM_feed_51, bM_feed_58, bM_feed_62, bM_feed_69, bM_feed_74, bM_feed_76, bM_feed_120, ln_mfed, rg_m_9, ty_m, ty_mfed, Option.toList_some, Option.toList_none, List.cons_append, List.nil_append, List.length_cons, List.length_nil, List.mem_cons, List.not_mem_nil, or_false, false_or, or_true, true_or, ↓reduceIte, true_and, and_true, Nat.reduceEqDiff, Nat.reduceAdd, Nat.reduceLeDiff, Nat.reduceLT, dl_i, dl_r, dl_n, dl_u, eq_self, not_true_eq_false, not_false_eq_true, n10, n01, nm0, n0m, imp_t, imp_f]
        refine ⟨fun _ => ?_, fun q => absurd (Int32.le_refl _) q⟩
        rw [up_s]
        exact h2 (by omega)
      | succ g ih =>
        intro k y hk
        have ix : tp + k < 600 := by omega
        have e1 : ∀ z, up (sr I0 500001 (fdR (I 500001) tp x1 x2 x3 x4 x5 k)) 500000 1 z 500000 1 = z := fun z => up_s
        have e2 : ∀ z z', up (up (sr I0 500001 (fdR (I 500001) tp x1 x2 x3 x4 x5 k)) 500000 1 z') 500001 (tp + k) z 500000 1 = z' := fun z z' => by rw [up_n (by omega), up_s]
        have rest : ∀ (x : Int32), x = (if k < 4 then x1 else if k < 8 then x2 else if k < 12 then x3 else if k < 16 then x4 else x5) → go 76 [some (.ref 500000), some (.int x1), some (.int x2), some (.int x3), some (.int x4), some (.int x5), some (.int (nI k)), y] [.int x] (up (sr I0 500001 (fdR (I 500001) tp x1 x2 x3 x4 x5 k)) 500000 1 (nI (tp + k))) E (0, 0) := by
          intro x hx
          refine hgo 20 [23] 76 _ _ _ _ _ ?_
          simp only [ixr_of, run_s, run_0, rM_feed, rok_i, rok_z, bx_cons, bx_nil, eADD, eAND, eBP, eC0, eC1, eC4, eCm1, eDUPr, eGI, eGO, eGR, eIAST, jICge, jICle, eINC6, eLA0, eLI1, eLI2, eLI3, eLI4, eLI5, eLI6, eLI7, eMUL, ePI, eREM, eRI, eSHR, eSI6, eSI7, eSP, eSUB, fM_feed_0, fM_feed_18, fM_feed_20, fM_feed_23, fM_feed_30, fM_feed_36, fM_feed_40, fM_feed_47, fM_feed_51, fM_feed_58, fM_feed_62, fM_feed_69, fM_feed_74, fM_feed_76, fM_feed_120, bM_feed_0, bM_feed_18, bM_feed_20, bM_feed_23, bM_feed_30, bM_feed_36, bM_feed_40, bM_feed_47, bM_feed_51, bM_feed_58, bM_feed_62, bM_feed_69, bM_feed_74, bM_feed_76, bM_feed_120, ln_mfed, rg_m_9, ty_m, ty_mfed, Option.toList_some, Option.toList_none, List.cons_append, List.nil_append, List.length_cons, List.length_nil, List.mem_cons, List.not_mem_nil, or_false, false_or, or_true, true_or, ↓reduceIte, true_and, and_true, Nat.reduceEqDiff, Nat.reduceAdd, Nat.reduceLeDiff, Nat.reduceLT, dl_i, dl_r, dl_n, dl_u, eq_self, not_true_eq_false, not_false_eq_true, n10, n01, nm0, n0m, e1, ix, e2, nI_add, imp_t, imp_f]
          refine ⟨by decide, ?_⟩
          have hrem : ∀ k, k < 20 → nI k - nI k / nI 4 * nI 4 = nI (k % 4) := by decide +kernel
          rw [hrem k (by omega)]
          have := ih (k + 1) (some (.int x)) (by omega)
          refine Eq.mp (congrArg (fun J : Iv => go 23 _ [] J E (0, 0)) ?_) this
          funext a b
          unfold up sr fdR
          by_cases ha : a = 500001
          · subst ha
            by_cases hb' : b = tp + k
            · subst hb'
              simp
              unfold fdV
              rw [← hx]
            · simp [hb']
              exact ifc (by omega)
          · by_cases ha' : a = 500000 ∧ b = 1
            · simp [ha', Nat.add_assoc]
            · simp [ha, ha']
        refine hgo 20 [76] 23 _ _ _ _ _ ?_
        simp only [ixr_of, run_s, run_0, rM_feed, rok_i, rok_z, bx_cons, bx_nil, eADD, eAND, eBP, eC0, eC1, eC4, eCm1, eDUPr, eGI, eGO, eGR, eIAST, jICge, jICle, eINC6, eLA0, eLI1, eLI2, eLI3, eLI4, eLI5, eLI6, eLI7, eMUL, ePI, eREM, eRI, eSHR, eSI6, eSI7, eSP, eSUB, fM_feed_0, fM_feed_18, fM_feed_20, fM_feed_23, fM_feed_30, fM_feed_36, fM_feed_40, fM_feed_47, fM_feed_51, fM_feed_58, fM_feed_62, fM_feed_69, fM_feed_74, fM_feed_76, fM_feed_120, bM_feed_0, bM_feed_18, bM_feed_20, bM_feed_23, bM_feed_30, bM_feed_36, bM_feed_40, bM_feed_47, bM_feed_51, bM_feed_58, bM_feed_62, bM_feed_69, bM_feed_74, bM_feed_76, bM_feed_120, ln_mfed, rg_m_9, ty_m, ty_mfed, Option.toList_some, Option.toList_none, List.cons_append, List.nil_append, List.length_cons, List.length_nil, List.mem_cons, List.not_mem_nil, or_false, false_or, or_true, true_or, ↓reduceIte, true_and, and_true, Nat.reduceEqDiff, Nat.reduceAdd, Nat.reduceLeDiff, Nat.reduceLT, dl_i, dl_r, dl_n, dl_u, eq_self, not_true_eq_false, not_false_eq_true, n10, n01, nm0, n0m, imp_t, imp_f]
        rw [nIl (by omega) (by omega), nIl (by omega) (by omega), nIl (by omega) (by omega), nIl (by omega) (by omega), nIl (by omega) (by omega)]
        refine ⟨fun q => absurd q (by omega), fun _ => ⟨fun q4 => ⟨fun q8 => ⟨fun q12 => ⟨fun q16 => ?_, fun q16 => ?_⟩, fun q12 => ?_⟩, fun q8 => ?_⟩, fun q4 => ?_⟩⟩
        · exact rest _ (by rw [if_neg (by omega), if_neg (by omega), if_neg (by omega), if_neg (by omega)])
        · exact rest _ (by rw [if_neg (by omega), if_neg (by omega), if_neg (by omega), if_pos (by omega)])
        · exact rest _ (by rw [if_neg (by omega), if_neg (by omega), if_pos (by omega)])
        · exact rest _ (by rw [if_neg (by omega), if_pos (by omega)])
        · exact rest _ (by rw [if_pos (by omega)])
    refine hgo 20 [23] 0 _ _ _ _ _ ?_
    rw [hI0] at et
    simp only [ixr_of, run_s, run_0, rM_feed, rok_i, rok_z, bx_cons, bx_nil, eADD, eAND, eBP, eC0, eC1, eC4, eCm1, eDUPr, eGI, eGO, eGR, eIAST, jICge, jICle, eINC6, eLA0, eLI1, eLI2, eLI3, eLI4, eLI5, eLI6, eLI7, eMUL, ePI, eREM, eRI, eSHR, eSI6, eSI7, eSP, eSUB, fM_feed_0, fM_feed_18, fM_feed_20, fM_feed_23, fM_feed_30, fM_feed_36, fM_feed_40, fM_feed_47, fM_feed_51, fM_feed_58, fM_feed_62, fM_feed_69, fM_feed_74, fM_feed_76, fM_feed_120, bM_feed_0, bM_feed_18, bM_feed_20, bM_feed_23, bM_feed_30, bM_feed_36, bM_feed_40, bM_feed_47, bM_feed_51, bM_feed_58, bM_feed_62, bM_feed_69, bM_feed_74, bM_feed_76, bM_feed_120, ln_mfed, rg_m_9, ty_m, ty_mfed, Option.toList_some, Option.toList_none, List.cons_append, List.nil_append, List.length_cons, List.length_nil, List.mem_cons, List.not_mem_nil, or_false, false_or, or_true, true_or, ↓reduceIte, true_and, and_true, Nat.reduceEqDiff, Nat.reduceAdd, Nat.reduceLeDiff, Nat.reduceLT, dl_i, dl_r, dl_n, dl_u, eq_self, not_true_eq_false, not_false_eq_true, n10, n01, nm0, n0m, et, nI_add, imp_t, imp_f]
    rw [nIl (by omega) (by omega)]
    refine ⟨fun _ => ?_, fun q => absurd (by omega) q⟩
    have l0 := loop 20 0 none rfl
    rw [← hI0]
    refine Eq.mp (congrArg (fun J : Iv => go 23 _ [] J E (0, 0)) ?_) l0
    funext a b
    unfold up sr fdR
    rw [← hI0] at et
    by_cases ha : a = 500001
    · subst ha
      simp
      rw [if_neg (by omega), hI0, up_n (by omega)]
    · by_cases ha' : a = 500000 ∧ b = 1
      · obtain ⟨rfl, rfl⟩ := ha'
        simp
        exact et.symm
      · simp [ha, ha']
end CM37
