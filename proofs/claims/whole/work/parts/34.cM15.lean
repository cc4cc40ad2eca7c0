/-! contracts of HerbWatersModel, 14: the face, 4 -/
theorem nIe {a b : Nat} (ha : a < 2147483648) (hb : b < 2147483648) : (nI a = nI b) = (a = b) := propext (nI_eq ha hb)
theorem nIl {a b : Nat} (ha : a < 2147483648) (hb : b < 2147483648) : (nI a ≤ nI b) = (a ≤ b) := propext (nI_leI ha hb)
theorem nIs {a b : Nat} (ha : a < 2147483648) (hb : b < 2147483648) : (nI a < nI b) = (a < b) := propext (nI_ltI ha hb)
theorem shl_n {k : Nat} (h : k ≤ 9) : nI 1 <<< (nI k &&& 31) = nI (2 ^ k) := by
  have e : ∀ k, k ≤ 9 → nI 1 <<< (nI k &&& 31) = nI (2 ^ k) := by decide
  exact e k h
theorem p2_9 {k : Nat} (h : k ≤ 9) : 1 ≤ 2 ^ k ∧ 2 ^ k ≤ 512 := ⟨Nat.two_pow_pos k, Nat.le_trans (Nat.pow_le_pow_right (by decide) h) (by decide)⟩
theorem Pe.tr {nV : Nat} {P Q R : Pm} (h : Pe nV P Q) (h2 : Pe nV Q R) : Pe nV P R := ⟨fun v hv => ⟨(h.1 v hv).1.trans (h2.1 v hv).1, (h.1 v hv).2.1.trans (h2.1 v hv).2.1, fun k hk => ((h.1 v hv).2.2 k hk).trans ((h2.1 v hv).2.2 k hk)⟩, h.2.trans h2.2⟩
theorem Pe.rf {nV : Nat} {P : Pm} : Pe nV P P := ⟨fun _ _ => ⟨rfl, rfl, fun _ _ => rfl⟩, rfl⟩
theorem pm_say {I J : Iv} {nV : Nat} (h9 : nV ≤ 9) (h : Say I J) : Pe nV (pmI J) (pmI I) := ⟨fun v hv => ⟨congrFun (plB_say h) v, congrFun (coB_say h) v, fun k _ => stN_say h (by omega)⟩, h.2 _ (by decide)⟩
section CM15
variable {Γ : Gm} {l : Launch} {d : Nat} {I : Iv} {E : Ev} {kr : Kr} {kx : Kxx}
theorem c_settles' (h : kr none (up (sr I 500125 (I 500124)) 500000 39 (nI 0)) E) : Ex Γ l shN (d + 2) (0, 0) mM_settles [.ref 500000] I E kr kx := by
  refine ex_eqv (c_settles ⟨_, fun i j hij => ?_, h⟩)
  by_cases e : i = 500125
  · subst e
    rw [ty_mbase, ln_mbase] at hij
    rw [up_n (by omega), up_n (by omega), sr_s]
    unfold cp
    rw [if_pos ⟨rfl, by omega⟩]
  · unfold up cp sr
    simp [e]
theorem c_goesOn2 {n nV nC : Nat} {P : Pm} (hn : n < 1000) (hV : VS I nV nC) (hP : Pe nV (pmI I) P) (hd : P.2.2.2 = nI 0) (h : ∀ J : Iv, Fr 500126 I J → J 500126 = gR I nV nC P (I 500124) n → kr none J E) : Ex Γ l shN (d + 7) (0, 0) mM_goesOn [.ref 500000, .int (nI n)] I E kr kx := by
  refine c_goesOn hn hV (fun J hf hr => h J hf ?_)
  rw [it2_is, it2_pe hP] at hr
  rw [← gR_of (x := I 500000 48) hd n, ← hr]
theorem gR_t {I J : Iv} {nV nC : Nat} {P : Pm} {r : Nat → Int32} {n : Nat} (h : SayT I J) (hV : nV ≤ 9) (hC : nC ≤ 20) : gR J nV nC P r n = gR I nV nC P r n := by
  unfold gR
  rw [it2_t h hV hC]
theorem gR_pe {I : Iv} {nV nC : Nat} {P R : Pm} {r : Nat → Int32} {n : Nat} (h : Pe nV P R) : gR I nV nC P r n = gR I nV nC R r n := by
  unfold gR
  rw [it2_pe h]
theorem c_ahead {v x y : Int32} {nV nC : Nat} (hV : VS I nV nC) (h1 : ¬ (nI 0 ≤ v ∧ v ≤ I 500004 0 - nI 1) → kr (some (.int (nI 0))) (ref1 (up I 500000 0 (nI 0)) (nI 1) 0) E)
    (h2 : (nI 0 ≤ v ∧ v ≤ I 500004 0 - nI 1) → ¬ ((nI 0 ≤ x ∧ x ≤ nI 99) ∧ (nI 0 ≤ y ∧ y ≤ nI 3)) → kr (some (.int (nI 0))) (ref1 (up I 500000 0 (nI 0)) (nI 2) 1) E)
    (h3 : ∀ w n u, w < nV → v = nI w → n ≤ 99 → x = nI n → u ≤ 3 → y = nI u → ∀ J, MP I J → J 500000 0 = nI 0 → kr (some (.int (if u = 0 then gR I nV nC (pmN I) (I 500124) n w else smI (fun k => gR I nV nC (pmN I) (I 500124) n (9 + 27 * w + 9 * (u - 1) + k)) 9))) J E) : Ex Γ l shN (d + 8) (0, 0) mM_ahead [.ref 500000, .int v, .int x, .int y] I E kr kx := by
  have hV0 := hV
  obtain ⟨h0, h9, _, hC, _⟩ := hV0
  refine ex_of (ls0 := [some (.ref 500000), some (.int v), some (.int x), some (.int y)]) tM_ahead (by decide +kernel) kM_ahead rfl (Nat.le_of_ble_eq_true rfl) rfl ?_
  intro go hgo
  refine hgo 20 [] 0 _ _ _ _ _ ?_
  simp only [ixr_of, run_s, run_0, rM_ahead, rok_i, rok_z, bx_cons, bx_nil, eBP, eC0, eC1, eC2, eC3, eCS3, eCV0, eCV1, eCV3, eGO, eGR, jIFeq, jIFne, eLA0, eLI1, eLI2, eLI3, ePI, eRI, fM_ahead_0, fM_ahead_14, fM_ahead_18, fM_ahead_19, fM_ahead_27, fM_ahead_38, fM_ahead_47, fM_ahead_51, fM_ahead_52, fM_ahead_60, fM_ahead_62, bM_ahead_0, bM_ahead_14, bM_ahead_18, bM_ahead_19, bM_ahead_27, bM_ahead_38, bM_ahead_47, bM_ahead_51, bM_ahead_52, bM_ahead_60, bM_ahead_62, ln_mtrial, rg_m_34, ty_m, ty_mtrial, Option.toList_some, Option.toList_none, List.cons_append, List.nil_append, List.length_cons, List.length_nil, List.mem_cons, List.not_mem_nil, or_false, false_or, or_true, true_or, ↓reduceIte, true_and, and_true, Nat.reduceEqDiff, Nat.reduceAdd, Nat.reduceLeDiff, Nat.reduceLT, dl_i, dl_r, dl_n, dl_u, eq_self, not_true_eq_false, not_false_eq_true, n10, n01, nm0, n0m, imp_t, imp_f]
  refine call0 (c_isV ?_)
  simp only [ixr_of, run_s, run_0, rM_ahead, rok_i, rok_z, bx_cons, bx_nil, eBP, eC0, eC1, eC2, eC3, eCS3, eCV0, eCV1, eCV3, eGO, eGR, jIFeq, jIFne, eLA0, eLI1, eLI2, eLI3, ePI, eRI, fM_ahead_0, fM_ahead_14, fM_ahead_18, fM_ahead_19, fM_ahead_27, fM_ahead_38, fM_ahead_47, fM_ahead_51, fM_ahead_52, fM_ahead_60, fM_ahead_62, bM_ahead_0, bM_ahead_14, bM_ahead_18, bM_ahead_19, bM_ahead_27, bM_ahead_38, bM_ahead_47, bM_ahead_51, bM_ahead_52, bM_ahead_60, bM_ahead_62, ln_mtrial, rg_m_34, ty_m, ty_mtrial, Option.toList_some, Option.toList_none, List.cons_append, List.nil_append, List.length_cons, List.length_nil, List.mem_cons, List.not_mem_nil, or_false, false_or, or_true, true_or, ↓reduceIte, true_and, and_true, Nat.reduceEqDiff, Nat.reduceAdd, Nat.reduceLeDiff, Nat.reduceLT, dl_i, dl_r, dl_n, dl_u, eq_self, not_true_eq_false, not_false_eq_true, n10, n01, nm0, n0m, imp_t, imp_f]
  by_cases hc0 : nI 0 ≤ v ∧ v ≤ I 500004 0 - nI 1
  rotate_left
  · rw [bi_f hc0]
    refine ⟨fun q => absurd rfl q, fun _ => ?_⟩
    refine call0 (c_bad0 (by decide) (by decide) up_s (fun q => absurd q n10) (fun _ => ?_))
    simp only [ixr_of, run_s, run_0, rM_ahead, rok_i, rok_z, bx_cons, bx_nil, eBP, eC0, eC1, eC2, eC3, eCS3, eCV0, eCV1, eCV3, eGO, eGR, jIFeq, jIFne, eLA0, eLI1, eLI2, eLI3, ePI, eRI, fM_ahead_0, fM_ahead_14, fM_ahead_18, fM_ahead_19, fM_ahead_27, fM_ahead_38, fM_ahead_47, fM_ahead_51, fM_ahead_52, fM_ahead_60, fM_ahead_62, bM_ahead_0, bM_ahead_14, bM_ahead_18, bM_ahead_19, bM_ahead_27, bM_ahead_38, bM_ahead_47, bM_ahead_51, bM_ahead_52, bM_ahead_60, bM_ahead_62, ln_mtrial, rg_m_34, ty_m, ty_mtrial, Option.toList_some, Option.toList_none, List.cons_append, List.nil_append, List.length_cons, List.length_nil, List.mem_cons, List.not_mem_nil, or_false, false_or, or_true, true_or, ↓reduceIte, true_and, and_true, Nat.reduceEqDiff, Nat.reduceAdd, Nat.reduceLeDiff, Nat.reduceLT, dl_i, dl_r, dl_n, dl_u, eq_self, not_true_eq_false, not_false_eq_true, n10, n01, nm0, n0m, imp_t, imp_f]
    exact h1  hc0
  rw [bi_t hc0]
  refine ⟨fun _ => ?_, fun q => absurd q n10⟩
  refine call0 (c_bad0 (by decide) (by decide) up_s (fun _ => ?_) (fun q => absurd rfl q))
  simp only [ixr_of, run_s, run_0, rM_ahead, rok_i, rok_z, bx_cons, bx_nil, eBP, eC0, eC1, eC2, eC3, eCS3, eCV0, eCV1, eCV3, eGO, eGR, jIFeq, jIFne, eLA0, eLI1, eLI2, eLI3, ePI, eRI, fM_ahead_0, fM_ahead_14, fM_ahead_18, fM_ahead_19, fM_ahead_27, fM_ahead_38, fM_ahead_47, fM_ahead_51, fM_ahead_52, fM_ahead_60, fM_ahead_62, bM_ahead_0, bM_ahead_14, bM_ahead_18, bM_ahead_19, bM_ahead_27, bM_ahead_38, bM_ahead_47, bM_ahead_51, bM_ahead_52, bM_ahead_60, bM_ahead_62, ln_mtrial, rg_m_34, ty_m, ty_mtrial, Option.toList_some, Option.toList_none, List.cons_append, List.nil_append, List.length_cons, List.length_nil, List.mem_cons, List.not_mem_nil, or_false, false_or, or_true, true_or, ↓reduceIte, true_and, and_true, Nat.reduceEqDiff, Nat.reduceAdd, Nat.reduceLeDiff, Nat.reduceLT, dl_i, dl_r, dl_n, dl_u, eq_self, not_true_eq_false, not_false_eq_true, n10, n01, nm0, n0m, imp_t, imp_f]
  refine call0 (c_in ?_)
  simp only [ixr_of, run_s, run_0, rM_ahead, rok_i, rok_z, bx_cons, bx_nil, eBP, eC0, eC1, eC2, eC3, eCS3, eCV0, eCV1, eCV3, eGO, eGR, jIFeq, jIFne, eLA0, eLI1, eLI2, eLI3, ePI, eRI, fM_ahead_0, fM_ahead_14, fM_ahead_18, fM_ahead_19, fM_ahead_27, fM_ahead_38, fM_ahead_47, fM_ahead_51, fM_ahead_52, fM_ahead_60, fM_ahead_62, bM_ahead_0, bM_ahead_14, bM_ahead_18, bM_ahead_19, bM_ahead_27, bM_ahead_38, bM_ahead_47, bM_ahead_51, bM_ahead_52, bM_ahead_60, bM_ahead_62, ln_mtrial, rg_m_34, ty_m, ty_mtrial, Option.toList_some, Option.toList_none, List.cons_append, List.nil_append, List.length_cons, List.length_nil, List.mem_cons, List.not_mem_nil, or_false, false_or, or_true, true_or, ↓reduceIte, true_and, and_true, Nat.reduceEqDiff, Nat.reduceAdd, Nat.reduceLeDiff, Nat.reduceLT, dl_i, dl_r, dl_n, dl_u, eq_self, not_true_eq_false, not_false_eq_true, n10, n01, nm0, n0m, imp_t, imp_f]
  by_cases hc1 : nI 0 ≤ x ∧ x ≤ nI 99
  rotate_left
  · rw [bi_f hc1]
    refine ⟨fun _ => ?_, fun q => absurd rfl q⟩
    refine call0 (c_bad0 (by decide) (by decide) up_s (fun q => absurd q n10) (fun _ => ?_))
    simp only [ixr_of, run_s, run_0, rM_ahead, rok_i, rok_z, bx_cons, bx_nil, eBP, eC0, eC1, eC2, eC3, eCS3, eCV0, eCV1, eCV3, eGO, eGR, jIFeq, jIFne, eLA0, eLI1, eLI2, eLI3, ePI, eRI, fM_ahead_0, fM_ahead_14, fM_ahead_18, fM_ahead_19, fM_ahead_27, fM_ahead_38, fM_ahead_47, fM_ahead_51, fM_ahead_52, fM_ahead_60, fM_ahead_62, bM_ahead_0, bM_ahead_14, bM_ahead_18, bM_ahead_19, bM_ahead_27, bM_ahead_38, bM_ahead_47, bM_ahead_51, bM_ahead_52, bM_ahead_60, bM_ahead_62, ln_mtrial, rg_m_34, ty_m, ty_mtrial, Option.toList_some, Option.toList_none, List.cons_append, List.nil_append, List.length_cons, List.length_nil, List.mem_cons, List.not_mem_nil, or_false, false_or, or_true, true_or, ↓reduceIte, true_and, and_true, Nat.reduceEqDiff, Nat.reduceAdd, Nat.reduceLeDiff, Nat.reduceLT, dl_i, dl_r, dl_n, dl_u, eq_self, not_true_eq_false, not_false_eq_true, n10, n01, nm0, n0m, imp_t, imp_f]
    exact h2 hc0 (fun q => hc1 q.1)
  rw [bi_t hc1]
  refine ⟨fun q => absurd q n10, fun _ => ?_⟩
  refine call0 (c_in ?_)
  simp only [ixr_of, run_s, run_0, rM_ahead, rok_i, rok_z, bx_cons, bx_nil, eBP, eC0, eC1, eC2, eC3, eCS3, eCV0, eCV1, eCV3, eGO, eGR, jIFeq, jIFne, eLA0, eLI1, eLI2, eLI3, ePI, eRI, fM_ahead_0, fM_ahead_14, fM_ahead_18, fM_ahead_19, fM_ahead_27, fM_ahead_38, fM_ahead_47, fM_ahead_51, fM_ahead_52, fM_ahead_60, fM_ahead_62, bM_ahead_0, bM_ahead_14, bM_ahead_18, bM_ahead_19, bM_ahead_27, bM_ahead_38, bM_ahead_47, bM_ahead_51, bM_ahead_52, bM_ahead_60, bM_ahead_62, ln_mtrial, rg_m_34, ty_m, ty_mtrial, Option.toList_some, Option.toList_none, List.cons_append, List.nil_append, List.length_cons, List.length_nil, List.mem_cons, List.not_mem_nil, or_false, false_or, or_true, true_or, ↓reduceIte, true_and, and_true, Nat.reduceEqDiff, Nat.reduceAdd, Nat.reduceLeDiff, Nat.reduceLT, dl_i, dl_r, dl_n, dl_u, eq_self, not_true_eq_false, not_false_eq_true, n10, n01, nm0, n0m, imp_t, imp_f]
  by_cases hc2 : nI 0 ≤ y ∧ y ≤ nI 3
  rotate_left
  · rw [bi_f hc2]
    refine ⟨fun q => absurd rfl q, fun _ => ?_⟩
    refine call0 (c_bad0 (by decide) (by decide) up_s (fun q => absurd q n10) (fun _ => ?_))
    simp only [ixr_of, run_s, run_0, rM_ahead, rok_i, rok_z, bx_cons, bx_nil, eBP, eC0, eC1, eC2, eC3, eCS3, eCV0, eCV1, eCV3, eGO, eGR, jIFeq, jIFne, eLA0, eLI1, eLI2, eLI3, ePI, eRI, fM_ahead_0, fM_ahead_14, fM_ahead_18, fM_ahead_19, fM_ahead_27, fM_ahead_38, fM_ahead_47, fM_ahead_51, fM_ahead_52, fM_ahead_60, fM_ahead_62, bM_ahead_0, bM_ahead_14, bM_ahead_18, bM_ahead_19, bM_ahead_27, bM_ahead_38, bM_ahead_47, bM_ahead_51, bM_ahead_52, bM_ahead_60, bM_ahead_62, ln_mtrial, rg_m_34, ty_m, ty_mtrial, Option.toList_some, Option.toList_none, List.cons_append, List.nil_append, List.length_cons, List.length_nil, List.mem_cons, List.not_mem_nil, or_false, false_or, or_true, true_or, ↓reduceIte, true_and, and_true, Nat.reduceEqDiff, Nat.reduceAdd, Nat.reduceLeDiff, Nat.reduceLT, dl_i, dl_r, dl_n, dl_u, eq_self, not_true_eq_false, not_false_eq_true, n10, n01, nm0, n0m, imp_t, imp_f]
    exact h2 hc0 (fun q => hc2 q.2)
  rw [bi_t hc2]
  refine ⟨fun _ => ?_, fun q => absurd q n10⟩
  refine call0 (c_bad0 (by decide) (by decide) up_s (fun _ => ?_) (fun q => absurd rfl q))
  simp only [ixr_of, run_s, run_0, rM_ahead, rok_i, rok_z, bx_cons, bx_nil, eBP, eC0, eC1, eC2, eC3, eCS3, eCV0, eCV1, eCV3, eGO, eGR, jIFeq, jIFne, eLA0, eLI1, eLI2, eLI3, ePI, eRI, fM_ahead_0, fM_ahead_14, fM_ahead_18, fM_ahead_19, fM_ahead_27, fM_ahead_38, fM_ahead_47, fM_ahead_51, fM_ahead_52, fM_ahead_60, fM_ahead_62, bM_ahead_0, bM_ahead_14, bM_ahead_18, bM_ahead_19, bM_ahead_27, bM_ahead_38, bM_ahead_47, bM_ahead_51, bM_ahead_52, bM_ahead_60, bM_ahead_62, ln_mtrial, rg_m_34, ty_m, ty_mtrial, Option.toList_some, Option.toList_none, List.cons_append, List.nil_append, List.length_cons, List.length_nil, List.mem_cons, List.not_mem_nil, or_false, false_or, or_true, true_or, ↓reduceIte, true_and, and_true, Nat.reduceEqDiff, Nat.reduceAdd, Nat.reduceLeDiff, Nat.reduceLT, dl_i, dl_r, dl_n, dl_u, eq_self, not_true_eq_false, not_false_eq_true, n10, n01, nm0, n0m, imp_t, imp_f]
  obtain ⟨n, hn, rfl⟩ := rng (by decide) hc1
  obtain ⟨u, hu, rfl⟩ := rng (by decide) hc2
  obtain ⟨w, hw, rfl⟩ := isV_n h0 h9 hc0
  refine call0 (c_asN ?_)
  simp only [ixr_of, run_s, run_0, rM_ahead, rok_i, rok_z, bx_cons, bx_nil, eBP, eC0, eC1, eC2, eC3, eCS3, eCV0, eCV1, eCV3, eGO, eGR, jIFeq, jIFne, eLA0, eLI1, eLI2, eLI3, ePI, eRI, fM_ahead_0, fM_ahead_14, fM_ahead_18, fM_ahead_19, fM_ahead_27, fM_ahead_38, fM_ahead_47, fM_ahead_51, fM_ahead_52, fM_ahead_60, fM_ahead_62, bM_ahead_0, bM_ahead_14, bM_ahead_18, bM_ahead_19, bM_ahead_27, bM_ahead_38, bM_ahead_47, bM_ahead_51, bM_ahead_52, bM_ahead_60, bM_ahead_62, ln_mtrial, rg_m_34, ty_m, ty_mtrial, Option.toList_some, Option.toList_none, List.cons_append, List.nil_append, List.length_cons, List.length_nil, List.mem_cons, List.not_mem_nil, or_false, false_or, or_true, true_or, ↓reduceIte, true_and, and_true, Nat.reduceEqDiff, Nat.reduceAdd, Nat.reduceLeDiff, Nat.reduceLT, dl_i, dl_r, dl_n, dl_u, eq_self, not_true_eq_false, not_false_eq_true, n10, n01, nm0, n0m, imp_t, imp_f]
  rw [asN_up0]
  obtain ⟨A, hA⟩ : ∃ A, A = up (asN I) 500000 0 (nI 0) := ⟨_, rfl⟩
  have hM : MP I A := by rw [hA]; exact MP.as.tr (MP.fl (by unfold scF; omega))
  have hA1 : A 500124 = I 500124 := hM.1 _ (by decide) (by unfold scA; omega)
  rw [← hA]
  have hPA : Pe nV (pmI A) (pmN I) := by
    rw [hA]; exact (pm_say h9 (say_up0 (Or.inl rfl))).tr (pm_as h9)
  refine call0 (c_goesOn2 (by omega) (hV.t hM.t) hPA rfl ?_)
  intro J hf hr
  simp only [ixr_of, run_s, run_0, rM_ahead, rok_i, rok_z, bx_cons, bx_nil, eBP, eC0, eC1, eC2, eC3, eCS3, eCV0, eCV1, eCV3, eGO, eGR, jIFeq, jIFne, eLA0, eLI1, eLI2, eLI3, ePI, eRI, fM_ahead_0, fM_ahead_14, fM_ahead_18, fM_ahead_19, fM_ahead_27, fM_ahead_38, fM_ahead_47, fM_ahead_51, fM_ahead_52, fM_ahead_60, fM_ahead_62, bM_ahead_0, bM_ahead_14, bM_ahead_18, bM_ahead_19, bM_ahead_27, bM_ahead_38, bM_ahead_47, bM_ahead_51, bM_ahead_52, bM_ahead_60, bM_ahead_62, ln_mtrial, rg_m_34, ty_m, ty_mtrial, Option.toList_some, Option.toList_none, List.cons_append, List.nil_append, List.length_cons, List.length_nil, List.mem_cons, List.not_mem_nil, or_false, false_or, or_true, true_or, ↓reduceIte, true_and, and_true, Nat.reduceEqDiff, Nat.reduceAdd, Nat.reduceLeDiff, Nat.reduceLT, dl_i, dl_r, dl_n, dl_u, eq_self, not_true_eq_false, not_false_eq_true, n10, n01, nm0, n0m, imp_t, imp_f]
  refine call0 (c_basin ty_mtrial (by rw [ln_mtrial]; decide) (by omega) (by omega) ?_)
  simp only [ixr_of, run_s, run_0, rM_ahead, rok_i, rok_z, bx_cons, bx_nil, eBP, eC0, eC1, eC2, eC3, eCS3, eCV0, eCV1, eCV3, eGO, eGR, jIFeq, jIFne, eLA0, eLI1, eLI2, eLI3, ePI, eRI, fM_ahead_0, fM_ahead_14, fM_ahead_18, fM_ahead_19, fM_ahead_27, fM_ahead_38, fM_ahead_47, fM_ahead_51, fM_ahead_52, fM_ahead_60, fM_ahead_62, bM_ahead_0, bM_ahead_14, bM_ahead_18, bM_ahead_19, bM_ahead_27, bM_ahead_38, bM_ahead_47, bM_ahead_51, bM_ahead_52, bM_ahead_60, bM_ahead_62, ln_mtrial, rg_m_34, ty_m, ty_mtrial, Option.toList_some, Option.toList_none, List.cons_append, List.nil_append, List.length_cons, List.length_nil, List.mem_cons, List.not_mem_nil, or_false, false_or, or_true, true_or, ↓reduceIte, true_and, and_true, Nat.reduceEqDiff, Nat.reduceAdd, Nat.reduceLeDiff, Nat.reduceLT, dl_i, dl_r, dl_n, dl_u, eq_self, not_true_eq_false, not_false_eq_true, n10, n01, nm0, n0m, imp_t, imp_f]
  rw [hr, gR_t hM.t h9 hC, hA1]
  exact h3 w n u hw rfl hn rfl hu rfl J (hM.tr (MP.fr hf)) (by rw [hf.2 _ (by decide), hA, up_s])
theorem c_told {x : Int32} (h1 : ¬ (nI 0 ≤ x ∧ x ≤ nI 7) → kr (some (.int (nI 0))) (ref1 (up I 500000 0 (nI 0)) (nI 1) 1) E)
    (h2 : ∀ n, n ≤ 7 → x = nI n → kr (some (.int (if n < 3 then I 500004 n else if n = 3 then I 500004 4 else if n = 4 then I 500124 501 else if n = 5 then I 500000 37 else if n = 6 then I 500000 38 else I 500000 36))) (up I 500000 0 (nI 0)) E) : Ex Γ l shN (d + 2) (0, 0) mM_told [.ref 500000, .int x] I E kr kx := by
  refine ex_of (ls0 := [some (.ref 500000), some (.int x)]) tM_told (by decide +kernel) kM_told rfl (Nat.le_of_ble_eq_true rfl) rfl ?_
  intro go hgo
  refine hgo 20 [] 0 _ _ _ _ _ ?_
  simp only [ixr_of, run_s, run_0, rM_told, rok_i, rok_z, bx_cons, bx_nil, eBP, eC0, eC1, eC4, eCS3, eCV3, eGI, eGO, eGR, eIALD, jIFeq, jIFne, eLA0, eLI1, ePI, eRI, eSP, eSW, jswA_c, swA_n, fM_told_0, fM_told_16, fM_told_20, fM_told_21, fM_told_29, fM_told_31, fM_told_76, fM_told_83, fM_told_90, fM_told_99, fM_told_104, fM_told_109, bM_told_0, bM_told_16, bM_told_20, bM_told_21, bM_told_29, bM_told_31, bM_told_76, bM_told_83, bM_told_90, bM_told_99, bM_told_104, bM_told_109, ln_mnow, ln_mtold, rg_m_12, rg_m_32, ty_m, ty_mnow, ty_mtold, Option.toList_some, Option.toList_none, List.cons_append, List.nil_append, List.length_cons, List.length_nil, List.mem_cons, List.not_mem_nil, or_false, false_or, or_true, true_or, ↓reduceIte, true_and, and_true, Nat.reduceEqDiff, Nat.reduceAdd, Nat.reduceLeDiff, Nat.reduceLT, dl_i, dl_r, dl_n, dl_u, eq_self, not_true_eq_false, not_false_eq_true, n10, n01, nm0, n0m, imp_t, imp_f]
  refine call0 (c_in ?_)
  simp only [ixr_of, run_s, run_0, rM_told, rok_i, rok_z, bx_cons, bx_nil, eBP, eC0, eC1, eC4, eCS3, eCV3, eGI, eGO, eGR, eIALD, jIFeq, jIFne, eLA0, eLI1, ePI, eRI, eSP, eSW, jswA_c, swA_n, fM_told_0, fM_told_16, fM_told_20, fM_told_21, fM_told_29, fM_told_31, fM_told_76, fM_told_83, fM_told_90, fM_told_99, fM_told_104, fM_told_109, bM_told_0, bM_told_16, bM_told_20, bM_told_21, bM_told_29, bM_told_31, bM_told_76, bM_told_83, bM_told_90, bM_told_99, bM_told_104, bM_told_109, ln_mnow, ln_mtold, rg_m_12, rg_m_32, ty_m, ty_mnow, ty_mtold, Option.toList_some, Option.toList_none, List.cons_append, List.nil_append, List.length_cons, List.length_nil, List.mem_cons, List.not_mem_nil, or_false, false_or, or_true, true_or, ↓reduceIte, true_and, and_true, Nat.reduceEqDiff, Nat.reduceAdd, Nat.reduceLeDiff, Nat.reduceLT, dl_i, dl_r, dl_n, dl_u, eq_self, not_true_eq_false, not_false_eq_true, n10, n01, nm0, n0m, imp_t, imp_f]
  by_cases hc0 : nI 0 ≤ x ∧ x ≤ nI 7
  rotate_left
  · rw [bi_f hc0]
    refine ⟨fun q => absurd rfl q, fun _ => ?_⟩
    refine call0 (c_bad0 (by decide) (by decide) up_s (fun q => absurd q n10) (fun _ => ?_))
    simp only [ixr_of, run_s, run_0, rM_told, rok_i, rok_z, bx_cons, bx_nil, eBP, eC0, eC1, eC4, eCS3, eCV3, eGI, eGO, eGR, eIALD, jIFeq, jIFne, eLA0, eLI1, ePI, eRI, eSP, eSW, jswA_c, swA_n, fM_told_0, fM_told_16, fM_told_20, fM_told_21, fM_told_29, fM_told_31, fM_told_76, fM_told_83, fM_told_90, fM_told_99, fM_told_104, fM_told_109, bM_told_0, bM_told_16, bM_told_20, bM_told_21, bM_told_29, bM_told_31, bM_told_76, bM_told_83, bM_told_90, bM_told_99, bM_told_104, bM_told_109, ln_mnow, ln_mtold, rg_m_12, rg_m_32, ty_m, ty_mnow, ty_mtold, Option.toList_some, Option.toList_none, List.cons_append, List.nil_append, List.length_cons, List.length_nil, List.mem_cons, List.not_mem_nil, or_false, false_or, or_true, true_or, ↓reduceIte, true_and, and_true, Nat.reduceEqDiff, Nat.reduceAdd, Nat.reduceLeDiff, Nat.reduceLT, dl_i, dl_r, dl_n, dl_u, eq_self, not_true_eq_false, not_false_eq_true, n10, n01, nm0, n0m, imp_t, imp_f]
    exact h1  hc0
  rw [bi_t hc0]
  refine ⟨fun _ => ?_, fun q => absurd q n10⟩
  refine call0 (c_bad0 (by decide) (by decide) up_s (fun _ => ?_) (fun q => absurd rfl q))
  simp only [ixr_of, run_s, run_0, rM_told, rok_i, rok_z, bx_cons, bx_nil, eBP, eC0, eC1, eC4, eCS3, eCV3, eGI, eGO, eGR, eIALD, jIFeq, jIFne, eLA0, eLI1, ePI, eRI, eSP, eSW, jswA_c, swA_n, fM_told_0, fM_told_16, fM_told_20, fM_told_21, fM_told_29, fM_told_31, fM_told_76, fM_told_83, fM_told_90, fM_told_99, fM_told_104, fM_told_109, bM_told_0, bM_told_16, bM_told_20, bM_told_21, bM_told_29, bM_told_31, bM_told_76, bM_told_83, bM_told_90, bM_told_99, bM_told_104, bM_told_109, ln_mnow, ln_mtold, rg_m_12, rg_m_32, ty_m, ty_mnow, ty_mtold, Option.toList_some, Option.toList_none, List.cons_append, List.nil_append, List.length_cons, List.length_nil, List.mem_cons, List.not_mem_nil, or_false, false_or, or_true, true_or, ↓reduceIte, true_and, and_true, Nat.reduceEqDiff, Nat.reduceAdd, Nat.reduceLeDiff, Nat.reduceLT, dl_i, dl_r, dl_n, dl_u, eq_self, not_true_eq_false, not_false_eq_true, n10, n01, nm0, n0m, imp_t, imp_f]
  obtain ⟨n, hn, rfl⟩ := rng (by decide) hc0
  have h3 := h2 n hn rfl
  have hn8 : n = 0 ∨ n = 1 ∨ n = 2 ∨ n = 3 ∨ n = 4 ∨ n = 5 ∨ n = 6 ∨ n = 7 := by omega
  have e0 : ∀ i j, ¬ (i = 500000 ∧ j = 0) → up I 500000 0 (nI 0) i j = I i j := fun i j h => up_n h
  rcases hn8 with rfl | rfl | rfl | rfl | rfl | rfl | rfl | rfl <;> simp only [nIe, Nat.reduceLT, Nat.reduceEqDiff, Nat.reduceAdd, imp_t, imp_f, true_and, and_true, ixr_of, Nat.reduceLeDiff, not_true_eq_false, not_false_eq_true, eq_self, e0, ↓reduceIte] at h3 ⊢ <;> (try rw [up_n (by decide)]) <;> first | exact ⟨h3, (fun q => by first | exact absurd rfl (q 0 (by decide)) | exact absurd rfl (q 1 (by decide)) | exact absurd rfl (q 2 (by decide)) | exact absurd rfl (q 3 (by decide)) | exact absurd rfl (q 4 (by decide)) | exact absurd rfl (q 5 (by decide)) | exact absurd rfl (q 6 (by decide)) | exact absurd rfl (q 7 (by decide)) | exact absurd rfl (q 8 (by decide)) | exact absurd rfl (q 9 (by decide)))⟩ | exact fun _ => h3
theorem c_count {x : Int32} (h : kr (some (.int (if x = nI 0 then I 500000 40 else if x = nI 1 then I 500000 1 else if x = nI 2 then I 500000 39 else -1))) (up I 500000 0 (nI 0)) E) : Ex Γ l shN (d + 1) (0, 0) mM_count [.ref 500000, .int x] I E kr kx := by
  refine ex_of (ls0 := [some (.ref 500000), some (.int x)]) tM_count (by decide +kernel) kM_count rfl (Nat.le_of_ble_eq_true rfl) rfl ?_
  intro go hgo
  refine hgo 20 [] 0 _ _ _ _ _ ?_
  simp only [ixr_of, run_s, run_0, rM_count, rok_i, rok_z, bx_cons, bx_nil, eC0, eC1, eC2, eCm1, eGI, eGO, jICne, jIFne, eLA0, eLI1, ePI, eRI, fM_count_0, fM_count_9, fM_count_16, fM_count_21, fM_count_28, fM_count_33, fM_count_40, fM_count_41, bM_count_0, bM_count_9, bM_count_16, bM_count_21, bM_count_28, bM_count_33, bM_count_40, bM_count_41, ty_m, Option.toList_some, Option.toList_none, List.cons_append, List.nil_append, List.length_cons, List.length_nil, List.mem_cons, List.not_mem_nil, or_false, false_or, or_true, true_or, ↓reduceIte, true_and, and_true, Nat.reduceEqDiff, Nat.reduceAdd, Nat.reduceLeDiff, Nat.reduceLT, dl_i, dl_r, dl_n, dl_u, eq_self, not_true_eq_false, not_false_eq_true, n10, n01, nm0, n0m, imp_t, imp_f]
  rw [up_n (by decide), up_n (by decide), up_n (by decide)]
  refine ⟨fun q => ⟨fun q1 => ⟨fun q2 => ?_, fun q2 => ?_⟩, fun q1 => ?_⟩, fun q => ?_⟩
  · rw [if_neg q, if_neg q1, if_neg q2] at h; exact h
  · rw [if_neg q, if_neg q1, if_pos q2] at h; exact h
  · rw [if_neg q, if_pos q1] at h; exact h
  · rw [if_pos q] at h; exact h
theorem c_status {x : Int32} (h1 : ¬ (nI 0 ≤ x ∧ x ≤ nI 1) → kr (some (.int (-1))) (up I 500000 0 (nI 0)) E) (h2 : ∀ n, n ≤ 1 → x = nI n → kr (some (.int (I 500002 n))) (up I 500000 0 (nI 0)) E) : Ex Γ l shN (d + 2) (0, 0) mM_status [.ref 500000, .int x] I E kr kx := by
  refine ex_of (ls0 := [some (.ref 500000), some (.int x)]) tM_status (by decide +kernel) kM_status rfl (Nat.le_of_ble_eq_true rfl) rfl ?_
  intro go hgo
  refine hgo 20 [] 0 _ _ _ _ _ ?_
  simp only [ixr_of, run_s, run_0, rM_status, rok_i, rok_z, bx_cons, bx_nil, eC0, eC1, eCS3, eCm1, eGO, eGR, eIALD, jIFeq, eLA0, eLI1, ePI, eRI, fM_status_0, fM_status_14, fM_status_23, fM_status_24, bM_status_0, bM_status_14, bM_status_23, bM_status_24, ln_mrefused, rg_m_10, ty_m, ty_mrefused, Option.toList_some, Option.toList_none, List.cons_append, List.nil_append, List.length_cons, List.length_nil, List.mem_cons, List.not_mem_nil, or_false, false_or, or_true, true_or, ↓reduceIte, true_and, and_true, Nat.reduceEqDiff, Nat.reduceAdd, Nat.reduceLeDiff, Nat.reduceLT, dl_i, dl_r, dl_n, dl_u, eq_self, not_true_eq_false, not_false_eq_true, n10, n01, nm0, n0m, imp_t, imp_f]
  refine call0 (c_in ?_)
  simp only [ixr_of, run_s, run_0, rM_status, rok_i, rok_z, bx_cons, bx_nil, eC0, eC1, eCS3, eCm1, eGO, eGR, eIALD, jIFeq, eLA0, eLI1, ePI, eRI, fM_status_0, fM_status_14, fM_status_23, fM_status_24, bM_status_0, bM_status_14, bM_status_23, bM_status_24, ln_mrefused, rg_m_10, ty_m, ty_mrefused, Option.toList_some, Option.toList_none, List.cons_append, List.nil_append, List.length_cons, List.length_nil, List.mem_cons, List.not_mem_nil, or_false, false_or, or_true, true_or, ↓reduceIte, true_and, and_true, Nat.reduceEqDiff, Nat.reduceAdd, Nat.reduceLeDiff, Nat.reduceLT, dl_i, dl_r, dl_n, dl_u, eq_self, not_true_eq_false, not_false_eq_true, n10, n01, nm0, n0m, imp_t, imp_f]
  rw [bi_0]
  refine ⟨fun q => h1 q, fun q => ?_⟩
  have q' := Decidable.not_not.mp q
  obtain ⟨n, hn, rfl⟩ := rng (by decide) q'
  refine ixr_n (by omega) ?_
  rw [up_n (by omega)]
  exact h2 n hn rfl
theorem c_please {x : Int32} (h1 : ¬ (nI 0 ≤ x ∧ x ≤ nI 1 <<< (I 500004 0 &&& 31) - nI 1) → kr (some (.int (nI 0))) (ref1 (up I 500000 0 (nI 0)) (nI 1) 1) E)
    (h2 : (nI 0 ≤ x ∧ x ≤ nI 1 <<< (I 500004 0 &&& 31) - nI 1) → kr (some (.int (I 500000 37))) (up (sr (up (up I 500000 0 (nI 0)) 500000 37 x) 500125 (I 500124)) 500000 39 (nI 0)) E) : Ex Γ l shN (d + 3) (0, 0) mM_please [.ref 500000, .int x] I E kr kx := by
  refine ex_of (ls0 := [some (.ref 500000), some (.int x), none]) tM_please (by decide +kernel) kM_please rfl (Nat.le_of_ble_eq_true rfl) rfl ?_
  intro go hgo
  refine hgo 20 [] 0 _ _ _ _ _ ?_
  simp only [ixr_of, run_s, run_0, rM_please, rok_i, rok_z, bx_cons, bx_nil, eC0, eC1, eCV0, eCV1, eCV3, eGI, eGO, jIFeq, jIFne, eLA0, eLI1, eLI2, ePI, eRI, eSI2, fM_please_0, fM_please_14, fM_please_18, fM_please_19, fM_please_27, fM_please_29, bM_please_0, bM_please_14, bM_please_18, bM_please_19, bM_please_27, bM_please_29, ty_m, Option.toList_some, Option.toList_none, List.cons_append, List.nil_append, List.length_cons, List.length_nil, List.mem_cons, List.not_mem_nil, or_false, false_or, or_true, true_or, ↓reduceIte, true_and, and_true, Nat.reduceEqDiff, Nat.reduceAdd, Nat.reduceLeDiff, Nat.reduceLT, dl_i, dl_r, dl_n, dl_u, eq_self, not_true_eq_false, not_false_eq_true, n10, n01, nm0, n0m, imp_t, imp_f]
  refine call0 (c_areV ?_)
  simp only [ixr_of, run_s, run_0, rM_please, rok_i, rok_z, bx_cons, bx_nil, eC0, eC1, eCV0, eCV1, eCV3, eGI, eGO, jIFeq, jIFne, eLA0, eLI1, eLI2, ePI, eRI, eSI2, fM_please_0, fM_please_14, fM_please_18, fM_please_19, fM_please_27, fM_please_29, bM_please_0, bM_please_14, bM_please_18, bM_please_19, bM_please_27, bM_please_29, ty_m, Option.toList_some, Option.toList_none, List.cons_append, List.nil_append, List.length_cons, List.length_nil, List.mem_cons, List.not_mem_nil, or_false, false_or, or_true, true_or, ↓reduceIte, true_and, and_true, Nat.reduceEqDiff, Nat.reduceAdd, Nat.reduceLeDiff, Nat.reduceLT, dl_i, dl_r, dl_n, dl_u, eq_self, not_true_eq_false, not_false_eq_true, n10, n01, nm0, n0m, imp_t, imp_f]
  by_cases hc0 : nI 0 ≤ x ∧ x ≤ nI 1 <<< (I 500004 0 &&& 31) - nI 1
  rotate_left
  · rw [bi_f hc0]
    refine ⟨fun q => absurd rfl q, fun _ => ?_⟩
    refine call0 (c_bad0 (by decide) (by decide) up_s (fun q => absurd q n10) (fun _ => ?_))
    simp only [ixr_of, run_s, run_0, rM_please, rok_i, rok_z, bx_cons, bx_nil, eC0, eC1, eCV0, eCV1, eCV3, eGI, eGO, jIFeq, jIFne, eLA0, eLI1, eLI2, ePI, eRI, eSI2, fM_please_0, fM_please_14, fM_please_18, fM_please_19, fM_please_27, fM_please_29, bM_please_0, bM_please_14, bM_please_18, bM_please_19, bM_please_27, bM_please_29, ty_m, Option.toList_some, Option.toList_none, List.cons_append, List.nil_append, List.length_cons, List.length_nil, List.mem_cons, List.not_mem_nil, or_false, false_or, or_true, true_or, ↓reduceIte, true_and, and_true, Nat.reduceEqDiff, Nat.reduceAdd, Nat.reduceLeDiff, Nat.reduceLT, dl_i, dl_r, dl_n, dl_u, eq_self, not_true_eq_false, not_false_eq_true, n10, n01, nm0, n0m, imp_t, imp_f]
    exact h1  hc0
  rw [bi_t hc0]
  refine ⟨fun _ => ?_, fun q => absurd q n10⟩
  refine call0 (c_bad0 (by decide) (by decide) up_s (fun _ => ?_) (fun q => absurd rfl q))
  simp only [ixr_of, run_s, run_0, rM_please, rok_i, rok_z, bx_cons, bx_nil, eC0, eC1, eCV0, eCV1, eCV3, eGI, eGO, jIFeq, jIFne, eLA0, eLI1, eLI2, ePI, eRI, eSI2, fM_please_0, fM_please_14, fM_please_18, fM_please_19, fM_please_27, fM_please_29, bM_please_0, bM_please_14, bM_please_18, bM_please_19, bM_please_27, bM_please_29, ty_m, Option.toList_some, Option.toList_none, List.cons_append, List.nil_append, List.length_cons, List.length_nil, List.mem_cons, List.not_mem_nil, or_false, false_or, or_true, true_or, ↓reduceIte, true_and, and_true, Nat.reduceEqDiff, Nat.reduceAdd, Nat.reduceLeDiff, Nat.reduceLT, dl_i, dl_r, dl_n, dl_u, eq_self, not_true_eq_false, not_false_eq_true, n10, n01, nm0, n0m, imp_t, imp_f]
  refine call0 (c_settles' ?_)
  simp only [ixr_of, run_s, run_0, rM_please, rok_i, rok_z, bx_cons, bx_nil, eC0, eC1, eCV0, eCV1, eCV3, eGI, eGO, jIFeq, jIFne, eLA0, eLI1, eLI2, ePI, eRI, eSI2, fM_please_0, fM_please_14, fM_please_18, fM_please_19, fM_please_27, fM_please_29, bM_please_0, bM_please_14, bM_please_18, bM_please_19, bM_please_27, bM_please_29, ty_m, Option.toList_some, Option.toList_none, List.cons_append, List.nil_append, List.length_cons, List.length_nil, List.mem_cons, List.not_mem_nil, or_false, false_or, or_true, true_or, ↓reduceIte, true_and, and_true, Nat.reduceEqDiff, Nat.reduceAdd, Nat.reduceLeDiff, Nat.reduceLT, dl_i, dl_r, dl_n, dl_u, eq_self, not_true_eq_false, not_false_eq_true, n10, n01, nm0, n0m, imp_t, imp_f]
  rw [up_n (by decide)]
  exact h2 hc0
theorem c_contrary {x : Int32} (h1 : ¬ (nI 0 ≤ x ∧ x ≤ nI 1 <<< (I 500004 0 &&& 31) - nI 1) → kr (some (.int (nI 0))) (ref1 (up I 500000 0 (nI 0)) (nI 1) 1) E)
    (h2 : (nI 0 ≤ x ∧ x ≤ nI 1 <<< (I 500004 0 &&& 31) - nI 1) → kr (some (.int (I 500000 38))) (up (sr (up (up I 500000 0 (nI 0)) 500000 38 x) 500125 (I 500124)) 500000 39 (nI 0)) E) : Ex Γ l shN (d + 3) (0, 0) mM_contrary [.ref 500000, .int x] I E kr kx := by
  refine ex_of (ls0 := [some (.ref 500000), some (.int x), none]) tM_contrary (by decide +kernel) kM_contrary rfl (Nat.le_of_ble_eq_true rfl) rfl ?_
  intro go hgo
  refine hgo 20 [] 0 _ _ _ _ _ ?_
  simp only [ixr_of, run_s, run_0, rM_contrary, rok_i, rok_z, bx_cons, bx_nil, eC0, eC1, eCV0, eCV1, eCV3, eGI, eGO, jIFeq, jIFne, eLA0, eLI1, eLI2, ePI, eRI, eSI2, fM_contrary_0, fM_contrary_14, fM_contrary_18, fM_contrary_19, fM_contrary_27, fM_contrary_29, bM_contrary_0, bM_contrary_14, bM_contrary_18, bM_contrary_19, bM_contrary_27, bM_contrary_29, ty_m, Option.toList_some, Option.toList_none, List.cons_append, List.nil_append, List.length_cons, List.length_nil, List.mem_cons, List.not_mem_nil, or_false, false_or, or_true, true_or, ↓reduceIte, true_and, and_true, Nat.reduceEqDiff, Nat.reduceAdd, Nat.reduceLeDiff, Nat.reduceLT, dl_i, dl_r, dl_n, dl_u, eq_self, not_true_eq_false, not_false_eq_true, n10, n01, nm0, n0m, imp_t, imp_f]
  refine call0 (c_areV ?_)
  simp only [ixr_of, run_s, run_0, rM_contrary, rok_i, rok_z, bx_cons, bx_nil, eC0, eC1, eCV0, eCV1, eCV3, eGI, eGO, jIFeq, jIFne, eLA0, eLI1, eLI2, ePI, eRI, eSI2, fM_contrary_0, fM_contrary_14, fM_contrary_18, fM_contrary_19, fM_contrary_27, fM_contrary_29, bM_contrary_0, bM_contrary_14, bM_contrary_18, bM_contrary_19, bM_contrary_27, bM_contrary_29, ty_m, Option.toList_some, Option.toList_none, List.cons_append, List.nil_append, List.length_cons, List.length_nil, List.mem_cons, List.not_mem_nil, or_false, false_or, or_true, true_or, ↓reduceIte, true_and, and_true, Nat.reduceEqDiff, Nat.reduceAdd, Nat.reduceLeDiff, Nat.reduceLT, dl_i, dl_r, dl_n, dl_u, eq_self, not_true_eq_false, not_false_eq_true, n10, n01, nm0, n0m, imp_t, imp_f]
  by_cases hc0 : nI 0 ≤ x ∧ x ≤ nI 1 <<< (I 500004 0 &&& 31) - nI 1
  rotate_left
  · rw [bi_f hc0]
    refine ⟨fun q => absurd rfl q, fun _ => ?_⟩
    refine call0 (c_bad0 (by decide) (by decide) up_s (fun q => absurd q n10) (fun _ => ?_))
    simp only [ixr_of, run_s, run_0, rM_contrary, rok_i, rok_z, bx_cons, bx_nil, eC0, eC1, eCV0, eCV1, eCV3, eGI, eGO, jIFeq, jIFne, eLA0, eLI1, eLI2, ePI, eRI, eSI2, fM_contrary_0, fM_contrary_14, fM_contrary_18, fM_contrary_19, fM_contrary_27, fM_contrary_29, bM_contrary_0, bM_contrary_14, bM_contrary_18, bM_contrary_19, bM_contrary_27, bM_contrary_29, ty_m, Option.toList_some, Option.toList_none, List.cons_append, List.nil_append, List.length_cons, List.length_nil, List.mem_cons, List.not_mem_nil, or_false, false_or, or_true, true_or, ↓reduceIte, true_and, and_true, Nat.reduceEqDiff, Nat.reduceAdd, Nat.reduceLeDiff, Nat.reduceLT, dl_i, dl_r, dl_n, dl_u, eq_self, not_true_eq_false, not_false_eq_true, n10, n01, nm0, n0m, imp_t, imp_f]
    exact h1  hc0
  rw [bi_t hc0]
  refine ⟨fun _ => ?_, fun q => absurd q n10⟩
  refine call0 (c_bad0 (by decide) (by decide) up_s (fun _ => ?_) (fun q => absurd rfl q))
  simp only [ixr_of, run_s, run_0, rM_contrary, rok_i, rok_z, bx_cons, bx_nil, eC0, eC1, eCV0, eCV1, eCV3, eGI, eGO, jIFeq, jIFne, eLA0, eLI1, eLI2, ePI, eRI, eSI2, fM_contrary_0, fM_contrary_14, fM_contrary_18, fM_contrary_19, fM_contrary_27, fM_contrary_29, bM_contrary_0, bM_contrary_14, bM_contrary_18, bM_contrary_19, bM_contrary_27, bM_contrary_29, ty_m, Option.toList_some, Option.toList_none, List.cons_append, List.nil_append, List.length_cons, List.length_nil, List.mem_cons, List.not_mem_nil, or_false, false_or, or_true, true_or, ↓reduceIte, true_and, and_true, Nat.reduceEqDiff, Nat.reduceAdd, Nat.reduceLeDiff, Nat.reduceLT, dl_i, dl_r, dl_n, dl_u, eq_self, not_true_eq_false, not_false_eq_true, n10, n01, nm0, n0m, imp_t, imp_f]
  refine call0 (c_settles' ?_)
  simp only [ixr_of, run_s, run_0, rM_contrary, rok_i, rok_z, bx_cons, bx_nil, eC0, eC1, eCV0, eCV1, eCV3, eGI, eGO, jIFeq, jIFne, eLA0, eLI1, eLI2, ePI, eRI, eSI2, fM_contrary_0, fM_contrary_14, fM_contrary_18, fM_contrary_19, fM_contrary_27, fM_contrary_29, bM_contrary_0, bM_contrary_14, bM_contrary_18, bM_contrary_19, bM_contrary_27, bM_contrary_29, ty_m, Option.toList_some, Option.toList_none, List.cons_append, List.nil_append, List.length_cons, List.length_nil, List.mem_cons, List.not_mem_nil, or_false, false_or, or_true, true_or, ↓reduceIte, true_and, and_true, Nat.reduceEqDiff, Nat.reduceAdd, Nat.reduceLeDiff, Nat.reduceLT, dl_i, dl_r, dl_n, dl_u, eq_self, not_true_eq_false, not_false_eq_true, n10, n01, nm0, n0m, imp_t, imp_f]
  rw [up_n (by decide)]
  exact h2 hc0
theorem c_grade {v x : Int32} {nV : Nat} (h0 : I 500004 0 = nI nV) (h9 : nV ≤ 9) (h1 : ¬ (nI 0 ≤ v ∧ v ≤ I 500004 0 - nI 1) → kr (some (.int (nI 0))) (ref1 (up I 500000 0 (nI 0)) (nI 1) 0) E)
    (h2 : (nI 0 ≤ v ∧ v ≤ I 500004 0 - nI 1) → ¬ (nI 0 ≤ x ∧ x ≤ nI 3) → kr (some (.int (nI 0))) (ref1 (up I 500000 0 (nI 0)) (nI 2) 1) E)
    (h3 : ∀ w n, w < nV → v = nI w → n ≤ 3 → x = nI n → kr (some (.int (I 500123 w))) (up (sr (up (up I 500000 0 (nI 0)) 500123 w (nI n)) 500125 (I 500124)) 500000 39 (nI 0)) E) : Ex Γ l shN (d + 3) (0, 0) mM_grade [.ref 500000, .int v, .int x] I E kr kx := by
  refine ex_of (ls0 := [some (.ref 500000), some (.int v), some (.int x), none]) tM_grade (by decide +kernel) kM_grade rfl (Nat.le_of_ble_eq_true rfl) rfl ?_
  intro go hgo
  refine hgo 20 [] 0 _ _ _ _ _ ?_
  simp only [ixr_of, run_s, run_0, rM_grade, rok_i, rok_z, bx_cons, bx_nil, eC0, eC1, eC2, eC3, eCS3, eCV0, eCV1, eCV3, eGO, eGR, eIALD, eIAST, jIFeq, jIFne, eLA0, eLI1, eLI2, eLI3, ePI, eRI, eSI3, fM_grade_0, fM_grade_14, fM_grade_18, fM_grade_19, fM_grade_27, fM_grade_37, fM_grade_41, fM_grade_42, fM_grade_50, fM_grade_52, bM_grade_0, bM_grade_14, bM_grade_18, bM_grade_19, bM_grade_27, bM_grade_37, bM_grade_41, bM_grade_42, bM_grade_50, bM_grade_52, ln_mgrade, rg_m_31, ty_m, ty_mgrade, Option.toList_some, Option.toList_none, List.cons_append, List.nil_append, List.length_cons, List.length_nil, List.mem_cons, List.not_mem_nil, or_false, false_or, or_true, true_or, ↓reduceIte, true_and, and_true, Nat.reduceEqDiff, Nat.reduceAdd, Nat.reduceLeDiff, Nat.reduceLT, dl_i, dl_r, dl_n, dl_u, eq_self, not_true_eq_false, not_false_eq_true, n10, n01, nm0, n0m, imp_t, imp_f]
  refine call0 (c_isV ?_)
  simp only [ixr_of, run_s, run_0, rM_grade, rok_i, rok_z, bx_cons, bx_nil, eC0, eC1, eC2, eC3, eCS3, eCV0, eCV1, eCV3, eGO, eGR, eIALD, eIAST, jIFeq, jIFne, eLA0, eLI1, eLI2, eLI3, ePI, eRI, eSI3, fM_grade_0, fM_grade_14, fM_grade_18, fM_grade_19, fM_grade_27, fM_grade_37, fM_grade_41, fM_grade_42, fM_grade_50, fM_grade_52, bM_grade_0, bM_grade_14, bM_grade_18, bM_grade_19, bM_grade_27, bM_grade_37, bM_grade_41, bM_grade_42, bM_grade_50, bM_grade_52, ln_mgrade, rg_m_31, ty_m, ty_mgrade, Option.toList_some, Option.toList_none, List.cons_append, List.nil_append, List.length_cons, List.length_nil, List.mem_cons, List.not_mem_nil, or_false, false_or, or_true, true_or, ↓reduceIte, true_and, and_true, Nat.reduceEqDiff, Nat.reduceAdd, Nat.reduceLeDiff, Nat.reduceLT, dl_i, dl_r, dl_n, dl_u, eq_self, not_true_eq_false, not_false_eq_true, n10, n01, nm0, n0m, imp_t, imp_f]
  by_cases hc0 : nI 0 ≤ v ∧ v ≤ I 500004 0 - nI 1
  rotate_left
  · rw [bi_f hc0]
    refine ⟨fun q => absurd rfl q, fun _ => ?_⟩
    refine call0 (c_bad0 (by decide) (by decide) up_s (fun q => absurd q n10) (fun _ => ?_))
    simp only [ixr_of, run_s, run_0, rM_grade, rok_i, rok_z, bx_cons, bx_nil, eC0, eC1, eC2, eC3, eCS3, eCV0, eCV1, eCV3, eGO, eGR, eIALD, eIAST, jIFeq, jIFne, eLA0, eLI1, eLI2, eLI3, ePI, eRI, eSI3, fM_grade_0, fM_grade_14, fM_grade_18, fM_grade_19, fM_grade_27, fM_grade_37, fM_grade_41, fM_grade_42, fM_grade_50, fM_grade_52, bM_grade_0, bM_grade_14, bM_grade_18, bM_grade_19, bM_grade_27, bM_grade_37, bM_grade_41, bM_grade_42, bM_grade_50, bM_grade_52, ln_mgrade, rg_m_31, ty_m, ty_mgrade, Option.toList_some, Option.toList_none, List.cons_append, List.nil_append, List.length_cons, List.length_nil, List.mem_cons, List.not_mem_nil, or_false, false_or, or_true, true_or, ↓reduceIte, true_and, and_true, Nat.reduceEqDiff, Nat.reduceAdd, Nat.reduceLeDiff, Nat.reduceLT, dl_i, dl_r, dl_n, dl_u, eq_self, not_true_eq_false, not_false_eq_true, n10, n01, nm0, n0m, imp_t, imp_f]
    exact h1  hc0
  rw [bi_t hc0]
  refine ⟨fun _ => ?_, fun q => absurd q n10⟩
  refine call0 (c_bad0 (by decide) (by decide) up_s (fun _ => ?_) (fun q => absurd rfl q))
  simp only [ixr_of, run_s, run_0, rM_grade, rok_i, rok_z, bx_cons, bx_nil, eC0, eC1, eC2, eC3, eCS3, eCV0, eCV1, eCV3, eGO, eGR, eIALD, eIAST, jIFeq, jIFne, eLA0, eLI1, eLI2, eLI3, ePI, eRI, eSI3, fM_grade_0, fM_grade_14, fM_grade_18, fM_grade_19, fM_grade_27, fM_grade_37, fM_grade_41, fM_grade_42, fM_grade_50, fM_grade_52, bM_grade_0, bM_grade_14, bM_grade_18, bM_grade_19, bM_grade_27, bM_grade_37, bM_grade_41, bM_grade_42, bM_grade_50, bM_grade_52, ln_mgrade, rg_m_31, ty_m, ty_mgrade, Option.toList_some, Option.toList_none, List.cons_append, List.nil_append, List.length_cons, List.length_nil, List.mem_cons, List.not_mem_nil, or_false, false_or, or_true, true_or, ↓reduceIte, true_and, and_true, Nat.reduceEqDiff, Nat.reduceAdd, Nat.reduceLeDiff, Nat.reduceLT, dl_i, dl_r, dl_n, dl_u, eq_self, not_true_eq_false, not_false_eq_true, n10, n01, nm0, n0m, imp_t, imp_f]
  refine call0 (c_in ?_)
  simp only [ixr_of, run_s, run_0, rM_grade, rok_i, rok_z, bx_cons, bx_nil, eC0, eC1, eC2, eC3, eCS3, eCV0, eCV1, eCV3, eGO, eGR, eIALD, eIAST, jIFeq, jIFne, eLA0, eLI1, eLI2, eLI3, ePI, eRI, eSI3, fM_grade_0, fM_grade_14, fM_grade_18, fM_grade_19, fM_grade_27, fM_grade_37, fM_grade_41, fM_grade_42, fM_grade_50, fM_grade_52, bM_grade_0, bM_grade_14, bM_grade_18, bM_grade_19, bM_grade_27, bM_grade_37, bM_grade_41, bM_grade_42, bM_grade_50, bM_grade_52, ln_mgrade, rg_m_31, ty_m, ty_mgrade, Option.toList_some, Option.toList_none, List.cons_append, List.nil_append, List.length_cons, List.length_nil, List.mem_cons, List.not_mem_nil, or_false, false_or, or_true, true_or, ↓reduceIte, true_and, and_true, Nat.reduceEqDiff, Nat.reduceAdd, Nat.reduceLeDiff, Nat.reduceLT, dl_i, dl_r, dl_n, dl_u, eq_self, not_true_eq_false, not_false_eq_true, n10, n01, nm0, n0m, imp_t, imp_f]
  by_cases hc1 : nI 0 ≤ x ∧ x ≤ nI 3
  rotate_left
  · rw [bi_f hc1]
    refine ⟨fun q => absurd rfl q, fun _ => ?_⟩
    refine call0 (c_bad0 (by decide) (by decide) up_s (fun q => absurd q n10) (fun _ => ?_))
    simp only [ixr_of, run_s, run_0, rM_grade, rok_i, rok_z, bx_cons, bx_nil, eC0, eC1, eC2, eC3, eCS3, eCV0, eCV1, eCV3, eGO, eGR, eIALD, eIAST, jIFeq, jIFne, eLA0, eLI1, eLI2, eLI3, ePI, eRI, eSI3, fM_grade_0, fM_grade_14, fM_grade_18, fM_grade_19, fM_grade_27, fM_grade_37, fM_grade_41, fM_grade_42, fM_grade_50, fM_grade_52, bM_grade_0, bM_grade_14, bM_grade_18, bM_grade_19, bM_grade_27, bM_grade_37, bM_grade_41, bM_grade_42, bM_grade_50, bM_grade_52, ln_mgrade, rg_m_31, ty_m, ty_mgrade, Option.toList_some, Option.toList_none, List.cons_append, List.nil_append, List.length_cons, List.length_nil, List.mem_cons, List.not_mem_nil, or_false, false_or, or_true, true_or, ↓reduceIte, true_and, and_true, Nat.reduceEqDiff, Nat.reduceAdd, Nat.reduceLeDiff, Nat.reduceLT, dl_i, dl_r, dl_n, dl_u, eq_self, not_true_eq_false, not_false_eq_true, n10, n01, nm0, n0m, imp_t, imp_f]
    exact h2 hc0 hc1
  rw [bi_t hc1]
  refine ⟨fun _ => ?_, fun q => absurd q n10⟩
  refine call0 (c_bad0 (by decide) (by decide) up_s (fun _ => ?_) (fun q => absurd rfl q))
  simp only [ixr_of, run_s, run_0, rM_grade, rok_i, rok_z, bx_cons, bx_nil, eC0, eC1, eC2, eC3, eCS3, eCV0, eCV1, eCV3, eGO, eGR, eIALD, eIAST, jIFeq, jIFne, eLA0, eLI1, eLI2, eLI3, ePI, eRI, eSI3, fM_grade_0, fM_grade_14, fM_grade_18, fM_grade_19, fM_grade_27, fM_grade_37, fM_grade_41, fM_grade_42, fM_grade_50, fM_grade_52, bM_grade_0, bM_grade_14, bM_grade_18, bM_grade_19, bM_grade_27, bM_grade_37, bM_grade_41, bM_grade_42, bM_grade_50, bM_grade_52, ln_mgrade, rg_m_31, ty_m, ty_mgrade, Option.toList_some, Option.toList_none, List.cons_append, List.nil_append, List.length_cons, List.length_nil, List.mem_cons, List.not_mem_nil, or_false, false_or, or_true, true_or, ↓reduceIte, true_and, and_true, Nat.reduceEqDiff, Nat.reduceAdd, Nat.reduceLeDiff, Nat.reduceLT, dl_i, dl_r, dl_n, dl_u, eq_self, not_true_eq_false, not_false_eq_true, n10, n01, nm0, n0m, imp_t, imp_f]
  obtain ⟨n, hn, rfl⟩ := rng (by decide) hc1
  obtain ⟨w, hw, rfl⟩ := isV_n h0 h9 hc0
  refine ixr_n (by omega) (ixr_n (by omega) ?_)
  refine call0 (c_settles' ?_)
  simp only [ixr_of, run_s, run_0, rM_grade, rok_i, rok_z, bx_cons, bx_nil, eC0, eC1, eC2, eC3, eCS3, eCV0, eCV1, eCV3, eGO, eGR, eIALD, eIAST, jIFeq, jIFne, eLA0, eLI1, eLI2, eLI3, ePI, eRI, eSI3, fM_grade_0, fM_grade_14, fM_grade_18, fM_grade_19, fM_grade_27, fM_grade_37, fM_grade_41, fM_grade_42, fM_grade_50, fM_grade_52, bM_grade_0, bM_grade_14, bM_grade_18, bM_grade_19, bM_grade_27, bM_grade_37, bM_grade_41, bM_grade_42, bM_grade_50, bM_grade_52, ln_mgrade, rg_m_31, ty_m, ty_mgrade, Option.toList_some, Option.toList_none, List.cons_append, List.nil_append, List.length_cons, List.length_nil, List.mem_cons, List.not_mem_nil, or_false, false_or, or_true, true_or, ↓reduceIte, true_and, and_true, Nat.reduceEqDiff, Nat.reduceAdd, Nat.reduceLeDiff, Nat.reduceLT, dl_i, dl_r, dl_n, dl_u, eq_self, not_true_eq_false, not_false_eq_true, n10, n01, nm0, n0m, imp_t, imp_f]
  rw [up_n (by omega)]
  exact h3 w n hw rfl hn rfl
end CM15
