/-! contracts of HerbWatersModel, 21: filters as a game -/
def hbS (r : Nat → Int32) (v : Nat) : Int32 := smI (fun w => r (9 + 27 * v + 9 * 0 + w)) 9 + smI (fun w => r (9 + 27 * v + 9 * 1 + w)) 9 + smI (fun w => r (9 + 27 * v + 9 * 2 + w)) 9
def lsF (I : Iv) (nV nC v n : Nat) (c : Int32) : Nat → Int32
  | 0 => c * I 500123 v * nI n
  | k + 1 => lsF I nV nC v n c k + hbS (gR I nV nC (pmN I) (I 500124) (k + 1)) v
/-- with the grade of v another one -/
def gI (I : Iv) (v g : Nat) : Iv := up I 500123 v (nI g)
/-- the best grade of the first k, and its loss -/
def wsN (I : Iv) (nV nC v n : Nat) (c : Int32) : Nat → Nat × Int32
  | 0 => (0, nI 0)
  | k + 1 => if 0 < k ∧ ¬ lsF (gI I v k) nV nC v n c n < (wsN I nV nC v n c k).2 then wsN I nV nC v n c k else (k, lsF (gI I v k) nV nC v n c n)
theorem wsN_le {I : Iv} {nV nC v n : Nat} {c : Int32} : ∀ k, k ≤ 4 → (wsN I nV nC v n c k).1 ≤ 3
  | 0, _ => Nat.zero_le 3
  | k + 1, hk => by
    unfold wsN
    split
    · exact wsN_le k (by omega)
    · show k ≤ 3; omega
/-- what stays, and the rows of the game too -/
def MG (I J : Iv) : Prop := MP I J ∧ ∀ i, 500335 ≤ i → J i = I i
theorem MG.rf {I : Iv} : MG I I := ⟨MP.rf, fun _ _ => rfl⟩
theorem MG.tr {I J K : Iv} (h : MG I J) (h2 : MG J K) : MG I K := ⟨h.1.tr h2.1, fun i hi => (h2.2 i hi).trans (h.2 i hi)⟩
theorem MG.fl {I : Iv} {j : Nat} {x : Int32} (h : scF j) : MG I (up I 500000 j x) := ⟨MP.fl h, fun i hi => by funext q; exact up_n (by omega)⟩
theorem MG.fr {I J : Iv} (h : Fr 500126 I J) : MG I J := ⟨MP.fr h, fun i hi => h.1 i (by omega) (by omega) (by omega) (by omega) (by omega) (by omega)⟩
/-- MP and MG where the grades are others, the same on both sides -/
theorem MP.g {I J : Iv} {v : Nat} {x : Int32} (h : MP I J) : MP (up I 500123 v x) (up J 500123 v x) := by
  refine ⟨fun i a b => ?_, fun j b => ?_⟩
  · funext q
    by_cases e : i = 500123 ∧ q = v
    · obtain ⟨rfl, rfl⟩ := e; rw [up_s, up_s]
    · rw [up_n e, up_n e, h.1 i a b]
  · rw [up_n (by omega), up_n (by omega), h.2 j b]
theorem MG.g {I J : Iv} {v : Nat} {x : Int32} (h : MG I J) : MG (up I 500123 v x) (up J 500123 v x) := ⟨h.1.g, fun i hi => by funext q; rw [up_n (by omega), up_n (by omega), h.2 i hi]⟩
section CM22
variable {Γ : Gm} {l : Launch} {d : Nat} {I : Iv} {E : Ev} {kr : Kr} {kx : Kxx}
theorem c_lossBy {v n nV nC : Nat} {c : Int32} (hn : n ≤ 30) (hV : VS I nV nC) (hv : v < nV)
    (h : ∀ J, MG I J → J 500000 0 = I 500000 0 → kr (some (.int (lsF I nV nC v n c n))) J E) : Ex Γ l shN (d + 7) (0, 0) mM_lossBy [.ref 500000, .int (nI v), .int (nI n), .int c] I E kr kx := by
  have hV0 := hV
  obtain ⟨hT0, h9, _, hC, _⟩ := hV0
  have hv9 : v < 9 := by omega
  refine ex_of (ls0 := [some (.ref 500000), some (.int (nI v)), some (.int (nI n)), some (.int c), none, none]) tM_lossBy (by decide +kernel) kM_lossBy rfl (Nat.le_of_ble_eq_true rfl) rfl ?_
  intro go hgo
  have loop : ∀ (g k : Nat) (J : Iv), g + k = n → MG I J → J 500000 0 = I 500000 0 → Pe nV (pmI J) (pmN I) → J 500126 = gR I nV nC (pmN I) (I 500124) k → go 30 [some (.ref 500000), some (.int (nI v)), some (.int (nI n)), some (.int c), some (.int (lsF I nV nC v n c k)), some (.int (nI k))] [] J E (0, 0) := by
    intro g
    induction g with
    | zero =>
      intro k J hk hM hz hP hr
      have : k = n := by omega
      subst this
      refine hgo 20 [30] 30 _ _ _ _ _ ?_
      simp only [ixr_of, run_s, run_0, rM_lossBy, rok_i, rok_z, bx_cons, bx_nil, eADD, eC0, eC1, eC2, eC3, eCS2, eCS3, eCV0, eCV1, eGO, eGR, eIALD, jICge, eINC5, eLA0, eLI1, eLI2, eLI3, eLI4, eLI5, eMUL, eRI, eSI4, eSI5, fM_lossBy_0, fM_lossBy_30, fM_lossBy_36, fM_lossBy_84, bM_lossBy_0, bM_lossBy_30, bM_lossBy_36, bM_lossBy_84, ln_mgrade, ln_mnow, ln_mtrial, rg_m_31, rg_m_32, rg_m_34, ty_m, ty_mgrade, ty_mnow, ty_mtrial, Option.toList_some, Option.toList_none, List.cons_append, List.nil_append, List.length_cons, List.length_nil, List.mem_cons, List.not_mem_nil, or_false, false_or, or_true, true_or, ↓reduceIte, true_and, and_true, Nat.reduceEqDiff, Nat.reduceAdd, Nat.reduceLeDiff, Nat.reduceLT, dl_i, dl_r, dl_n, dl_u, eq_self, not_true_eq_false, not_false_eq_true, n10, n01, nm0, n0m, imp_t, imp_f]
      exact ⟨fun _ => h J hM hz, fun q => absurd (Int32.le_refl _) q⟩
    | succ g ih =>
      intro k J hk hM hz hP hr
      refine hgo 20 [30] 30 _ _ _ _ _ ?_
      simp only [ixr_of, run_s, run_0, rM_lossBy, rok_i, rok_z, bx_cons, bx_nil, eADD, eC0, eC1, eC2, eC3, eCS2, eCS3, eCV0, eCV1, eGO, eGR, eIALD, jICge, eINC5, eLA0, eLI1, eLI2, eLI3, eLI4, eLI5, eMUL, eRI, eSI4, eSI5, fM_lossBy_0, fM_lossBy_30, fM_lossBy_36, fM_lossBy_84, bM_lossBy_0, bM_lossBy_30, bM_lossBy_36, bM_lossBy_84, ln_mgrade, ln_mnow, ln_mtrial, rg_m_31, rg_m_32, rg_m_34, ty_m, ty_mgrade, ty_mnow, ty_mtrial, Option.toList_some, Option.toList_none, List.cons_append, List.nil_append, List.length_cons, List.length_nil, List.mem_cons, List.not_mem_nil, or_false, false_or, or_true, true_or, ↓reduceIte, true_and, and_true, Nat.reduceEqDiff, Nat.reduceAdd, Nat.reduceLeDiff, Nat.reduceLT, dl_i, dl_r, dl_n, dl_u, eq_self, not_true_eq_false, not_false_eq_true, n10, n01, nm0, n0m, imp_t, imp_f]
      rw [nI_leI (by omega) (by omega)]
      refine ⟨fun q => absurd q (by omega), fun _ => ?_⟩
      refine call0 (c_stepT (hV.t hM.1.t) hP ?_)
      intro K hf hK
      have hK1 : K 500126 = gR I nV nC (pmN I) (I 500124) (k + 1) := gR_step h9 hC rfl hM.1.t hK hr
      simp only [ixr_of, run_s, run_0, rM_lossBy, rok_i, rok_z, bx_cons, bx_nil, eADD, eC0, eC1, eC2, eC3, eCS2, eCS3, eCV0, eCV1, eGO, eGR, eIALD, jICge, eINC5, eLA0, eLI1, eLI2, eLI3, eLI4, eLI5, eMUL, eRI, eSI4, eSI5, fM_lossBy_0, fM_lossBy_30, fM_lossBy_36, fM_lossBy_84, bM_lossBy_0, bM_lossBy_30, bM_lossBy_36, bM_lossBy_84, ln_mgrade, ln_mnow, ln_mtrial, rg_m_31, rg_m_32, rg_m_34, ty_m, ty_mgrade, ty_mnow, ty_mtrial, Option.toList_some, Option.toList_none, List.cons_append, List.nil_append, List.length_cons, List.length_nil, List.mem_cons, List.not_mem_nil, or_false, false_or, or_true, true_or, ↓reduceIte, true_and, and_true, Nat.reduceEqDiff, Nat.reduceAdd, Nat.reduceLeDiff, Nat.reduceLT, dl_i, dl_r, dl_n, dl_u, eq_self, not_true_eq_false, not_false_eq_true, n10, n01, nm0, n0m, imp_t, imp_f]
      refine call0 (c_basin ty_mtrial (by rw [ln_mtrial]; decide) (by omega) (by omega) ?_)
      simp only [ixr_of, run_s, run_0, rM_lossBy, rok_i, rok_z, bx_cons, bx_nil, eADD, eC0, eC1, eC2, eC3, eCS2, eCS3, eCV0, eCV1, eGO, eGR, eIALD, jICge, eINC5, eLA0, eLI1, eLI2, eLI3, eLI4, eLI5, eMUL, eRI, eSI4, eSI5, fM_lossBy_0, fM_lossBy_30, fM_lossBy_36, fM_lossBy_84, bM_lossBy_0, bM_lossBy_30, bM_lossBy_36, bM_lossBy_84, ln_mgrade, ln_mnow, ln_mtrial, rg_m_31, rg_m_32, rg_m_34, ty_m, ty_mgrade, ty_mnow, ty_mtrial, Option.toList_some, Option.toList_none, List.cons_append, List.nil_append, List.length_cons, List.length_nil, List.mem_cons, List.not_mem_nil, or_false, false_or, or_true, true_or, ↓reduceIte, true_and, and_true, Nat.reduceEqDiff, Nat.reduceAdd, Nat.reduceLeDiff, Nat.reduceLT, dl_i, dl_r, dl_n, dl_u, eq_self, not_true_eq_false, not_false_eq_true, n10, n01, nm0, n0m, imp_t, imp_f]
      refine call0 (c_basin ty_mtrial (by rw [ln_mtrial]; decide) (by omega) (by omega) ?_)
      simp only [ixr_of, run_s, run_0, rM_lossBy, rok_i, rok_z, bx_cons, bx_nil, eADD, eC0, eC1, eC2, eC3, eCS2, eCS3, eCV0, eCV1, eGO, eGR, eIALD, jICge, eINC5, eLA0, eLI1, eLI2, eLI3, eLI4, eLI5, eMUL, eRI, eSI4, eSI5, fM_lossBy_0, fM_lossBy_30, fM_lossBy_36, fM_lossBy_84, bM_lossBy_0, bM_lossBy_30, bM_lossBy_36, bM_lossBy_84, ln_mgrade, ln_mnow, ln_mtrial, rg_m_31, rg_m_32, rg_m_34, ty_m, ty_mgrade, ty_mnow, ty_mtrial, Option.toList_some, Option.toList_none, List.cons_append, List.nil_append, List.length_cons, List.length_nil, List.mem_cons, List.not_mem_nil, or_false, false_or, or_true, true_or, ↓reduceIte, true_and, and_true, Nat.reduceEqDiff, Nat.reduceAdd, Nat.reduceLeDiff, Nat.reduceLT, dl_i, dl_r, dl_n, dl_u, eq_self, not_true_eq_false, not_false_eq_true, n10, n01, nm0, n0m, imp_t, imp_f]
      refine call0 (c_basin ty_mtrial (by rw [ln_mtrial]; decide) (by omega) (by omega) ?_)
      simp only [ixr_of, run_s, run_0, rM_lossBy, rok_i, rok_z, bx_cons, bx_nil, eADD, eC0, eC1, eC2, eC3, eCS2, eCS3, eCV0, eCV1, eGO, eGR, eIALD, jICge, eINC5, eLA0, eLI1, eLI2, eLI3, eLI4, eLI5, eMUL, eRI, eSI4, eSI5, fM_lossBy_0, fM_lossBy_30, fM_lossBy_36, fM_lossBy_84, bM_lossBy_0, bM_lossBy_30, bM_lossBy_36, bM_lossBy_84, ln_mgrade, ln_mnow, ln_mtrial, rg_m_31, rg_m_32, rg_m_34, ty_m, ty_mgrade, ty_mnow, ty_mtrial, Option.toList_some, Option.toList_none, List.cons_append, List.nil_append, List.length_cons, List.length_nil, List.mem_cons, List.not_mem_nil, or_false, false_or, or_true, true_or, ↓reduceIte, true_and, and_true, Nat.reduceEqDiff, Nat.reduceAdd, Nat.reduceLeDiff, Nat.reduceLT, dl_i, dl_r, dl_n, dl_u, eq_self, not_true_eq_false, not_false_eq_true, n10, n01, nm0, n0m, nI_add, imp_t, imp_f]
      rw [hK1]
      exact ih (k + 1) K (by omega) (hM.tr (MG.fr hf)) (by rw [hf.2 _ (by decide), hz]) ((pm_say h9 (hf.say (Or.inr rfl))).tr hP) hK1
  refine hgo 20 [30] 0 _ _ _ _ _ ?_
  simp only [ixr_of, run_s, run_0, rM_lossBy, rok_i, rok_z, bx_cons, bx_nil, eADD, eC0, eC1, eC2, eC3, eCS2, eCS3, eCV0, eCV1, eGO, eGR, eIALD, jICge, eINC5, eLA0, eLI1, eLI2, eLI3, eLI4, eLI5, eMUL, eRI, eSI4, eSI5, fM_lossBy_0, fM_lossBy_30, fM_lossBy_36, fM_lossBy_84, bM_lossBy_0, bM_lossBy_30, bM_lossBy_36, bM_lossBy_84, ln_mgrade, ln_mnow, ln_mtrial, rg_m_31, rg_m_32, rg_m_34, ty_m, ty_mgrade, ty_mnow, ty_mtrial, Option.toList_some, Option.toList_none, List.cons_append, List.nil_append, List.length_cons, List.length_nil, List.mem_cons, List.not_mem_nil, or_false, false_or, or_true, true_or, ↓reduceIte, true_and, and_true, Nat.reduceEqDiff, Nat.reduceAdd, Nat.reduceLeDiff, Nat.reduceLT, dl_i, dl_r, dl_n, dl_u, eq_self, not_true_eq_false, not_false_eq_true, n10, n01, nm0, n0m, imp_t, imp_f]
  refine call0 (c_asN ?_)
  simp only [ixr_of, run_s, run_0, rM_lossBy, rok_i, rok_z, bx_cons, bx_nil, eADD, eC0, eC1, eC2, eC3, eCS2, eCS3, eCV0, eCV1, eGO, eGR, eIALD, jICge, eINC5, eLA0, eLI1, eLI2, eLI3, eLI4, eLI5, eMUL, eRI, eSI4, eSI5, fM_lossBy_0, fM_lossBy_30, fM_lossBy_36, fM_lossBy_84, bM_lossBy_0, bM_lossBy_30, bM_lossBy_36, bM_lossBy_84, ln_mgrade, ln_mnow, ln_mtrial, rg_m_31, rg_m_32, rg_m_34, ty_m, ty_mgrade, ty_mnow, ty_mtrial, Option.toList_some, Option.toList_none, List.cons_append, List.nil_append, List.length_cons, List.length_nil, List.mem_cons, List.not_mem_nil, or_false, false_or, or_true, true_or, ↓reduceIte, true_and, and_true, Nat.reduceEqDiff, Nat.reduceAdd, Nat.reduceLeDiff, Nat.reduceLT, dl_i, dl_r, dl_n, dl_u, eq_self, not_true_eq_false, not_false_eq_true, n10, n01, nm0, n0m, imp_t, imp_f]
  refine call0 (c_copies' ty_mnow (by rw [ln_mnow]; decide) ty_mtrial ln_mtrial (by decide) ?_)
  simp only [ixr_of, run_s, run_0, rM_lossBy, rok_i, rok_z, bx_cons, bx_nil, eADD, eC0, eC1, eC2, eC3, eCS2, eCS3, eCV0, eCV1, eGO, eGR, eIALD, jICge, eINC5, eLA0, eLI1, eLI2, eLI3, eLI4, eLI5, eMUL, eRI, eSI4, eSI5, fM_lossBy_0, fM_lossBy_30, fM_lossBy_36, fM_lossBy_84, bM_lossBy_0, bM_lossBy_30, bM_lossBy_36, bM_lossBy_84, ln_mgrade, ln_mnow, ln_mtrial, rg_m_31, rg_m_32, rg_m_34, ty_m, ty_mgrade, ty_mnow, ty_mtrial, Option.toList_some, Option.toList_none, List.cons_append, List.nil_append, List.length_cons, List.length_nil, List.mem_cons, List.not_mem_nil, or_false, false_or, or_true, true_or, ↓reduceIte, true_and, and_true, Nat.reduceEqDiff, Nat.reduceAdd, Nat.reduceLeDiff, Nat.reduceLT, dl_i, dl_r, dl_n, dl_u, eq_self, not_true_eq_false, not_false_eq_true, n10, n01, nm0, n0m, hv9, imp_t, imp_f]
  have hMA : MP I (asN I) := MP.as
  have hM0 : MP I (sr (asN I) 500126 (asN I 500124)) := hMA.tr (MP.row (by unfold scA; omega) (by decide))
  have hsay : Say (asN I) (sr (asN I) 500126 (asN I 500124)) := ⟨fun i hi => sr_n (by omega), fun j hj => by rw [sr_n (by decide)]⟩
  rw [hM0.1 500123 (by decide) (by unfold scA; omega)]
  refine loop n 0 _ (by omega) ⟨hM0, fun i hi => by rw [sr_n (by omega), asN_r (by omega)]⟩ (by rw [sr_n (by decide), asN_n (Or.inr (by decide))]) ((pm_say h9 hsay).tr (pm_as h9)) ?_
  rw [sr_s, hMA.1 500124 (by decide) (by unfold scA; omega)]
  rfl
theorem lsF_mp {J : Iv} {nV nC v n : Nat} {c : Int32} (h9 : nV ≤ 9) (hC : nC ≤ 20) (hM : MP I J) : ∀ k, lsF J nV nC v n c k = lsF I nV nC v n c k
  | 0 => by
    unfold lsF
    rw [hM.1 500123 (by decide) (by unfold scA; omega)]
  | k + 1 => by
    unfold lsF
    rw [lsF_mp h9 hC hM k, gR_t hM.t h9 hC, gR_pe (hM.pm h9), hM.1 500124 (by decide) (by unfold scA; omega)]
theorem wsN_mp {J : Iv} {nV nC v n : Nat} {c : Int32} (h9 : nV ≤ 9) (hC : nC ≤ 20) (hM : MP I J) : ∀ k, wsN J nV nC v n c k = wsN I nV nC v n c k
  | 0 => rfl
  | k + 1 => by
    unfold wsN
    rw [wsN_mp h9 hC hM k, lsF_mp (J := gI J v k) (I := gI I v k) h9 hC (hM.g (v := v) (x := nI k)) n]
theorem c_wishOf {v n nV nC : Nat} {c : Int32} (hn : n ≤ 30) (hV : VS I nV nC) (hv : v < nV)
    (h : ∀ J, MG I J → J 500000 0 = I 500000 0 → kr (some (.int (nI (wsN I nV nC v n c 4).1))) J E) : Ex Γ l shN (d + 8) (0, 0) mM_wishOf [.ref 500000, .int (nI v), .int (nI n), .int c] I E kr kx := by
  have hV0 := hV
  obtain ⟨hT0, h9, _, hC, _⟩ := hV0
  have hv9 : v < 9 := by omega
  refine ex_of (ls0 := [some (.ref 500000), some (.int (nI v)), some (.int (nI n)), some (.int c), none, none, none, none, none]) tM_wishOf (by decide +kernel) kM_wishOf rfl (Nat.le_of_ble_eq_true rfl) rfl ?_
  intro go hgo
  have loop : ∀ (g k : Nat) (J : Iv) (x : Int32) (t : Option Value), g + k = 4 → MG (up I 500123 v x) J → J 500000 0 = I 500000 0 → go 17 [some (.ref 500000), some (.int (nI v)), some (.int (nI n)), some (.int c), some (.int (I 500123 v)), some (.int (nI (wsN I nV nC v n c k).1)), some (.int (wsN I nV nC v n c k).2), some (.int (nI k)), t] [] J E (0, 0) := by
    intro g
    induction g with
    | zero =>
      intro k J x t hk hM hz
      have : k = 4 := by omega
      subst this
      refine hgo 20 [17] 17 _ _ _ _ _ ?_
      simp only [ixr_of, run_s, run_0, rM_wishOf, rok_i, rok_z, bx_cons, bx_nil, eC0, eC4, eCV3, eGO, eGR, eIALD, eIAST, jICge, jIClt, jIFle, eINC7, eLA0, eLI1, eLI2, eLI3, eLI4, eLI5, eLI6, eLI7, eLI8, eRI, eSI4, eSI5, eSI6, eSI7, eSI8, fM_wishOf_0, fM_wishOf_17, fM_wishOf_23, fM_wishOf_45, fM_wishOf_52, fM_wishOf_55, fM_wishOf_63, fM_wishOf_69, bM_wishOf_0, bM_wishOf_17, bM_wishOf_23, bM_wishOf_45, bM_wishOf_52, bM_wishOf_55, bM_wishOf_63, bM_wishOf_69, ln_mgrade, rg_m_31, ty_m, ty_mgrade, Option.toList_some, Option.toList_none, List.cons_append, List.nil_append, List.length_cons, List.length_nil, List.mem_cons, List.not_mem_nil, or_false, false_or, or_true, true_or, ↓reduceIte, true_and, and_true, Nat.reduceEqDiff, Nat.reduceAdd, Nat.reduceLeDiff, Nat.reduceLT, dl_i, dl_r, dl_n, dl_u, eq_self, not_true_eq_false, not_false_eq_true, n10, n01, nm0, n0m, nIl, hv9, imp_t, imp_f]
      refine h _ ?_ (by rw [up_n (by omega), hz])
      have := hM.g (v := v) (x := I 500123 v)
      rw [up_up, up_self rfl] at this
      exact this
    | succ g ih =>
      intro k J x t hk hM hz
      refine hgo 20 [17] 17 _ _ _ _ _ ?_
      simp only [ixr_of, run_s, run_0, rM_wishOf, rok_i, rok_z, bx_cons, bx_nil, eC0, eC4, eCV3, eGO, eGR, eIALD, eIAST, jICge, jIClt, jIFle, eINC7, eLA0, eLI1, eLI2, eLI3, eLI4, eLI5, eLI6, eLI7, eLI8, eRI, eSI4, eSI5, eSI6, eSI7, eSI8, fM_wishOf_0, fM_wishOf_17, fM_wishOf_23, fM_wishOf_45, fM_wishOf_52, fM_wishOf_55, fM_wishOf_63, fM_wishOf_69, bM_wishOf_0, bM_wishOf_17, bM_wishOf_23, bM_wishOf_45, bM_wishOf_52, bM_wishOf_55, bM_wishOf_63, bM_wishOf_69, ln_mgrade, rg_m_31, ty_m, ty_mgrade, Option.toList_some, Option.toList_none, List.cons_append, List.nil_append, List.length_cons, List.length_nil, List.mem_cons, List.not_mem_nil, or_false, false_or, or_true, true_or, ↓reduceIte, true_and, and_true, Nat.reduceEqDiff, Nat.reduceAdd, Nat.reduceLeDiff, Nat.reduceLT, dl_i, dl_r, dl_n, dl_u, eq_self, not_true_eq_false, not_false_eq_true, n10, n01, nm0, n0m, hv9, imp_t, imp_f]
      rw [nI_leI (by omega) (by omega)]
      refine ⟨fun q => absurd q (by omega), fun _ => ?_⟩
      have hMg : MG (gI I v k) (up J 500123 v (nI k)) := by
        have := hM.g (v := v) (x := nI k)
        rw [up_up] at this
        exact this
      have hTg : SayT I (gI I v k) := fun i hi => by unfold gI; funext q; exact up_n (by unfold tw at hi; omega)
      refine call0 (c_lossBy hn ((hV.t hTg).t hMg.1.t) hv ?_)
      intro K hK hKz
      rw [lsF_mp h9 hC hMg.1]
      have ih' := ih (k + 1) K (nI k) (some (.int (lsF (gI I v k) nV nC v n c n))) (by omega) (hMg.tr hK) (by rw [hKz, up_n (by omega), hz])
      unfold wsN at ih'
      simp only [ixr_of, run_s, run_0, rM_wishOf, rok_i, rok_z, bx_cons, bx_nil, eC0, eC4, eCV3, eGO, eGR, eIALD, eIAST, jICge, jIClt, jIFle, eINC7, eLA0, eLI1, eLI2, eLI3, eLI4, eLI5, eLI6, eLI7, eLI8, eRI, eSI4, eSI5, eSI6, eSI7, eSI8, fM_wishOf_0, fM_wishOf_17, fM_wishOf_23, fM_wishOf_45, fM_wishOf_52, fM_wishOf_55, fM_wishOf_63, fM_wishOf_69, bM_wishOf_0, bM_wishOf_17, bM_wishOf_23, bM_wishOf_45, bM_wishOf_52, bM_wishOf_55, bM_wishOf_63, bM_wishOf_69, ln_mgrade, rg_m_31, ty_m, ty_mgrade, Option.toList_some, Option.toList_none, List.cons_append, List.nil_append, List.length_cons, List.length_nil, List.mem_cons, List.not_mem_nil, or_false, false_or, or_true, true_or, ↓reduceIte, true_and, and_true, Nat.reduceEqDiff, Nat.reduceAdd, Nat.reduceLeDiff, Nat.reduceLT, dl_i, dl_r, dl_n, dl_u, eq_self, not_true_eq_false, not_false_eq_true, n10, n01, nm0, n0m, nI_add, imp_t, imp_f]
      rw [nI_leI (by omega) (by omega)]
      refine ⟨fun q => ?_, fun q => ⟨fun q2 => ?_, fun q2 => ?_⟩⟩
      · simp only [if_neg (show ¬ (0 < k ∧ ¬ lsF (gI I v k) nV nC v n c n < (wsN I nV nC v n c k).2) from fun c => absurd c.1 (by omega))] at ih'
        exact ih'
      · simp only [if_neg (show ¬ (0 < k ∧ ¬ lsF (gI I v k) nV nC v n c n < (wsN I nV nC v n c k).2) from fun c => c.2 q2)] at ih'
        exact ih'
      · simp only [if_pos (show (0 < k ∧ ¬ lsF (gI I v k) nV nC v n c n < (wsN I nV nC v n c k).2) from ⟨by omega, q2⟩)] at ih'
        exact ih'
  refine hgo 20 [17] 0 _ _ _ _ _ ?_
  simp only [ixr_of, run_s, run_0, rM_wishOf, rok_i, rok_z, bx_cons, bx_nil, eC0, eC4, eCV3, eGO, eGR, eIALD, eIAST, jICge, jIClt, jIFle, eINC7, eLA0, eLI1, eLI2, eLI3, eLI4, eLI5, eLI6, eLI7, eLI8, eRI, eSI4, eSI5, eSI6, eSI7, eSI8, fM_wishOf_0, fM_wishOf_17, fM_wishOf_23, fM_wishOf_45, fM_wishOf_52, fM_wishOf_55, fM_wishOf_63, fM_wishOf_69, bM_wishOf_0, bM_wishOf_17, bM_wishOf_23, bM_wishOf_45, bM_wishOf_52, bM_wishOf_55, bM_wishOf_63, bM_wishOf_69, ln_mgrade, rg_m_31, ty_m, ty_mgrade, Option.toList_some, Option.toList_none, List.cons_append, List.nil_append, List.length_cons, List.length_nil, List.mem_cons, List.not_mem_nil, or_false, false_or, or_true, true_or, ↓reduceIte, true_and, and_true, Nat.reduceEqDiff, Nat.reduceAdd, Nat.reduceLeDiff, Nat.reduceLT, dl_i, dl_r, dl_n, dl_u, eq_self, not_true_eq_false, not_false_eq_true, n10, n01, nm0, n0m, hv9, imp_t, imp_f]
  refine loop 4 0 I (I 500123 v) _ (by omega) ?_ rfl
  rw [up_self rfl]
  exact MG.rf
theorem c_loss {v y c z : Int32} {nV nC : Nat} (hV : VS I nV nC) (h1 : ¬ (nI 0 ≤ v ∧ v ≤ I 500004 0 - nI 1) → kr (some (.int (nI 0))) (ref1 (up I 500000 0 (nI 0)) (nI 1) 0) E)
    (h2 : (nI 0 ≤ v ∧ v ≤ I 500004 0 - nI 1) → ¬ ((nI 1 ≤ y ∧ y ≤ nI 30) ∧ (nI 0 ≤ c ∧ c ≤ nI 99) ∧ (nI 0 ≤ z ∧ z ≤ nI 1)) → kr (some (.int (nI 0))) (ref1 (up I 500000 0 (nI 0)) (nI 2) 1) E)
    (h3 : ∀ w n c' u, w < nV → v = nI w → 1 ≤ n → n ≤ 30 → y = nI n → c' ≤ 99 → c = nI c' → u ≤ 1 → z = nI u → ∀ J, MP I J → J 500000 0 = nI 0 → kr (some (.int (if u = 0 then lsF I nV nC w n c n else nI (wsN I nV nC w n c 4).1))) J E) : Ex Γ l shN (d + 9) (0, 0) mM_loss [.ref 500000, .int v, .int y, .int c, .int z] I E kr kx := by
  have hV0 := hV
  obtain ⟨hT0, h9, _, hC, _⟩ := hV0
  refine ex_of (ls0 := [some (.ref 500000), some (.int v), some (.int y), some (.int c), some (.int z)]) tM_loss (by decide +kernel) kM_loss rfl (Nat.le_of_ble_eq_true rfl) rfl ?_
  intro go hgo
  refine hgo 20 [] 0 _ _ _ _ _ ?_
  simp only [ixr_of, run_s, run_0, rM_loss, rok_i, rok_z, bx_cons, bx_nil, eBP, eC0, eC1, eC2, eCS3, eCV1, eCV3, eGO, jIFeq, jIFne, eLA0, eLI1, eLI2, eLI3, eLI4, ePI, eRI, fM_loss_0, fM_loss_14, fM_loss_18, fM_loss_19, fM_loss_27, fM_loss_38, fM_loss_48, fM_loss_58, fM_loss_62, fM_loss_63, fM_loss_71, fM_loss_73, fM_loss_78, fM_loss_88, fM_loss_95, bM_loss_0, bM_loss_14, bM_loss_18, bM_loss_19, bM_loss_27, bM_loss_38, bM_loss_48, bM_loss_58, bM_loss_62, bM_loss_63, bM_loss_71, bM_loss_73, bM_loss_78, bM_loss_88, bM_loss_95, ty_m, Option.toList_some, Option.toList_none, List.cons_append, List.nil_append, List.length_cons, List.length_nil, List.mem_cons, List.not_mem_nil, or_false, false_or, or_true, true_or, ↓reduceIte, true_and, and_true, Nat.reduceEqDiff, Nat.reduceAdd, Nat.reduceLeDiff, Nat.reduceLT, dl_i, dl_r, dl_n, dl_u, eq_self, not_true_eq_false, not_false_eq_true, n10, n01, nm0, n0m, imp_t, imp_f]
  refine call0 (c_isV ?_)
  simp only [ixr_of, run_s, run_0, rM_loss, rok_i, rok_z, bx_cons, bx_nil, eBP, eC0, eC1, eC2, eCS3, eCV1, eCV3, eGO, jIFeq, jIFne, eLA0, eLI1, eLI2, eLI3, eLI4, ePI, eRI, fM_loss_0, fM_loss_14, fM_loss_18, fM_loss_19, fM_loss_27, fM_loss_38, fM_loss_48, fM_loss_58, fM_loss_62, fM_loss_63, fM_loss_71, fM_loss_73, fM_loss_78, fM_loss_88, fM_loss_95, bM_loss_0, bM_loss_14, bM_loss_18, bM_loss_19, bM_loss_27, bM_loss_38, bM_loss_48, bM_loss_58, bM_loss_62, bM_loss_63, bM_loss_71, bM_loss_73, bM_loss_78, bM_loss_88, bM_loss_95, ty_m, Option.toList_some, Option.toList_none, List.cons_append, List.nil_append, List.length_cons, List.length_nil, List.mem_cons, List.not_mem_nil, or_false, false_or, or_true, true_or, ↓reduceIte, true_and, and_true, Nat.reduceEqDiff, Nat.reduceAdd, Nat.reduceLeDiff, Nat.reduceLT, dl_i, dl_r, dl_n, dl_u, eq_self, not_true_eq_false, not_false_eq_true, n10, n01, nm0, n0m, imp_t, imp_f]
  by_cases hc0 : nI 0 ≤ v ∧ v ≤ I 500004 0 - nI 1
  rotate_left
  · rw [bi_f hc0]
    refine ⟨fun q => absurd rfl q, fun _ => ?_⟩
    refine call0 (c_bad0 (by decide) (by decide) up_s (fun q => absurd q n10) (fun _ => ?_))
    simp only [ixr_of, run_s, run_0, rM_loss, rok_i, rok_z, bx_cons, bx_nil, eBP, eC0, eC1, eC2, eCS3, eCV1, eCV3, eGO, jIFeq, jIFne, eLA0, eLI1, eLI2, eLI3, eLI4, ePI, eRI, fM_loss_0, fM_loss_14, fM_loss_18, fM_loss_19, fM_loss_27, fM_loss_38, fM_loss_48, fM_loss_58, fM_loss_62, fM_loss_63, fM_loss_71, fM_loss_73, fM_loss_78, fM_loss_88, fM_loss_95, bM_loss_0, bM_loss_14, bM_loss_18, bM_loss_19, bM_loss_27, bM_loss_38, bM_loss_48, bM_loss_58, bM_loss_62, bM_loss_63, bM_loss_71, bM_loss_73, bM_loss_78, bM_loss_88, bM_loss_95, ty_m, Option.toList_some, Option.toList_none, List.cons_append, List.nil_append, List.length_cons, List.length_nil, List.mem_cons, List.not_mem_nil, or_false, false_or, or_true, true_or, ↓reduceIte, true_and, and_true, Nat.reduceEqDiff, Nat.reduceAdd, Nat.reduceLeDiff, Nat.reduceLT, dl_i, dl_r, dl_n, dl_u, eq_self, not_true_eq_false, not_false_eq_true, n10, n01, nm0, n0m, imp_t, imp_f]
    exact h1  hc0
  rw [bi_t hc0]
  refine ⟨fun _ => ?_, fun q => absurd q n10⟩
  refine call0 (c_bad0 (by decide) (by decide) up_s (fun _ => ?_) (fun q => absurd rfl q))
  simp only [ixr_of, run_s, run_0, rM_loss, rok_i, rok_z, bx_cons, bx_nil, eBP, eC0, eC1, eC2, eCS3, eCV1, eCV3, eGO, jIFeq, jIFne, eLA0, eLI1, eLI2, eLI3, eLI4, ePI, eRI, fM_loss_0, fM_loss_14, fM_loss_18, fM_loss_19, fM_loss_27, fM_loss_38, fM_loss_48, fM_loss_58, fM_loss_62, fM_loss_63, fM_loss_71, fM_loss_73, fM_loss_78, fM_loss_88, fM_loss_95, bM_loss_0, bM_loss_14, bM_loss_18, bM_loss_19, bM_loss_27, bM_loss_38, bM_loss_48, bM_loss_58, bM_loss_62, bM_loss_63, bM_loss_71, bM_loss_73, bM_loss_78, bM_loss_88, bM_loss_95, ty_m, Option.toList_some, Option.toList_none, List.cons_append, List.nil_append, List.length_cons, List.length_nil, List.mem_cons, List.not_mem_nil, or_false, false_or, or_true, true_or, ↓reduceIte, true_and, and_true, Nat.reduceEqDiff, Nat.reduceAdd, Nat.reduceLeDiff, Nat.reduceLT, dl_i, dl_r, dl_n, dl_u, eq_self, not_true_eq_false, not_false_eq_true, n10, n01, nm0, n0m, imp_t, imp_f]
  refine call0 (c_in ?_)
  simp only [ixr_of, run_s, run_0, rM_loss, rok_i, rok_z, bx_cons, bx_nil, eBP, eC0, eC1, eC2, eCS3, eCV1, eCV3, eGO, jIFeq, jIFne, eLA0, eLI1, eLI2, eLI3, eLI4, ePI, eRI, fM_loss_0, fM_loss_14, fM_loss_18, fM_loss_19, fM_loss_27, fM_loss_38, fM_loss_48, fM_loss_58, fM_loss_62, fM_loss_63, fM_loss_71, fM_loss_73, fM_loss_78, fM_loss_88, fM_loss_95, bM_loss_0, bM_loss_14, bM_loss_18, bM_loss_19, bM_loss_27, bM_loss_38, bM_loss_48, bM_loss_58, bM_loss_62, bM_loss_63, bM_loss_71, bM_loss_73, bM_loss_78, bM_loss_88, bM_loss_95, ty_m, Option.toList_some, Option.toList_none, List.cons_append, List.nil_append, List.length_cons, List.length_nil, List.mem_cons, List.not_mem_nil, or_false, false_or, or_true, true_or, ↓reduceIte, true_and, and_true, Nat.reduceEqDiff, Nat.reduceAdd, Nat.reduceLeDiff, Nat.reduceLT, dl_i, dl_r, dl_n, dl_u, eq_self, not_true_eq_false, not_false_eq_true, n10, n01, nm0, n0m, imp_t, imp_f]
  by_cases hc1 : nI 1 ≤ y ∧ y ≤ nI 30
  rotate_left
  · rw [bi_f hc1]
    refine ⟨fun _ => ?_, fun q => absurd rfl q⟩
    refine call0 (c_bad0 (by decide) (by decide) up_s (fun q => absurd q n10) (fun _ => ?_))
    simp only [ixr_of, run_s, run_0, rM_loss, rok_i, rok_z, bx_cons, bx_nil, eBP, eC0, eC1, eC2, eCS3, eCV1, eCV3, eGO, jIFeq, jIFne, eLA0, eLI1, eLI2, eLI3, eLI4, ePI, eRI, fM_loss_0, fM_loss_14, fM_loss_18, fM_loss_19, fM_loss_27, fM_loss_38, fM_loss_48, fM_loss_58, fM_loss_62, fM_loss_63, fM_loss_71, fM_loss_73, fM_loss_78, fM_loss_88, fM_loss_95, bM_loss_0, bM_loss_14, bM_loss_18, bM_loss_19, bM_loss_27, bM_loss_38, bM_loss_48, bM_loss_58, bM_loss_62, bM_loss_63, bM_loss_71, bM_loss_73, bM_loss_78, bM_loss_88, bM_loss_95, ty_m, Option.toList_some, Option.toList_none, List.cons_append, List.nil_append, List.length_cons, List.length_nil, List.mem_cons, List.not_mem_nil, or_false, false_or, or_true, true_or, ↓reduceIte, true_and, and_true, Nat.reduceEqDiff, Nat.reduceAdd, Nat.reduceLeDiff, Nat.reduceLT, dl_i, dl_r, dl_n, dl_u, eq_self, not_true_eq_false, not_false_eq_true, n10, n01, nm0, n0m, imp_t, imp_f]
    exact h2 hc0 (fun q => hc1 q.1)
  rw [bi_t hc1]
  refine ⟨fun q => absurd q n10, fun _ => ?_⟩
  refine call0 (c_in ?_)
  simp only [ixr_of, run_s, run_0, rM_loss, rok_i, rok_z, bx_cons, bx_nil, eBP, eC0, eC1, eC2, eCS3, eCV1, eCV3, eGO, jIFeq, jIFne, eLA0, eLI1, eLI2, eLI3, eLI4, ePI, eRI, fM_loss_0, fM_loss_14, fM_loss_18, fM_loss_19, fM_loss_27, fM_loss_38, fM_loss_48, fM_loss_58, fM_loss_62, fM_loss_63, fM_loss_71, fM_loss_73, fM_loss_78, fM_loss_88, fM_loss_95, bM_loss_0, bM_loss_14, bM_loss_18, bM_loss_19, bM_loss_27, bM_loss_38, bM_loss_48, bM_loss_58, bM_loss_62, bM_loss_63, bM_loss_71, bM_loss_73, bM_loss_78, bM_loss_88, bM_loss_95, ty_m, Option.toList_some, Option.toList_none, List.cons_append, List.nil_append, List.length_cons, List.length_nil, List.mem_cons, List.not_mem_nil, or_false, false_or, or_true, true_or, ↓reduceIte, true_and, and_true, Nat.reduceEqDiff, Nat.reduceAdd, Nat.reduceLeDiff, Nat.reduceLT, dl_i, dl_r, dl_n, dl_u, eq_self, not_true_eq_false, not_false_eq_true, n10, n01, nm0, n0m, imp_t, imp_f]
  by_cases hc2 : nI 0 ≤ c ∧ c ≤ nI 99
  rotate_left
  · rw [bi_f hc2]
    refine ⟨fun _ => ?_, fun q => absurd rfl q⟩
    refine call0 (c_bad0 (by decide) (by decide) up_s (fun q => absurd q n10) (fun _ => ?_))
    simp only [ixr_of, run_s, run_0, rM_loss, rok_i, rok_z, bx_cons, bx_nil, eBP, eC0, eC1, eC2, eCS3, eCV1, eCV3, eGO, jIFeq, jIFne, eLA0, eLI1, eLI2, eLI3, eLI4, ePI, eRI, fM_loss_0, fM_loss_14, fM_loss_18, fM_loss_19, fM_loss_27, fM_loss_38, fM_loss_48, fM_loss_58, fM_loss_62, fM_loss_63, fM_loss_71, fM_loss_73, fM_loss_78, fM_loss_88, fM_loss_95, bM_loss_0, bM_loss_14, bM_loss_18, bM_loss_19, bM_loss_27, bM_loss_38, bM_loss_48, bM_loss_58, bM_loss_62, bM_loss_63, bM_loss_71, bM_loss_73, bM_loss_78, bM_loss_88, bM_loss_95, ty_m, Option.toList_some, Option.toList_none, List.cons_append, List.nil_append, List.length_cons, List.length_nil, List.mem_cons, List.not_mem_nil, or_false, false_or, or_true, true_or, ↓reduceIte, true_and, and_true, Nat.reduceEqDiff, Nat.reduceAdd, Nat.reduceLeDiff, Nat.reduceLT, dl_i, dl_r, dl_n, dl_u, eq_self, not_true_eq_false, not_false_eq_true, n10, n01, nm0, n0m, imp_t, imp_f]
    exact h2 hc0 (fun q => hc2 q.2.1)
  rw [bi_t hc2]
  refine ⟨fun q => absurd q n10, fun _ => ?_⟩
  refine call0 (c_in ?_)
  simp only [ixr_of, run_s, run_0, rM_loss, rok_i, rok_z, bx_cons, bx_nil, eBP, eC0, eC1, eC2, eCS3, eCV1, eCV3, eGO, jIFeq, jIFne, eLA0, eLI1, eLI2, eLI3, eLI4, ePI, eRI, fM_loss_0, fM_loss_14, fM_loss_18, fM_loss_19, fM_loss_27, fM_loss_38, fM_loss_48, fM_loss_58, fM_loss_62, fM_loss_63, fM_loss_71, fM_loss_73, fM_loss_78, fM_loss_88, fM_loss_95, bM_loss_0, bM_loss_14, bM_loss_18, bM_loss_19, bM_loss_27, bM_loss_38, bM_loss_48, bM_loss_58, bM_loss_62, bM_loss_63, bM_loss_71, bM_loss_73, bM_loss_78, bM_loss_88, bM_loss_95, ty_m, Option.toList_some, Option.toList_none, List.cons_append, List.nil_append, List.length_cons, List.length_nil, List.mem_cons, List.not_mem_nil, or_false, false_or, or_true, true_or, ↓reduceIte, true_and, and_true, Nat.reduceEqDiff, Nat.reduceAdd, Nat.reduceLeDiff, Nat.reduceLT, dl_i, dl_r, dl_n, dl_u, eq_self, not_true_eq_false, not_false_eq_true, n10, n01, nm0, n0m, imp_t, imp_f]
  by_cases hc3 : nI 0 ≤ z ∧ z ≤ nI 1
  rotate_left
  · rw [bi_f hc3]
    refine ⟨fun q => absurd rfl q, fun _ => ?_⟩
    refine call0 (c_bad0 (by decide) (by decide) up_s (fun q => absurd q n10) (fun _ => ?_))
    simp only [ixr_of, run_s, run_0, rM_loss, rok_i, rok_z, bx_cons, bx_nil, eBP, eC0, eC1, eC2, eCS3, eCV1, eCV3, eGO, jIFeq, jIFne, eLA0, eLI1, eLI2, eLI3, eLI4, ePI, eRI, fM_loss_0, fM_loss_14, fM_loss_18, fM_loss_19, fM_loss_27, fM_loss_38, fM_loss_48, fM_loss_58, fM_loss_62, fM_loss_63, fM_loss_71, fM_loss_73, fM_loss_78, fM_loss_88, fM_loss_95, bM_loss_0, bM_loss_14, bM_loss_18, bM_loss_19, bM_loss_27, bM_loss_38, bM_loss_48, bM_loss_58, bM_loss_62, bM_loss_63, bM_loss_71, bM_loss_73, bM_loss_78, bM_loss_88, bM_loss_95, ty_m, Option.toList_some, Option.toList_none, List.cons_append, List.nil_append, List.length_cons, List.length_nil, List.mem_cons, List.not_mem_nil, or_false, false_or, or_true, true_or, ↓reduceIte, true_and, and_true, Nat.reduceEqDiff, Nat.reduceAdd, Nat.reduceLeDiff, Nat.reduceLT, dl_i, dl_r, dl_n, dl_u, eq_self, not_true_eq_false, not_false_eq_true, n10, n01, nm0, n0m, imp_t, imp_f]
    exact h2 hc0 (fun q => hc3 q.2.2)
  rw [bi_t hc3]
  refine ⟨fun _ => ?_, fun q => absurd q n10⟩
  refine call0 (c_bad0 (by decide) (by decide) up_s (fun _ => ?_) (fun q => absurd rfl q))
  simp only [ixr_of, run_s, run_0, rM_loss, rok_i, rok_z, bx_cons, bx_nil, eBP, eC0, eC1, eC2, eCS3, eCV1, eCV3, eGO, jIFeq, jIFne, eLA0, eLI1, eLI2, eLI3, eLI4, ePI, eRI, fM_loss_0, fM_loss_14, fM_loss_18, fM_loss_19, fM_loss_27, fM_loss_38, fM_loss_48, fM_loss_58, fM_loss_62, fM_loss_63, fM_loss_71, fM_loss_73, fM_loss_78, fM_loss_88, fM_loss_95, bM_loss_0, bM_loss_14, bM_loss_18, bM_loss_19, bM_loss_27, bM_loss_38, bM_loss_48, bM_loss_58, bM_loss_62, bM_loss_63, bM_loss_71, bM_loss_73, bM_loss_78, bM_loss_88, bM_loss_95, ty_m, Option.toList_some, Option.toList_none, List.cons_append, List.nil_append, List.length_cons, List.length_nil, List.mem_cons, List.not_mem_nil, or_false, false_or, or_true, true_or, ↓reduceIte, true_and, and_true, Nat.reduceEqDiff, Nat.reduceAdd, Nat.reduceLeDiff, Nat.reduceLT, dl_i, dl_r, dl_n, dl_u, eq_self, not_true_eq_false, not_false_eq_true, n10, n01, nm0, n0m, imp_t, imp_f]
  obtain ⟨n, hn1, hn, rfl⟩ := rng1 (by decide) hc1
  obtain ⟨c', hc', hce⟩ := rng (by decide) hc2
  obtain ⟨u, hu, rfl⟩ := rng (by decide) hc3
  obtain ⟨w, hw, rfl⟩ := isV_n hT0 h9 hc0
  have hM : MP I (up I 500000 0 (nI 0)) := MP.fl (by unfold scF; omega)
  have h4 := fun J a b => h3 w n c' u hw rfl hn1 hn rfl hc' hce hu rfl J a b
  rw [nIe (by omega) (by decide)]
  refine ⟨fun q => ?_, fun q => ?_⟩
  · refine call0 (c_wishOf hn (hV.t hM.t) hw ?_)
    intro J hJ hz
    simp only [ixr_of, run_s, run_0, rM_loss, rok_i, rok_z, bx_cons, bx_nil, eBP, eC0, eC1, eC2, eCS3, eCV1, eCV3, eGO, jIFeq, jIFne, eLA0, eLI1, eLI2, eLI3, eLI4, ePI, eRI, fM_loss_0, fM_loss_14, fM_loss_18, fM_loss_19, fM_loss_27, fM_loss_38, fM_loss_48, fM_loss_58, fM_loss_62, fM_loss_63, fM_loss_71, fM_loss_73, fM_loss_78, fM_loss_88, fM_loss_95, bM_loss_0, bM_loss_14, bM_loss_18, bM_loss_19, bM_loss_27, bM_loss_38, bM_loss_48, bM_loss_58, bM_loss_62, bM_loss_63, bM_loss_71, bM_loss_73, bM_loss_78, bM_loss_88, bM_loss_95, ty_m, Option.toList_some, Option.toList_none, List.cons_append, List.nil_append, List.length_cons, List.length_nil, List.mem_cons, List.not_mem_nil, or_false, false_or, or_true, true_or, ↓reduceIte, true_and, and_true, Nat.reduceEqDiff, Nat.reduceAdd, Nat.reduceLeDiff, Nat.reduceLT, dl_i, dl_r, dl_n, dl_u, eq_self, not_true_eq_false, not_false_eq_true, n10, n01, nm0, n0m, imp_t, imp_f]
    have := h4 J (hM.tr hJ.1) (by rw [hz, up_s])
    rw [if_neg q] at this
    rw [wsN_mp h9 hC hM]
    exact this
  · refine call0 (c_lossBy hn (hV.t hM.t) hw ?_)
    intro J hJ hz
    simp only [ixr_of, run_s, run_0, rM_loss, rok_i, rok_z, bx_cons, bx_nil, eBP, eC0, eC1, eC2, eCS3, eCV1, eCV3, eGO, jIFeq, jIFne, eLA0, eLI1, eLI2, eLI3, eLI4, ePI, eRI, fM_loss_0, fM_loss_14, fM_loss_18, fM_loss_19, fM_loss_27, fM_loss_38, fM_loss_48, fM_loss_58, fM_loss_62, fM_loss_63, fM_loss_71, fM_loss_73, fM_loss_78, fM_loss_88, fM_loss_95, bM_loss_0, bM_loss_14, bM_loss_18, bM_loss_19, bM_loss_27, bM_loss_38, bM_loss_48, bM_loss_58, bM_loss_62, bM_loss_63, bM_loss_71, bM_loss_73, bM_loss_78, bM_loss_88, bM_loss_95, ty_m, Option.toList_some, Option.toList_none, List.cons_append, List.nil_append, List.length_cons, List.length_nil, List.mem_cons, List.not_mem_nil, or_false, false_or, or_true, true_or, ↓reduceIte, true_and, and_true, Nat.reduceEqDiff, Nat.reduceAdd, Nat.reduceLeDiff, Nat.reduceLT, dl_i, dl_r, dl_n, dl_u, eq_self, not_true_eq_false, not_false_eq_true, n10, n01, nm0, n0m, imp_t, imp_f]
    have := h4 J (hM.tr hJ.1) (by rw [hz, up_s])
    rw [if_pos q] at this
    rw [lsF_mp h9 hC hM]
    exact this
def eqG (nV : Nat) (A B : Nat → Int32) : Prop := ∀ v, v < nV → A v = B v
theorem c_areGrades {m nV : Nat} (hm : m < 21) (hT0 : I 500004 0 = nI nV) (h9 : nV ≤ 9) (h1 : eqG nV (I 500123) (I (500335 + m)) → kr (some (.int (nI 1))) I E) (h0 : ¬ eqG nV (I 500123) (I (500335 + m)) → kr (some (.int (nI 0))) I E) : Ex Γ l shN (d + 1) (0, 0) mM_areGrades [.ref 500000, .ref (500335 + m)] I E kr kx := by
  refine ex_of (ls0 := [some (.ref 500000), some (.ref (500335 + m)), none]) tM_areGrades (by decide +kernel) kM_areGrades rfl (Nat.le_of_ble_eq_true rfl) rfl ?_
  intro go hgo
  have loop : ∀ (g v : Nat), g + v = nV → (∀ w, w < v → I 500123 w = I (500335 + m) w) → go 2 [some (.ref 500000), some (.ref (500335 + m)), some (.int (nI v))] [] I E (0, 0) := by
    intro g
    induction g with
    | zero =>
      intro v hv hw
      have : v = nV := by omega
      subst this
      refine hgo 20 [2] 2 _ _ _ _ _ ?_
      simp only [ixr_of, run_s, run_0, rM_areGrades, rok_i, rok_z, bx_cons, bx_nil, eC0, eC1, eGO, eGR, eIALD, jICeq, jICge, eINC2, eLA0, eLA1, eLI2, eRI, eSI2, fM_areGrades_0, fM_areGrades_2, fM_areGrades_12, fM_areGrades_24, fM_areGrades_26, fM_areGrades_32, bM_areGrades_0, bM_areGrades_2, bM_areGrades_12, bM_areGrades_24, bM_areGrades_26, bM_areGrades_32, ln_mgrade, ln_mtold, rg_m_12, rg_m_31, ty_m, ty_mgrade, ty_mtold, Option.toList_some, Option.toList_none, List.cons_append, List.nil_append, List.length_cons, List.length_nil, List.mem_cons, List.not_mem_nil, or_false, false_or, or_true, true_or, ↓reduceIte, true_and, and_true, Nat.reduceEqDiff, Nat.reduceAdd, Nat.reduceLeDiff, Nat.reduceLT, dl_i, dl_r, dl_n, dl_u, eq_self, not_true_eq_false, not_false_eq_true, n10, n01, nm0, n0m, hT0, imp_t, imp_f]
      exact ⟨fun _ => h1 hw, fun q => absurd (Int32.le_refl _) q⟩
    | succ g ih =>
      intro v hv hw
      have hv9 : v < 9 := by omega
      refine hgo 20 [2] 2 _ _ _ _ _ ?_
      simp only [ixr_of, run_s, run_0, rM_areGrades, rok_i, rok_z, bx_cons, bx_nil, eC0, eC1, eGO, eGR, eIALD, jICeq, jICge, eINC2, eLA0, eLA1, eLI2, eRI, eSI2, fM_areGrades_0, fM_areGrades_2, fM_areGrades_12, fM_areGrades_24, fM_areGrades_26, fM_areGrades_32, bM_areGrades_0, bM_areGrades_2, bM_areGrades_12, bM_areGrades_24, bM_areGrades_26, bM_areGrades_32, ln_mgrade, ln_mtold, rg_m_12, rg_m_31, ty_m, ty_mgrade, ty_mtold, Option.toList_some, Option.toList_none, List.cons_append, List.nil_append, List.length_cons, List.length_nil, List.mem_cons, List.not_mem_nil, or_false, false_or, or_true, true_or, ↓reduceIte, true_and, and_true, Nat.reduceEqDiff, Nat.reduceAdd, Nat.reduceLeDiff, Nat.reduceLT, dl_i, dl_r, dl_n, dl_u, eq_self, not_true_eq_false, not_false_eq_true, n10, n01, nm0, n0m, hT0, hv9, tr_mgrades hm, lr_mgrades hm, nI_add, imp_t, imp_f]
      rw [nI_leI (by omega) (by omega)]
      refine ⟨fun q => absurd q (by omega), fun _ => ⟨fun q => ih (v + 1) (by omega) (fun w hw' => ?_), fun q => h0 (fun c => q (c v (by omega)))⟩⟩
      by_cases e : w = v
      · subst e; exact q
      · exact hw w (by omega)
  refine hgo 20 [2] 0 _ _ _ _ _ ?_
  simp only [ixr_of, run_s, run_0, rM_areGrades, rok_i, rok_z, bx_cons, bx_nil, eC0, eC1, eGO, eGR, eIALD, jICeq, jICge, eINC2, eLA0, eLA1, eLI2, eRI, eSI2, fM_areGrades_0, fM_areGrades_2, fM_areGrades_12, fM_areGrades_24, fM_areGrades_26, fM_areGrades_32, bM_areGrades_0, bM_areGrades_2, bM_areGrades_12, bM_areGrades_24, bM_areGrades_26, bM_areGrades_32, ln_mgrade, ln_mtold, rg_m_12, rg_m_31, ty_m, ty_mgrade, ty_mtold, Option.toList_some, Option.toList_none, List.cons_append, List.nil_append, List.length_cons, List.length_nil, List.mem_cons, List.not_mem_nil, or_false, false_or, or_true, true_or, ↓reduceIte, true_and, and_true, Nat.reduceEqDiff, Nat.reduceAdd, Nat.reduceLeDiff, Nat.reduceLT, dl_i, dl_r, dl_n, dl_u, eq_self, not_true_eq_false, not_false_eq_true, n10, n01, nm0, n0m, imp_t, imp_f]
  exact loop nV 0 (by omega) (fun w hw => by omega)
end CM22
