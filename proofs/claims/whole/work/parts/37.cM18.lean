/-! contracts of HerbWatersModel, 17: by the book; where to taste -/
theorem gR_step {I J K : Iv} {nV nC k : Nat} {P : Pm} {r : Nat → Int32} (h9 : nV ≤ 9) (hC : nC ≤ 20) (hd : P.2.2.2 = nI 0) (hT : SayT I J) (hr : (K 500126, K 500000 48) = st2 J nV nC P (J 500126, J 500000 48)) (hk : J 500126 = gR I nV nC P r k) : K 500126 = gR I nV nC P r (k + 1) := by
  rw [gR_s hd, ← hk]
  have : K 500126 = (K 500126, K 500000 48).1 := rfl
  rw [this, hr, st2_t hT h9 hC, st2_dry (y := nI 0) hd]
def pmB (I : Iv) (x : Int32) : Pm := (fun _ => true, coS x, sn0 I, nI 0)
def pmA (I : Iv) (a : Nat) : Pm := (fun v => decide (v = a), fun _ => false, sn0 I, nI 0)
/-- the line k of the book is right, x the contrary -/
def lnR (I : Iv) (nV nC : Nat) (x : Int32) (k : Nat) : Prop := vwI (gR I nV nC (pmB I x) (I 500127) (I (500094 + k) 0).toNatClampNeg) = I (500094 + k) 1
def fbN (I : Iv) (x : Int32) : Iv := up (up (up (up (up (up I 500000 41 (nI 0)) 500000 42 x) 500000 49 (nI 0)) 500000 43 (-1)) 500000 46 (-1)) 500000 47 (nI 0)
theorem fb1 (J : Iv) (x : Int32) : fbN J x 500000 41 = nI 0 ∧ fbN J x 500000 42 = x ∧ fbN J x 500000 46 = -1 ∧ fbN J x 500000 49 = nI 0 ∧ fbN J x 500000 43 = -1 ∧ fbN J x 500000 47 = nI 0 ∧ fbN J x 500000 0 = J 500000 0 := by
  unfold fbN
  simp [up]
theorem MP.fb {I : Iv} {x : Int32} : MP I (fbN I x) := by
  unfold fbN
  exact (((((MP.fl (by unfold scF; omega)).tr (MP.fl (by unfold scF; omega))).tr (MP.fl (by unfold scF; omega))).tr (MP.fl (by unfold scF; omega))).tr (MP.fl (by unfold scF; omega))).tr (MP.fl (by unfold scF; omega))
def tsF (r : Nat → Int32) : Nat → Int32
  | 0 => nI 0
  | k + 1 => tsF r k ||| (if nI 0 < smI (fun w => r (9 + 27 * k + 9 * 0 + w)) 9 + smI (fun w => r (9 + 27 * k + 9 * 1 + w)) 9 + smI (fun w => r (9 + 27 * k + 9 * 2 + w)) 9 then nI 1 <<< (nI k &&& 31) else nI 0)
/-- how many sets below k are right, the first, what is in all, what in any -/
def mdF (rt : Nat → Bool) (all : Int32) : Nat → Nat × Int32 × Int32 × Int32
  | 0 => (0, -1, all, nI 0)
  | k + 1 => if rt k = true then ((mdF rt all k).1 + 1, (if (mdF rt all k).1 = 0 then nI k else (mdF rt all k).2.1), (mdF rt all k).2.2.1 &&& nI k, (mdF rt all k).2.2.2 ||| nI k) else mdF rt all k
theorem mdF_le {rt : Nat → Bool} {all : Int32} : ∀ k, (mdF rt all k).1 ≤ k
  | 0 => Nat.le_refl _
  | k + 1 => by
    unfold mdF
    have := mdF_le (rt := rt) (all := all) k
    by_cases e : rt k = true
    · rw [if_pos e]; show (mdF rt all k).1 + 1 ≤ k + 1; omega
    · rw [if_neg e]; omega
def wrF (ap : Nat → Bool) (all : Int32) : Nat → Int32
  | 0 => all
  | k + 1 => if onI (wrF ap all k) < onI (nI k) ∨ (onI (nI k) = onI (wrF ap all k) ∧ ¬ nI k < wrF ap all k) then wrF ap all k else if ap k = true then nI k else wrF ap all k
section CM18
variable {Γ : Gm} {l : Launch} {d : Nat} {I : Iv} {E : Ev} {kr : Kr} {kx : Kxx}
theorem c_fromB {x : Int32} (h : kr none (sr (fbN I x) 500126 (I 500127)) E) : Ex Γ l shN (d + 2) (0, 0) mM_fromBegin [.ref 500000, .int x] I E kr kx := by
  refine ex_eqv (c_fromBegin ⟨_, fun i j hij => ?_, h⟩)
  by_cases e : i = 500126
  · subst e
    rw [ty_mtrial, ln_mtrial] at hij
    rw [sr_s]
    unfold cp
    rw [if_pos ⟨rfl, by omega⟩, up_n (by omega), up_n (by omega), up_n (by omega), up_n (by omega), up_n (by omega), up_n (by omega)]
  · unfold cp sr fbN
    simp [e]
theorem c_rightBy {x : Int32} {nV nC nL : Nat} (hV : VS I nV nC) (hL : I 500000 36 = nI nL) (hL12 : nL ≤ 12) (hbk : ∀ k, k < nL → ∃ e, 1 ≤ e ∧ e ≤ 99 ∧ I (500094 + k) 0 = nI e)
    (h : ∀ n, n ≤ nL → (∀ k, k < n → lnR I nV nC x k) → (n < nL → ¬ lnR I nV nC x n) → ∀ J, MP I J → J 500000 0 = I 500000 0 → kr (some (.int (nI n))) J E) : Ex Γ l shN (d + 7) (0, 0) mM_rightBy [.ref 500000, .int x] I E kr kx := by
  have hV0 := hV
  obtain ⟨hT0, h9, _, hC, _⟩ := hV0
  refine ex_of (ls0 := [some (.ref 500000), some (.int x), none]) tM_rightBy (by decide +kernel) kM_rightBy rfl (Nat.le_of_ble_eq_true rfl) rfl ?_
  intro go hgo
  have fin : ∀ (g k : Nat) (J : Iv) , g + k = nL → MP I J → J 500000 0 = I 500000 0 → (∀ e, 1 ≤ e → e ≤ 99 → J 500130 e = vwI (gR I nV nC (pmB I x) (I 500127) e)) → (∀ i, i < k → lnR I nV nC x i) → go 42 [some (.ref 500000), some (.int x), some (.int (nI k))] [] J E (0, 0) := by
    intro g
    induction g with
    | zero =>
      intro k J hk hM hz hv hr
      have : k = nL := by omega
      subst this
      refine hgo 20 [42] 42 _ _ _ _ _ ?_
      simp only [ixr_of, run_s, run_0, rM_rightBy, rok_i, rok_z, bx_cons, bx_nil, eAALD107, eBP, eC0, eC1, eCS1, eCV1, eGI, eGO, eGR, eIALD, eIAST, jICge, jICne, eINC2, eLA0, eLI1, eLI2, eRI, eSI2, fM_rightBy_0, fM_rightBy_7, fM_rightBy_13, fM_rightBy_40, fM_rightBy_42, fM_rightBy_50, fM_rightBy_74, fM_rightBy_80, bM_rightBy_0, bM_rightBy_7, bM_rightBy_13, bM_rightBy_40, bM_rightBy_42, bM_rightBy_50, bM_rightBy_74, bM_rightBy_80, ln_mbook, ln_mtrial, ln_mviews, rg_m_28, rg_m_34, rg_m_52, ty_m, ty_mbook, ty_mtrial, ty_mviews, Option.toList_some, Option.toList_none, List.cons_append, List.nil_append, List.length_cons, List.length_nil, List.mem_cons, List.not_mem_nil, or_false, false_or, or_true, true_or, ↓reduceIte, true_and, and_true, Nat.reduceEqDiff, Nat.reduceAdd, Nat.reduceLeDiff, Nat.reduceLT, dl_i, dl_r, dl_n, dl_u, eq_self, not_true_eq_false, not_false_eq_true, n10, n01, nm0, n0m, imp_t, imp_f]
      rw [hM.2 _ (by unfold scF; omega), hL]
      exact ⟨fun _ => h k (Nat.le_refl _) hr (fun c => by omega) J hM hz, fun q => absurd (Int32.le_refl _) q⟩
    | succ g ih =>
      intro k J hk hM hz hv hr
      have hk12 : k < 12 := by omega
      obtain ⟨e, he1, he, hbe⟩ := hbk k (by omega)
      have e1 : J (500094 + k) = I (500094 + k) := hM.1 _ (by omega) (by unfold scA; omega)
      refine hgo 20 [42] 42 _ _ _ _ _ ?_
      simp only [ixr_of, run_s, run_0, rM_rightBy, rok_i, rok_z, bx_cons, bx_nil, eAALD107, eBP, eC0, eC1, eCS1, eCV1, eGI, eGO, eGR, eIALD, eIAST, jICge, jICne, eINC2, eLA0, eLI1, eLI2, eRI, eSI2, fM_rightBy_0, fM_rightBy_7, fM_rightBy_13, fM_rightBy_40, fM_rightBy_42, fM_rightBy_50, fM_rightBy_74, fM_rightBy_80, bM_rightBy_0, bM_rightBy_7, bM_rightBy_13, bM_rightBy_40, bM_rightBy_42, bM_rightBy_50, bM_rightBy_74, bM_rightBy_80, ln_mbook, ln_mtrial, ln_mviews, rg_m_28, rg_m_34, rg_m_52, ty_m, ty_mbook, ty_mtrial, ty_mviews, Option.toList_some, Option.toList_none, List.cons_append, List.nil_append, List.length_cons, List.length_nil, List.mem_cons, List.not_mem_nil, or_false, false_or, or_true, true_or, ↓reduceIte, true_and, and_true, Nat.reduceEqDiff, Nat.reduceAdd, Nat.reduceLeDiff, Nat.reduceLT, dl_i, dl_r, dl_n, dl_u, eq_self, not_true_eq_false, not_false_eq_true, n10, n01, nm0, n0m, hk12, rg_mbook hk12, tr_mbook hk12, lr_mbook hk12, e1, nI_add, imp_t, imp_f]
      rw [hM.2 _ (by unfold scF; omega), hL, nI_leI (by omega) (by omega)]
      refine ⟨fun q => absurd q (by omega), fun _ => ?_⟩
      rw [hbe]
      refine ixr_n (by omega) ?_
      rw [hv e he1 he]
      have hl : lnR I nV nC x k ↔ vwI (gR I nV nC (pmB I x) (I 500127) e) = I (500094 + k) 1 := by
        unfold lnR
        rw [hbe, nI_clamp (by omega)]
      refine ⟨fun q => h k (by omega) hr (fun _ c => q (hl.mp c)) J hM hz, fun q => ih (k + 1) J (by omega) hM hz hv (fun i hi => ?_)⟩
      by_cases ei : i = k
      · subst ei; exact hl.mpr q
      · exact hr i (by omega)
  have loop : ∀ (g k : Nat) (J : Iv), g + k = 99 → MP I J → J 500000 0 = I 500000 0 → Pe nV (pmI J) (pmB I x) → J 500126 = gR I nV nC (pmB I x) (I 500127) k → (∀ e, 1 ≤ e → e ≤ k → J 500130 e = vwI (gR I nV nC (pmB I x) (I 500127) e)) → go 7 [some (.ref 500000), some (.int x), some (.int (nI (k + 1)))] [] J E (0, 0) := by
    intro g
    induction g with
    | zero =>
      intro k J hk hM hz hP hr hv
      have : k = 99 := by omega
      subst this
      refine hgo 20 [7, 42] 7 _ _ _ _ _ ?_
      simp only [ixr_of, run_s, run_0, rM_rightBy, rok_i, rok_z, bx_cons, bx_nil, eAALD107, eBP, eC0, eC1, eCS1, eCV1, eGI, eGO, eGR, eIALD, eIAST, jICge, jICne, eINC2, eLA0, eLI1, eLI2, eRI, eSI2, fM_rightBy_0, fM_rightBy_7, fM_rightBy_13, fM_rightBy_40, fM_rightBy_42, fM_rightBy_50, fM_rightBy_74, fM_rightBy_80, bM_rightBy_0, bM_rightBy_7, bM_rightBy_13, bM_rightBy_40, bM_rightBy_42, bM_rightBy_50, bM_rightBy_74, bM_rightBy_80, ln_mbook, ln_mtrial, ln_mviews, rg_m_28, rg_m_34, rg_m_52, ty_m, ty_mbook, ty_mtrial, ty_mviews, Option.toList_some, Option.toList_none, List.cons_append, List.nil_append, List.length_cons, List.length_nil, List.mem_cons, List.not_mem_nil, or_false, false_or, or_true, true_or, ↓reduceIte, true_and, and_true, Nat.reduceEqDiff, Nat.reduceAdd, Nat.reduceLeDiff, Nat.reduceLT, dl_i, dl_r, dl_n, dl_u, eq_self, not_true_eq_false, not_false_eq_true, n10, n01, nm0, n0m, nIl, imp_t, imp_f]
      exact fin nL 0 J (by omega) hM hz hv (fun i hi => by omega)
    | succ g ih =>
      intro k J hk hM hz hP hr hv
      refine hgo 20 [7, 42] 7 _ _ _ _ _ ?_
      simp only [ixr_of, run_s, run_0, rM_rightBy, rok_i, rok_z, bx_cons, bx_nil, eAALD107, eBP, eC0, eC1, eCS1, eCV1, eGI, eGO, eGR, eIALD, eIAST, jICge, jICne, eINC2, eLA0, eLI1, eLI2, eRI, eSI2, fM_rightBy_0, fM_rightBy_7, fM_rightBy_13, fM_rightBy_40, fM_rightBy_42, fM_rightBy_50, fM_rightBy_74, fM_rightBy_80, bM_rightBy_0, bM_rightBy_7, bM_rightBy_13, bM_rightBy_40, bM_rightBy_42, bM_rightBy_50, bM_rightBy_74, bM_rightBy_80, ln_mbook, ln_mtrial, ln_mviews, rg_m_28, rg_m_34, rg_m_52, ty_m, ty_mbook, ty_mtrial, ty_mviews, Option.toList_some, Option.toList_none, List.cons_append, List.nil_append, List.length_cons, List.length_nil, List.mem_cons, List.not_mem_nil, or_false, false_or, or_true, true_or, ↓reduceIte, true_and, and_true, Nat.reduceEqDiff, Nat.reduceAdd, Nat.reduceLeDiff, Nat.reduceLT, dl_i, dl_r, dl_n, dl_u, eq_self, not_true_eq_false, not_false_eq_true, n10, n01, nm0, n0m, imp_t, imp_f]
      rw [nI_leI (by omega) (by omega)]
      refine ⟨fun q => absurd q (by omega), fun _ => ?_⟩
      refine call0 (c_stepT (hV.t hM.t) hP ?_)
      intro K hf hK
      simp only [ixr_of, run_s, run_0, rM_rightBy, rok_i, rok_z, bx_cons, bx_nil, eAALD107, eBP, eC0, eC1, eCS1, eCV1, eGI, eGO, eGR, eIALD, eIAST, jICge, jICne, eINC2, eLA0, eLI1, eLI2, eRI, eSI2, fM_rightBy_0, fM_rightBy_7, fM_rightBy_13, fM_rightBy_40, fM_rightBy_42, fM_rightBy_50, fM_rightBy_74, fM_rightBy_80, bM_rightBy_0, bM_rightBy_7, bM_rightBy_13, bM_rightBy_40, bM_rightBy_42, bM_rightBy_50, bM_rightBy_74, bM_rightBy_80, ln_mbook, ln_mtrial, ln_mviews, rg_m_28, rg_m_34, rg_m_52, ty_m, ty_mbook, ty_mtrial, ty_mviews, Option.toList_some, Option.toList_none, List.cons_append, List.nil_append, List.length_cons, List.length_nil, List.mem_cons, List.not_mem_nil, or_false, false_or, or_true, true_or, ↓reduceIte, true_and, and_true, Nat.reduceEqDiff, Nat.reduceAdd, Nat.reduceLeDiff, Nat.reduceLT, dl_i, dl_r, dl_n, dl_u, eq_self, not_true_eq_false, not_false_eq_true, n10, n01, nm0, n0m, imp_t, imp_f]
      refine call0 (c_viewOf ty_mtrial (by rw [ln_mtrial]; decide) ?_)
      simp only [ixr_of, run_s, run_0, rM_rightBy, rok_i, rok_z, bx_cons, bx_nil, eAALD107, eBP, eC0, eC1, eCS1, eCV1, eGI, eGO, eGR, eIALD, eIAST, jICge, jICne, eINC2, eLA0, eLI1, eLI2, eRI, eSI2, fM_rightBy_0, fM_rightBy_7, fM_rightBy_13, fM_rightBy_40, fM_rightBy_42, fM_rightBy_50, fM_rightBy_74, fM_rightBy_80, bM_rightBy_0, bM_rightBy_7, bM_rightBy_13, bM_rightBy_40, bM_rightBy_42, bM_rightBy_50, bM_rightBy_74, bM_rightBy_80, ln_mbook, ln_mtrial, ln_mviews, rg_m_28, rg_m_34, rg_m_52, ty_m, ty_mbook, ty_mtrial, ty_mviews, Option.toList_some, Option.toList_none, List.cons_append, List.nil_append, List.length_cons, List.length_nil, List.mem_cons, List.not_mem_nil, or_false, false_or, or_true, true_or, ↓reduceIte, true_and, and_true, Nat.reduceEqDiff, Nat.reduceAdd, Nat.reduceLeDiff, Nat.reduceLT, dl_i, dl_r, dl_n, dl_u, eq_self, not_true_eq_false, not_false_eq_true, n10, n01, nm0, n0m, nI_add, imp_t, imp_f]
      refine ixr_n (by omega) ?_
      have hK1 : K 500126 = gR I nV nC (pmB I x) (I 500127) (k + 1) := gR_step h9 hC rfl hM.t hK hr
      have hMK : MP I K := hM.tr (MP.fr hf)
      have hsay : Say K (up K 500130 (k + 1) (vwI (K 500126))) := ⟨fun i hi => by funext q; exact up_n (by omega), fun j hj => up_n (by omega)⟩
      refine ih (k + 1) _ (by omega) (hMK.tr (MP.el (by unfold scA; omega) (by decide))) ?_ ((pm_say h9 hsay).tr ((pm_say h9 (hf.say (Or.inr rfl))).tr hP)) ?_ ?_
      · rw [up_n (by omega), hf.2 _ (by decide), hz]
      · rw [← hK1]; funext q; exact up_n (by omega)
      · intro e e1 e2
        by_cases ee : e = k + 1
        · subst ee; rw [up_s, hK1]
        · rw [up_n (by omega), hf.1 500130 (by decide) (by decide) (by decide) (by decide) (by decide) (by decide)]
          exact hv e e1 (by omega)
  refine hgo 20 [7] 0 _ _ _ _ _ ?_
  simp only [ixr_of, run_s, run_0, rM_rightBy, rok_i, rok_z, bx_cons, bx_nil, eAALD107, eBP, eC0, eC1, eCS1, eCV1, eGI, eGO, eGR, eIALD, eIAST, jICge, jICne, eINC2, eLA0, eLI1, eLI2, eRI, eSI2, fM_rightBy_0, fM_rightBy_7, fM_rightBy_13, fM_rightBy_40, fM_rightBy_42, fM_rightBy_50, fM_rightBy_74, fM_rightBy_80, bM_rightBy_0, bM_rightBy_7, bM_rightBy_13, bM_rightBy_40, bM_rightBy_42, bM_rightBy_50, bM_rightBy_74, bM_rightBy_80, ln_mbook, ln_mtrial, ln_mviews, rg_m_28, rg_m_34, rg_m_52, ty_m, ty_mbook, ty_mtrial, ty_mviews, Option.toList_some, Option.toList_none, List.cons_append, List.nil_append, List.length_cons, List.length_nil, List.mem_cons, List.not_mem_nil, or_false, false_or, or_true, true_or, ↓reduceIte, true_and, and_true, Nat.reduceEqDiff, Nat.reduceAdd, Nat.reduceLeDiff, Nat.reduceLT, dl_i, dl_r, dl_n, dl_u, eq_self, not_true_eq_false, not_false_eq_true, n10, n01, nm0, n0m, imp_t, imp_f]
  refine call0 (c_fromB ?_)
  simp only [ixr_of, run_s, run_0, rM_rightBy, rok_i, rok_z, bx_cons, bx_nil, eAALD107, eBP, eC0, eC1, eCS1, eCV1, eGI, eGO, eGR, eIALD, eIAST, jICge, jICne, eINC2, eLA0, eLI1, eLI2, eRI, eSI2, fM_rightBy_0, fM_rightBy_7, fM_rightBy_13, fM_rightBy_40, fM_rightBy_42, fM_rightBy_50, fM_rightBy_74, fM_rightBy_80, bM_rightBy_0, bM_rightBy_7, bM_rightBy_13, bM_rightBy_40, bM_rightBy_42, bM_rightBy_50, bM_rightBy_74, bM_rightBy_80, ln_mbook, ln_mtrial, ln_mviews, rg_m_28, rg_m_34, rg_m_52, ty_m, ty_mbook, ty_mtrial, ty_mviews, Option.toList_some, Option.toList_none, List.cons_append, List.nil_append, List.length_cons, List.length_nil, List.mem_cons, List.not_mem_nil, or_false, false_or, or_true, true_or, ↓reduceIte, true_and, and_true, Nat.reduceEqDiff, Nat.reduceAdd, Nat.reduceLeDiff, Nat.reduceLT, dl_i, dl_r, dl_n, dl_u, eq_self, not_true_eq_false, not_false_eq_true, n10, n01, nm0, n0m, imp_t, imp_f]
  obtain ⟨a1, a2, a3, a4, a5, a6, a7⟩ := fb1 I x
  have hM0 : MP I (sr (fbN I x) 500126 (I 500127)) := MP.fb.tr (MP.row (by unfold scA; omega) (by decide))
  refine loop 99 0 _ (by omega) hM0 (by rw [sr_n (by decide), a7]) ?_ sr_s (fun e e1 e2 => by omega)
  refine pm_be h9 hM0.t ?_ ?_ ?_ ?_ ?_ ?_ <;> rw [sr_n (by decide)] <;> assumption
theorem lnR_mp {J : Iv} {nV nC k : Nat} {x : Int32} (h9 : nV ≤ 9) (hC : nC ≤ 20) (hk : k < 12) (hM : MP I J) : lnR J nV nC x k ↔ lnR I nV nC x k := by
  have hP : Pe nV (pmB J x) (pmB I x) := by
    refine ⟨fun v hv => ⟨rfl, rfl, fun h hh => ?_⟩, rfl⟩
    show sn0 J v h = sn0 I v h
    unfold sn0
    rw [hM.1 (500016 + v) (by omega) (by unfold scA; omega)]
  unfold lnR
  rw [hM.1 (500094 + k) (by omega) (by unfold scA; omega), hM.1 500127 (by decide) (by unfold scA; omega), gR_t hM.t h9 hC, gR_pe hP]
theorem c_right {nV nC nL : Nat} (hV : VS I nV nC) (hL : I 500000 36 = nI nL) (hL12 : nL ≤ 12) (hbk : ∀ k, k < nL → ∃ e, 1 ≤ e ∧ e ≤ 99 ∧ I (500094 + k) 0 = nI e)
    (h : ∀ n, n ≤ nL → (∀ k, k < n → lnR I nV nC (I 500000 38) k) → (n < nL → ¬ lnR I nV nC (I 500000 38) n) → ∀ J, MP I J → J 500000 0 = nI 0 → kr (some (.int (nI n))) J E) : Ex Γ l shN (d + 8) (0, 0) mM_right [.ref 500000] I E kr kx := by
  refine ex_of (ls0 := [some (.ref 500000)]) tM_right (by decide +kernel) kM_right rfl (Nat.le_of_ble_eq_true rfl) rfl ?_
  intro go hgo
  refine hgo 20 [] 0 _ _ _ _ _ ?_
  simp only [ixr_of, run_s, run_0, rM_right, rok_i, rok_z, bx_cons, bx_nil, eC0, eCV1, eGI, eLA0, ePI, eRI, fM_right_0, bM_right_0, ty_m, Option.toList_some, Option.toList_none, List.cons_append, List.nil_append, List.length_cons, List.length_nil, List.mem_cons, List.not_mem_nil, or_false, false_or, or_true, true_or, ↓reduceIte, true_and, and_true, Nat.reduceEqDiff, Nat.reduceAdd, Nat.reduceLeDiff, Nat.reduceLT, dl_i, dl_r, dl_n, dl_u, eq_self, not_true_eq_false, not_false_eq_true, n10, n01, nm0, n0m, imp_t, imp_f]
  have hM : MP I (up I 500000 0 (nI 0)) := MP.fl (by unfold scF; omega)
  rw [up_n (by decide)]
  refine call0 (c_rightBy (nV := nV) (nC := nC) (nL := nL) (hV.t hM.t) (by rw [up_n (by decide)]; exact hL) hL12 (fun k hk => by rw [up_n (by omega)]; exact hbk k hk) ?_)
  intro n hn hr hr' J hJ hz
  simp only [ixr_of, run_s, run_0, rM_right, rok_i, rok_z, bx_cons, bx_nil, eC0, eCV1, eGI, eLA0, ePI, eRI, fM_right_0, bM_right_0, ty_m, Option.toList_some, Option.toList_none, List.cons_append, List.nil_append, List.length_cons, List.length_nil, List.mem_cons, List.not_mem_nil, or_false, false_or, or_true, true_or, ↓reduceIte, true_and, and_true, Nat.reduceEqDiff, Nat.reduceAdd, Nat.reduceLeDiff, Nat.reduceLT, dl_i, dl_r, dl_n, dl_u, eq_self, not_true_eq_false, not_false_eq_true, n10, n01, nm0, n0m, imp_t, imp_f]
  refine h n hn (fun k hk => (lnR_mp hV.2.1 hV.2.2.2.1 (by omega) hM).mp (hr k hk)) (fun hk c => hr' hk ((lnR_mp hV.2.1 hV.2.2.2.1 (by omega) hM).mpr c)) J (hM.tr hJ) (by rw [hz, up_s])
theorem c_minds {x : Int32} {nV nC nL : Nat} {rt : Nat → Bool} (hV : VS I nV nC) (hL : I 500000 36 = nI nL) (hL12 : nL ≤ 12) (hbk : ∀ k, k < nL → ∃ e, 1 ≤ e ∧ e ≤ 99 ∧ I (500094 + k) 0 = nI e) (hrt : ∀ s, rt s = true ↔ ∀ k, k < nL → lnR I nV nC (nI s) k)
    (h1 : ¬ (nI 0 ≤ x ∧ x ≤ nI 3) → kr (some (.int (nI 0))) (ref1 (up I 500000 0 (nI 0)) (nI 1) 1) E)
    (h2 : ∀ J, MP I J → J 500000 0 = nI 0 → ∀ n, n ≤ 3 → x = nI n → kr (some (.int (if n = 0 then nI (mdF rt (nI (2 ^ nV - 1)) (2 ^ nV)).1 else if n = 1 then (mdF rt (nI (2 ^ nV - 1)) (2 ^ nV)).2.1 else if (mdF rt (nI (2 ^ nV - 1)) (2 ^ nV)).1 = 0 then nI 0 else if n = 2 then (mdF rt (nI (2 ^ nV - 1)) (2 ^ nV)).2.2.1 else nI (2 ^ nV - 1) &&& ((mdF rt (nI (2 ^ nV - 1)) (2 ^ nV)).2.2.2 ^^^ -1)))) J E) : Ex Γ l shN (d + 8) (0, 0) mM_minds [.ref 500000, .int x] I E kr kx := by
  have hV0 := hV
  obtain ⟨hT0, h9, _, hC, _⟩ := hV0
  have p2 := p2_9 h9
  refine ex_of (ls0 := [some (.ref 500000), some (.int x), none, none, none, none, none]) tM_minds (by decide +kernel) kM_minds rfl (Nat.le_of_ble_eq_true rfl) rfl ?_
  intro go hgo
  refine hgo 20 [52, 81] 0 _ _ _ _ _ ?_
  simp only [ixr_of, run_s, run_0, rM_minds, rok_i, rok_z, bx_cons, bx_nil, eAND, eC0, eC1, eC2, eC3, eCS3, eCV1, eCV3, eCm1, eGI, eGO, eGR, eIALD, jICge, jICne, jIFeq, jIFne, eINC2, eINC6, eLA0, eLI1, eLI2, eLI3, eLI4, eLI5, eLI6, eOR, ePI, eRI, eSHL, eSI2, eSI3, eSI4, eSI5, eSI6, eSUB, eXOR, fM_minds_0, fM_minds_15, fM_minds_19, fM_minds_20, fM_minds_28, fM_minds_30, fM_minds_52, fM_minds_65, fM_minds_78, fM_minds_81, fM_minds_85, fM_minds_90, fM_minds_91, fM_minds_109, fM_minds_115, fM_minds_119, fM_minds_123, fM_minds_128, fM_minds_132, fM_minds_136, fM_minds_140, fM_minds_145, fM_minds_150, fM_minds_165, bM_minds_0, bM_minds_15, bM_minds_19, bM_minds_20, bM_minds_28, bM_minds_30, bM_minds_52, bM_minds_65, bM_minds_78, bM_minds_81, bM_minds_85, bM_minds_90, bM_minds_91, bM_minds_109, bM_minds_115, bM_minds_119, bM_minds_123, bM_minds_128, bM_minds_132, bM_minds_136, bM_minds_140, bM_minds_145, bM_minds_150, bM_minds_165, ln_mtold, rg_m_12, ty_m, ty_mtold, Option.toList_some, Option.toList_none, List.cons_append, List.nil_append, List.length_cons, List.length_nil, List.mem_cons, List.not_mem_nil, or_false, false_or, or_true, true_or, ↓reduceIte, true_and, and_true, Nat.reduceEqDiff, Nat.reduceAdd, Nat.reduceLeDiff, Nat.reduceLT, dl_i, dl_r, dl_n, dl_u, eq_self, not_true_eq_false, not_false_eq_true, n10, n01, nm0, n0m, imp_t, imp_f]
  refine call0 (c_in ?_)
  simp only [ixr_of, run_s, run_0, rM_minds, rok_i, rok_z, bx_cons, bx_nil, eAND, eC0, eC1, eC2, eC3, eCS3, eCV1, eCV3, eCm1, eGI, eGO, eGR, eIALD, jICge, jICne, jIFeq, jIFne, eINC2, eINC6, eLA0, eLI1, eLI2, eLI3, eLI4, eLI5, eLI6, eOR, ePI, eRI, eSHL, eSI2, eSI3, eSI4, eSI5, eSI6, eSUB, eXOR, fM_minds_0, fM_minds_15, fM_minds_19, fM_minds_20, fM_minds_28, fM_minds_30, fM_minds_52, fM_minds_65, fM_minds_78, fM_minds_81, fM_minds_85, fM_minds_90, fM_minds_91, fM_minds_109, fM_minds_115, fM_minds_119, fM_minds_123, fM_minds_128, fM_minds_132, fM_minds_136, fM_minds_140, fM_minds_145, fM_minds_150, fM_minds_165, bM_minds_0, bM_minds_15, bM_minds_19, bM_minds_20, bM_minds_28, bM_minds_30, bM_minds_52, bM_minds_65, bM_minds_78, bM_minds_81, bM_minds_85, bM_minds_90, bM_minds_91, bM_minds_109, bM_minds_115, bM_minds_119, bM_minds_123, bM_minds_128, bM_minds_132, bM_minds_136, bM_minds_140, bM_minds_145, bM_minds_150, bM_minds_165, ln_mtold, rg_m_12, ty_m, ty_mtold, Option.toList_some, Option.toList_none, List.cons_append, List.nil_append, List.length_cons, List.length_nil, List.mem_cons, List.not_mem_nil, or_false, false_or, or_true, true_or, ↓reduceIte, true_and, and_true, Nat.reduceEqDiff, Nat.reduceAdd, Nat.reduceLeDiff, Nat.reduceLT, dl_i, dl_r, dl_n, dl_u, eq_self, not_true_eq_false, not_false_eq_true, n10, n01, nm0, n0m, imp_t, imp_f]
  by_cases hc0 : nI 0 ≤ x ∧ x ≤ nI 3
  rotate_left
  · rw [bi_f hc0]
    refine ⟨fun q => absurd rfl q, fun _ => ?_⟩
    refine call0 (c_bad0 (by decide) (by decide) up_s (fun q => absurd q n10) (fun _ => ?_))
    simp only [ixr_of, run_s, run_0, rM_minds, rok_i, rok_z, bx_cons, bx_nil, eAND, eC0, eC1, eC2, eC3, eCS3, eCV1, eCV3, eCm1, eGI, eGO, eGR, eIALD, jICge, jICne, jIFeq, jIFne, eINC2, eINC6, eLA0, eLI1, eLI2, eLI3, eLI4, eLI5, eLI6, eOR, ePI, eRI, eSHL, eSI2, eSI3, eSI4, eSI5, eSI6, eSUB, eXOR, fM_minds_0, fM_minds_15, fM_minds_19, fM_minds_20, fM_minds_28, fM_minds_30, fM_minds_52, fM_minds_65, fM_minds_78, fM_minds_81, fM_minds_85, fM_minds_90, fM_minds_91, fM_minds_109, fM_minds_115, fM_minds_119, fM_minds_123, fM_minds_128, fM_minds_132, fM_minds_136, fM_minds_140, fM_minds_145, fM_minds_150, fM_minds_165, bM_minds_0, bM_minds_15, bM_minds_19, bM_minds_20, bM_minds_28, bM_minds_30, bM_minds_52, bM_minds_65, bM_minds_78, bM_minds_81, bM_minds_85, bM_minds_90, bM_minds_91, bM_minds_109, bM_minds_115, bM_minds_119, bM_minds_123, bM_minds_128, bM_minds_132, bM_minds_136, bM_minds_140, bM_minds_145, bM_minds_150, bM_minds_165, ln_mtold, rg_m_12, ty_m, ty_mtold, Option.toList_some, Option.toList_none, List.cons_append, List.nil_append, List.length_cons, List.length_nil, List.mem_cons, List.not_mem_nil, or_false, false_or, or_true, true_or, ↓reduceIte, true_and, and_true, Nat.reduceEqDiff, Nat.reduceAdd, Nat.reduceLeDiff, Nat.reduceLT, dl_i, dl_r, dl_n, dl_u, eq_self, not_true_eq_false, not_false_eq_true, n10, n01, nm0, n0m, imp_t, imp_f]
    exact h1  hc0
  rw [bi_t hc0]
  refine ⟨fun _ => ?_, fun q => absurd q n10⟩
  refine call0 (c_bad0 (by decide) (by decide) up_s (fun _ => ?_) (fun q => absurd rfl q))
  simp only [ixr_of, run_s, run_0, rM_minds, rok_i, rok_z, bx_cons, bx_nil, eAND, eC0, eC1, eC2, eC3, eCS3, eCV1, eCV3, eCm1, eGI, eGO, eGR, eIALD, jICge, jICne, jIFeq, jIFne, eINC2, eINC6, eLA0, eLI1, eLI2, eLI3, eLI4, eLI5, eLI6, eOR, ePI, eRI, eSHL, eSI2, eSI3, eSI4, eSI5, eSI6, eSUB, eXOR, fM_minds_0, fM_minds_15, fM_minds_19, fM_minds_20, fM_minds_28, fM_minds_30, fM_minds_52, fM_minds_65, fM_minds_78, fM_minds_81, fM_minds_85, fM_minds_90, fM_minds_91, fM_minds_109, fM_minds_115, fM_minds_119, fM_minds_123, fM_minds_128, fM_minds_132, fM_minds_136, fM_minds_140, fM_minds_145, fM_minds_150, fM_minds_165, bM_minds_0, bM_minds_15, bM_minds_19, bM_minds_20, bM_minds_28, bM_minds_30, bM_minds_52, bM_minds_65, bM_minds_78, bM_minds_81, bM_minds_85, bM_minds_90, bM_minds_91, bM_minds_109, bM_minds_115, bM_minds_119, bM_minds_123, bM_minds_128, bM_minds_132, bM_minds_136, bM_minds_140, bM_minds_145, bM_minds_150, bM_minds_165, ln_mtold, rg_m_12, ty_m, ty_mtold, Option.toList_some, Option.toList_none, List.cons_append, List.nil_append, List.length_cons, List.length_nil, List.mem_cons, List.not_mem_nil, or_false, false_or, or_true, true_or, ↓reduceIte, true_and, and_true, Nat.reduceEqDiff, Nat.reduceAdd, Nat.reduceLeDiff, Nat.reduceLT, dl_i, dl_r, dl_n, dl_u, eq_self, not_true_eq_false, not_false_eq_true, n10, n01, nm0, n0m, imp_t, imp_f]
  obtain ⟨n, hn, rfl⟩ := rng (by decide) hc0
  obtain ⟨all, hall⟩ : ∃ all, all = nI (2 ^ nV - 1) := ⟨_, rfl⟩
  rw [← hall] at h2
  have loop : ∀ (g k : Nat) (J : Iv), g + k = 2 ^ nV → MP I J → J 500000 0 = nI 0 → go 52 [some (.ref 500000), some (.int (nI n)), some (.int (nI (mdF rt all k).1)), some (.int (mdF rt all k).2.1), some (.int (mdF rt all k).2.2.1), some (.int (mdF rt all k).2.2.2), some (.int (nI k))] [] J E (0, 0) := by
    intro g
    induction g with
    | zero =>
      intro k J hk hM hz
      have : k = 2 ^ nV := by omega
      subst this
      have e1 : J 500004 = I 500004 := hM.1 _ (by decide) (by unfold scA; omega)
      have hle := mdF_le (rt := rt) (all := all) (2 ^ nV)
      have h3 := h2 J hM hz n hn rfl
      refine hgo 20 [52, 81] 52 _ _ _ _ _ ?_
      simp only [ixr_of, run_s, run_0, rM_minds, rok_i, rok_z, bx_cons, bx_nil, eAND, eC0, eC1, eC2, eC3, eCS3, eCV1, eCV3, eCm1, eGI, eGO, eGR, eIALD, jICge, jICne, jIFeq, jIFne, eINC2, eINC6, eLA0, eLI1, eLI2, eLI3, eLI4, eLI5, eLI6, eOR, ePI, eRI, eSHL, eSI2, eSI3, eSI4, eSI5, eSI6, eSUB, eXOR, fM_minds_0, fM_minds_15, fM_minds_19, fM_minds_20, fM_minds_28, fM_minds_30, fM_minds_52, fM_minds_65, fM_minds_78, fM_minds_81, fM_minds_85, fM_minds_90, fM_minds_91, fM_minds_109, fM_minds_115, fM_minds_119, fM_minds_123, fM_minds_128, fM_minds_132, fM_minds_136, fM_minds_140, fM_minds_145, fM_minds_150, fM_minds_165, bM_minds_0, bM_minds_15, bM_minds_19, bM_minds_20, bM_minds_28, bM_minds_30, bM_minds_52, bM_minds_65, bM_minds_78, bM_minds_81, bM_minds_85, bM_minds_90, bM_minds_91, bM_minds_109, bM_minds_115, bM_minds_119, bM_minds_123, bM_minds_128, bM_minds_132, bM_minds_136, bM_minds_140, bM_minds_145, bM_minds_150, bM_minds_165, ln_mtold, rg_m_12, ty_m, ty_mtold, Option.toList_some, Option.toList_none, List.cons_append, List.nil_append, List.length_cons, List.length_nil, List.mem_cons, List.not_mem_nil, or_false, false_or, or_true, true_or, ↓reduceIte, true_and, and_true, Nat.reduceEqDiff, Nat.reduceAdd, Nat.reduceLeDiff, Nat.reduceLT, dl_i, dl_r, dl_n, dl_u, eq_self, not_true_eq_false, not_false_eq_true, n10, n01, nm0, n0m, e1, hT0, imp_t, imp_f]
      rw [shl_n h9, nIe (by omega) (by decide), nIe (by omega) (by decide), nIe (by omega) (by decide), nIe (by omega) (by decide), pk_sub (by omega), ← hall]
      refine ⟨fun _ => ?_, fun q => absurd (Int32.le_refl _) q⟩
      refine ⟨fun q => ⟨fun q1 => ⟨fun q2 => ⟨fun q3 => ?_, fun q3 => ?_⟩, fun q2 => ?_⟩, fun q1 => ?_⟩, fun q => ?_⟩
      · rw [if_neg q, if_neg q1, if_neg q2, if_neg q3] at h3; exact h3
      · rw [if_neg q, if_neg q1, if_neg q2, if_pos q3] at h3; exact h3
      · rw [if_neg q, if_neg q1, if_pos q2] at h3; exact h3
      · rw [if_neg q, if_pos q1] at h3; exact h3
      · rw [if_pos q] at h3; exact h3
    | succ g ih =>
      intro k J hk hM hz
      have e1 : J 500004 = I 500004 := hM.1 _ (by decide) (by unfold scA; omega)
      have hle := mdF_le (rt := rt) (all := all) k
      refine hgo 20 [52, 81] 52 _ _ _ _ _ ?_
      simp only [ixr_of, run_s, run_0, rM_minds, rok_i, rok_z, bx_cons, bx_nil, eAND, eC0, eC1, eC2, eC3, eCS3, eCV1, eCV3, eCm1, eGI, eGO, eGR, eIALD, jICge, jICne, jIFeq, jIFne, eINC2, eINC6, eLA0, eLI1, eLI2, eLI3, eLI4, eLI5, eLI6, eOR, ePI, eRI, eSHL, eSI2, eSI3, eSI4, eSI5, eSI6, eSUB, eXOR, fM_minds_0, fM_minds_15, fM_minds_19, fM_minds_20, fM_minds_28, fM_minds_30, fM_minds_52, fM_minds_65, fM_minds_78, fM_minds_81, fM_minds_85, fM_minds_90, fM_minds_91, fM_minds_109, fM_minds_115, fM_minds_119, fM_minds_123, fM_minds_128, fM_minds_132, fM_minds_136, fM_minds_140, fM_minds_145, fM_minds_150, fM_minds_165, bM_minds_0, bM_minds_15, bM_minds_19, bM_minds_20, bM_minds_28, bM_minds_30, bM_minds_52, bM_minds_65, bM_minds_78, bM_minds_81, bM_minds_85, bM_minds_90, bM_minds_91, bM_minds_109, bM_minds_115, bM_minds_119, bM_minds_123, bM_minds_128, bM_minds_132, bM_minds_136, bM_minds_140, bM_minds_145, bM_minds_150, bM_minds_165, ln_mtold, rg_m_12, ty_m, ty_mtold, Option.toList_some, Option.toList_none, List.cons_append, List.nil_append, List.length_cons, List.length_nil, List.mem_cons, List.not_mem_nil, or_false, false_or, or_true, true_or, ↓reduceIte, true_and, and_true, Nat.reduceEqDiff, Nat.reduceAdd, Nat.reduceLeDiff, Nat.reduceLT, dl_i, dl_r, dl_n, dl_u, eq_self, not_true_eq_false, not_false_eq_true, n10, n01, nm0, n0m, e1, hT0, imp_t, imp_f]
      rw [shl_n h9, nI_leI (by omega) (by omega)]
      refine ⟨fun q => absurd q (by omega), fun _ => ?_⟩
      refine call0 (c_rightBy (nV := nV) (nC := nC) (nL := nL) (hV.t hM.t) (by rw [hM.2 _ (by unfold scF; omega)]; exact hL) hL12 (fun k hk => by rw [hM.1 (500094 + k) (by omega) (by unfold scA; omega)]; exact hbk k hk) ?_)
      intro m hm hr hr' K hK hzK
      have hMK := hM.tr hK
      have ihK := ih (k + 1) K (by omega) hMK (by rw [hzK, hz])
      unfold mdF at ihK
      simp only [ixr_of, run_s, run_0, rM_minds, rok_i, rok_z, bx_cons, bx_nil, eAND, eC0, eC1, eC2, eC3, eCS3, eCV1, eCV3, eCm1, eGI, eGO, eGR, eIALD, jICge, jICne, jIFeq, jIFne, eINC2, eINC6, eLA0, eLI1, eLI2, eLI3, eLI4, eLI5, eLI6, eOR, ePI, eRI, eSHL, eSI2, eSI3, eSI4, eSI5, eSI6, eSUB, eXOR, fM_minds_0, fM_minds_15, fM_minds_19, fM_minds_20, fM_minds_28, fM_minds_30, fM_minds_52, fM_minds_65, fM_minds_78, fM_minds_81, fM_minds_85, fM_minds_90, fM_minds_91, fM_minds_109, fM_minds_115, fM_minds_119, fM_minds_123, fM_minds_128, fM_minds_132, fM_minds_136, fM_minds_140, fM_minds_145, fM_minds_150, fM_minds_165, bM_minds_0, bM_minds_15, bM_minds_19, bM_minds_20, bM_minds_28, bM_minds_30, bM_minds_52, bM_minds_65, bM_minds_78, bM_minds_81, bM_minds_85, bM_minds_90, bM_minds_91, bM_minds_109, bM_minds_115, bM_minds_119, bM_minds_123, bM_minds_128, bM_minds_132, bM_minds_136, bM_minds_140, bM_minds_145, bM_minds_150, bM_minds_165, ln_mtold, rg_m_12, ty_m, ty_mtold, Option.toList_some, Option.toList_none, List.cons_append, List.nil_append, List.length_cons, List.length_nil, List.mem_cons, List.not_mem_nil, or_false, false_or, or_true, true_or, ↓reduceIte, true_and, and_true, Nat.reduceEqDiff, Nat.reduceAdd, Nat.reduceLeDiff, Nat.reduceLT, dl_i, dl_r, dl_n, dl_u, eq_self, not_true_eq_false, not_false_eq_true, n10, n01, nm0, n0m, nI_add, imp_t, imp_f]
      rw [hMK.2 _ (by unfold scF; omega), hL, nI_leI (by omega) (by omega)]
      refine ⟨fun q => ?_, fun q => ?_⟩
      · have hk : rt k = true := (hrt k).mpr (fun i hi => (lnR_mp h9 hC (by omega) hM).mp (hr i (by omega)))
        simp only [if_pos hk] at ihK
        refine hgo 20 [52] 81 _ _ _ _ _ ?_
        simp only [ixr_of, run_s, run_0, rM_minds, rok_i, rok_z, bx_cons, bx_nil, eAND, eC0, eC1, eC2, eC3, eCS3, eCV1, eCV3, eCm1, eGI, eGO, eGR, eIALD, jICge, jICne, jIFeq, jIFne, eINC2, eINC6, eLA0, eLI1, eLI2, eLI3, eLI4, eLI5, eLI6, eOR, ePI, eRI, eSHL, eSI2, eSI3, eSI4, eSI5, eSI6, eSUB, eXOR, fM_minds_0, fM_minds_15, fM_minds_19, fM_minds_20, fM_minds_28, fM_minds_30, fM_minds_52, fM_minds_65, fM_minds_78, fM_minds_81, fM_minds_85, fM_minds_90, fM_minds_91, fM_minds_109, fM_minds_115, fM_minds_119, fM_minds_123, fM_minds_128, fM_minds_132, fM_minds_136, fM_minds_140, fM_minds_145, fM_minds_150, fM_minds_165, bM_minds_0, bM_minds_15, bM_minds_19, bM_minds_20, bM_minds_28, bM_minds_30, bM_minds_52, bM_minds_65, bM_minds_78, bM_minds_81, bM_minds_85, bM_minds_90, bM_minds_91, bM_minds_109, bM_minds_115, bM_minds_119, bM_minds_123, bM_minds_128, bM_minds_132, bM_minds_136, bM_minds_140, bM_minds_145, bM_minds_150, bM_minds_165, ln_mtold, rg_m_12, ty_m, ty_mtold, Option.toList_some, Option.toList_none, List.cons_append, List.nil_append, List.length_cons, List.length_nil, List.mem_cons, List.not_mem_nil, or_false, false_or, or_true, true_or, ↓reduceIte, true_and, and_true, Nat.reduceEqDiff, Nat.reduceAdd, Nat.reduceLeDiff, Nat.reduceLT, dl_i, dl_r, dl_n, dl_u, eq_self, not_true_eq_false, not_false_eq_true, n10, n01, nm0, n0m, nI_add, imp_t, imp_f]
        rw [nIe (by omega) (by decide)]
        refine ⟨fun q => ?_, fun q => ?_⟩
        · simp only [if_neg q] at ihK; exact ihK
        · simp only [if_pos q] at ihK; exact ihK
      · have hk : ¬ rt k = true := fun c => hr' (by omega) ((lnR_mp h9 hC (by omega) hM).mpr ((hrt k).mp c m (by omega)))
        simp only [if_neg hk] at ihK
        exact ihK
  have l0 := loop (2 ^ nV) 0 (up I 500000 0 (nI 0)) (by omega) (MP.fl (by unfold scF; omega)) up_s
  rw [up_n (by decide), hT0, shl_n h9, pk_sub (by omega), ← hall]
  exact l0
end CM18
