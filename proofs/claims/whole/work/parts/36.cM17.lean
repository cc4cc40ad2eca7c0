/-! contracts of HerbWatersModel, 16: whom to please, filters -/
theorem z_shr {v : Nat} (h : v < 9) : nI 0 >>> (nI v &&& 31) &&& nI 1 = nI 0 := by
  have : ∀ v, v < 9 → nI 0 >>> (nI v &&& 31) &&& nI 1 = nI 0 := by decide
  exact this v h
/-- what K asks, its fields given -/
theorem pm_gr {I K : Iv} {nV : Nat} {x y z : Int32} (h9 : nV ≤ 9) (hT : SayT I K) (hg : K 500123 = I 500123) (h1 : K 500000 41 = x) (h2 : K 500000 42 = y) (h3 : K 500000 46 = -1) (h4 : K 500000 49 = nI 1) (h5 : K 500000 43 = -1) (h6 : K 500000 47 = z) : Pe nV (pmI K) (plS x, coS y, snG I, z) := by
  refine ⟨fun v hv => ⟨?_, ?_, fun h hh => ?_⟩, h6⟩
  · show plB K v = plS x v
    unfold plB plS
    rw [h1, h3]
    simp
  · show coB K v = coS y v
    unfold coB coS
    rw [h2]
  · show stN K v h = snG I v h
    unfold stN snG
    rw [hT (500016 + v) (by unfold tw; omega), hg, h4, h5, if_pos n10, if_neg (fun c => nIm v (by omega) c.1), nI_0, Int32.add_zero]
theorem pm_be {I K : Iv} {nV : Nat} {y : Int32} (h9 : nV ≤ 9) (hT : SayT I K) (h1 : K 500000 41 = nI 0) (h2 : K 500000 42 = y) (h3 : K 500000 46 = -1) (h4 : K 500000 49 = nI 0) (h5 : K 500000 43 = -1) (h6 : K 500000 47 = nI 0) : Pe nV (pmI K) (fun _ => true, coS y, sn0 I, nI 0) := by
  refine ⟨fun v hv => ⟨?_, ?_, fun h hh => ?_⟩, h6⟩
  · show plB K v = true
    unfold plB
    rw [h1, h3, z_shr (by omega)]
    simp
  · show coB K v = coS y v
    unfold coB coS
    rw [h2]
  · show stN K v h = sn0 I v h
    unfold stN sn0
    rw [hT (500016 + v) (by unfold tw; omega), h4, h5, if_neg (fun c => c rfl), if_neg (fun c => nIm v (by omega) c.1), nI_0, Int32.add_zero, Int32.add_zero]
theorem pm_al {I K : Iv} {nV a : Nat} (h9 : nV ≤ 9) (ha : a < 9) (hT : SayT I K) (h1 : K 500000 41 = nI 0) (h2 : K 500000 42 = nI 0) (h3 : K 500000 46 = nI a) (h4 : K 500000 49 = nI 0) (h5 : K 500000 43 = -1) (h6 : K 500000 47 = nI 0) : Pe nV (pmI K) (fun v => decide (v = a), fun _ => false, sn0 I, nI 0) := by
  refine ⟨fun v hv => ⟨?_, ?_, fun h hh => ?_⟩, h6⟩
  · show plB K v = decide (v = a)
    unfold plB
    rw [h1, h3, z_shr (by omega)]
    have e1 : ¬ nI a = (-1 : Int32) := fun c => nIm a ha c.symm
    have e2 : (nI a = nI v) = (v = a) := by rw [nIe (by omega) (by omega)]; exact propext ⟨Eq.symm, Eq.symm⟩
    simp [e1, e2]
  · show coB K v = false
    unfold coB
    rw [h2, z_shr (by omega)]
    exact decide_eq_false n01
  · show stN K v h = sn0 I v h
    unfold stN sn0
    rw [hT (500016 + v) (by unfold tw; omega), h4, h5, if_neg (fun c => c rfl), if_neg (fun c => nIm v (by omega) c.1), nI_0, Int32.add_zero, Int32.add_zero]
def snM (I : Iv) (w hb : Nat) (c : Int32) (v h : Nat) : Int32 := snG I v h + (if v = w ∧ h = hb then c else nI 0)
theorem pm_fi {I K : Iv} {nV w hb : Nat} {x y c : Int32} (h9 : nV ≤ 9) (hw : w < 9) (hhb : hb < 3) (hT : SayT I K) (hg : K 500123 = I 500123) (h1 : K 500000 41 = x) (h2 : K 500000 42 = y) (h3 : K 500000 46 = -1) (h4 : K 500000 49 = nI 1) (h5 : K 500000 43 = nI w) (h6 : K 500000 47 = nI 0) (h7 : K 500000 44 = nI hb) (h8 : K 500000 45 = c) : Pe nV (pmI K) (plS x, coS y, snM I w hb c, nI 0) := by
  refine ⟨fun v hv => ⟨?_, ?_, fun h hh => ?_⟩, h6⟩
  · show plB K v = plS x v
    unfold plB plS
    rw [h1, h3]
    simp
  · show coB K v = coS y v
    unfold coB coS
    rw [h2]
  · show stN K v h = snM I w hb c v h
    unfold stN snM snG
    rw [hT (500016 + v) (by unfold tw; omega), hg, h4, h5, h7, h8, if_pos n10]
    by_cases e : v = w ∧ h = hb
    · rw [if_pos e, if_pos ⟨by rw [e.1], by rw [e.2]⟩]
    · rw [if_neg e, if_neg]
      rw [nIe (by omega) (by omega), nIe (by omega) (by omega)]
      omega
def onI (x : Int32) : Int32 := smI (fun k => x >>> (nI k &&& 31) &&& nI 1) 9
def pmW (I : Iv) (x : Int32) : Pm := (plS x, coS (I 500000 38), snG I, nI 0)
/-- the best of the sets below k -/
def wB (I : Iv) (nV nC n : Nat) : Nat → Int32
  | 0 => -1
  | k + 1 => if ¬ (I 500000 37 &&& (nI k ^^^ -1)) = nI 0 then wB I nV nC n k
    else if ¬ wB I nV nC n k = -1 ∧ ¬ onI (nI k) < onI (wB I nV nC n k) then wB I nV nC n k
    else if vwI (gR I nV nC (pmW I (nI k)) (I 500124) n) = nI 0 then nI k else wB I nV nC n k
section CM17
variable {Γ : Gm} {l : Launch} {d : Nat} {I : Iv} {E : Ev} {kr : Kr} {kx : Kxx}
theorem c_stepT {nV nC : Nat} {P : Pm} (hV : VS I nV nC) (hP : Pe nV (pmI I) P) (h : ∀ J : Iv, Fr 500126 I J → (J 500126, J 500000 48) = st2 I nV nC P (I 500126, I 500000 48) → kr none J E) : Ex Γ l shN (d + 6) (0, 0) mM_steps [.ref 500000, .ref 500126] I E kr kx :=
  c_steps' (Or.inr rfl) hV (fun J hf hr => h J hf (by rw [hr, st2_is, st2_pe hP]))
theorem as1 (J : Iv) : asN J 500000 41 = J 500000 37 ∧ asN J 500000 42 = J 500000 38 ∧ asN J 500000 46 = -1 ∧ asN J 500000 49 = nI 1 ∧ asN J 500000 43 = -1 ∧ asN J 500000 47 = nI 0 := by
  unfold asN
  simp [up]
theorem c_whomBy {n nV nC : Nat} (hn : n < 1000) (hV : VS I nV nC) (h0 : I 500000 0 = nI 0) (h : ∀ J, MP I J → J 500000 0 = nI 0 → kr (some (.int (wB I nV nC n (2 ^ nV)))) J E) : Ex Γ l shN (d + 8) (0, 0) mM_whomBy [.ref 500000, .int (nI n)] I E kr kx := by
  have hV0 := hV
  obtain ⟨hT0, h9, _, hC, _⟩ := hV0
  have p2 := p2_9 h9
  refine ex_of (ls0 := [some (.ref 500000), some (.int (nI n)), none, none]) tM_whomBy (by decide +kernel) kM_whomBy rfl (Nat.le_of_ble_eq_true rfl) rfl ?_
  intro go hgo
  have loop : ∀ (g k : Nat) (J : Iv), g + k = 2 ^ nV → MP I J → J 500000 0 = nI 0 → go 4 [some (.ref 500000), some (.int (nI n)), some (.int (wB I nV nC n k)), some (.int (nI k))] [] J E (0, 0) := by
    intro g
    induction g with
    | zero =>
      intro k J hk hM hz
      have : k = 2 ^ nV := by omega
      subst this
      have e1 : J 500004 = I 500004 := hM.1 _ (by decide) (by unfold scA; omega)
      refine hgo 20 [4] 4 _ _ _ _ _ ?_
      simp only [ixr_of, run_s, run_0, rM_whomBy, rok_i, rok_z, bx_cons, bx_nil, eAND, eC0, eC1, eCS1, eCV0, eCV1, eCm1, eGI, eGO, eGR, eIALD, jICeq, jICge, jIClt, jIFne, eINC3, eLA0, eLI1, eLI2, eLI3, ePI, eRI, eSHL, eSI2, eSI3, eXOR, fM_whomBy_0, fM_whomBy_4, fM_whomBy_16, fM_whomBy_27, fM_whomBy_32, fM_whomBy_43, fM_whomBy_46, fM_whomBy_70, fM_whomBy_74, fM_whomBy_75, fM_whomBy_76, fM_whomBy_82, bM_whomBy_0, bM_whomBy_4, bM_whomBy_16, bM_whomBy_27, bM_whomBy_32, bM_whomBy_43, bM_whomBy_46, bM_whomBy_70, bM_whomBy_74, bM_whomBy_75, bM_whomBy_76, bM_whomBy_82, ln_mtold, ln_mtrial, rg_m_12, rg_m_34, ty_m, ty_mtold, ty_mtrial, Option.toList_some, Option.toList_none, List.cons_append, List.nil_append, List.length_cons, List.length_nil, List.mem_cons, List.not_mem_nil, or_false, false_or, or_true, true_or, ↓reduceIte, true_and, and_true, Nat.reduceEqDiff, Nat.reduceAdd, Nat.reduceLeDiff, Nat.reduceLT, dl_i, dl_r, dl_n, dl_u, eq_self, not_true_eq_false, not_false_eq_true, n10, n01, nm0, n0m, e1, hT0, imp_t, imp_f]
      rw [shl_n h9]
      exact ⟨fun _ => h J hM hz, fun q => absurd (Int32.le_refl _) q⟩
    | succ g ih =>
      intro k J hk hM hz
      have e1 : J 500004 = I 500004 := hM.1 _ (by decide) (by unfold scA; omega)
      have e2 : J 500000 37 = I 500000 37 := hM.2 _ (by unfold scF; omega)
      have ih0 := fun K hK hz => ih (k + 1) K (by omega) hK hz
      have ih1 := ih0 J hM hz
      obtain ⟨b, hb⟩ : ∃ b, b = wB I nV nC n k := ⟨_, rfl⟩
      rw [← hb]
      have main : ¬ ¬ (I 500000 37 &&& (nI k ^^^ -1)) = nI 0 → ¬ (¬ b = -1 ∧ ¬ onI (nI k) < onI b) → go 46 [some (.ref 500000), some (.int (nI n)), some (.int b), some (.int (nI k))] [] J E (0, 0) := by
        intro q1 q2
        refine hgo 20 [4] 46 _ _ _ _ _ ?_
        simp only [ixr_of, run_s, run_0, rM_whomBy, rok_i, rok_z, bx_cons, bx_nil, eAND, eC0, eC1, eCS1, eCV0, eCV1, eCm1, eGI, eGO, eGR, eIALD, jICeq, jICge, jIClt, jIFne, eINC3, eLA0, eLI1, eLI2, eLI3, ePI, eRI, eSHL, eSI2, eSI3, eXOR, fM_whomBy_0, fM_whomBy_4, fM_whomBy_16, fM_whomBy_27, fM_whomBy_32, fM_whomBy_43, fM_whomBy_46, fM_whomBy_70, fM_whomBy_74, fM_whomBy_75, fM_whomBy_76, fM_whomBy_82, bM_whomBy_0, bM_whomBy_4, bM_whomBy_16, bM_whomBy_27, bM_whomBy_32, bM_whomBy_43, bM_whomBy_46, bM_whomBy_70, bM_whomBy_74, bM_whomBy_75, bM_whomBy_76, bM_whomBy_82, ln_mtold, ln_mtrial, rg_m_12, rg_m_34, ty_m, ty_mtold, ty_mtrial, Option.toList_some, Option.toList_none, List.cons_append, List.nil_append, List.length_cons, List.length_nil, List.mem_cons, List.not_mem_nil, or_false, false_or, or_true, true_or, ↓reduceIte, true_and, and_true, Nat.reduceEqDiff, Nat.reduceAdd, Nat.reduceLeDiff, Nat.reduceLT, dl_i, dl_r, dl_n, dl_u, eq_self, not_true_eq_false, not_false_eq_true, n10, n01, nm0, n0m, imp_t, imp_f]
        refine call0 (c_asN ?_)
        simp only [ixr_of, run_s, run_0, rM_whomBy, rok_i, rok_z, bx_cons, bx_nil, eAND, eC0, eC1, eCS1, eCV0, eCV1, eCm1, eGI, eGO, eGR, eIALD, jICeq, jICge, jIClt, jIFne, eINC3, eLA0, eLI1, eLI2, eLI3, ePI, eRI, eSHL, eSI2, eSI3, eXOR, fM_whomBy_0, fM_whomBy_4, fM_whomBy_16, fM_whomBy_27, fM_whomBy_32, fM_whomBy_43, fM_whomBy_46, fM_whomBy_70, fM_whomBy_74, fM_whomBy_75, fM_whomBy_76, fM_whomBy_82, bM_whomBy_0, bM_whomBy_4, bM_whomBy_16, bM_whomBy_27, bM_whomBy_32, bM_whomBy_43, bM_whomBy_46, bM_whomBy_70, bM_whomBy_74, bM_whomBy_75, bM_whomBy_76, bM_whomBy_82, ln_mtold, ln_mtrial, rg_m_12, rg_m_34, ty_m, ty_mtold, ty_mtrial, Option.toList_some, Option.toList_none, List.cons_append, List.nil_append, List.length_cons, List.length_nil, List.mem_cons, List.not_mem_nil, or_false, false_or, or_true, true_or, ↓reduceIte, true_and, and_true, Nat.reduceEqDiff, Nat.reduceAdd, Nat.reduceLeDiff, Nat.reduceLT, dl_i, dl_r, dl_n, dl_u, eq_self, not_true_eq_false, not_false_eq_true, n10, n01, nm0, n0m, imp_t, imp_f]
        obtain ⟨K, hK⟩ : ∃ K, K = up (asN J) 500000 41 (nI k) := ⟨_, rfl⟩
        have hMK : MP I K := by rw [hK]; exact (hM.tr MP.as).tr (MP.fl (by unfold scF; omega))
        obtain ⟨a1, a2, a3, a4, a5, a6⟩ := as1 J
        have hPK : Pe nV (pmI K) (pmW I (nI k)) := by
          refine pm_gr h9 hMK.t (hMK.1 _ (by decide) (by unfold scA; omega)) ?_ ?_ ?_ ?_ ?_ ?_ <;> rw [hK]
          · exact up_s
          · rw [up_n (by decide), a2, hM.2 _ (by unfold scF; omega)]
          · rw [up_n (by decide), a3]
          · rw [up_n (by decide), a4]
          · rw [up_n (by decide), a5]
          · rw [up_n (by decide), a6]
        have hzK : K 500000 0 = nI 0 := by rw [hK, up_n (by decide), asN_n (Or.inr (by decide)), hz]
        rw [← hK]
        refine call0 (c_goesOn2 hn (hV.t hMK.t) hPK rfl ?_)
        intro L hf hr
        simp only [ixr_of, run_s, run_0, rM_whomBy, rok_i, rok_z, bx_cons, bx_nil, eAND, eC0, eC1, eCS1, eCV0, eCV1, eCm1, eGI, eGO, eGR, eIALD, jICeq, jICge, jIClt, jIFne, eINC3, eLA0, eLI1, eLI2, eLI3, ePI, eRI, eSHL, eSI2, eSI3, eXOR, fM_whomBy_0, fM_whomBy_4, fM_whomBy_16, fM_whomBy_27, fM_whomBy_32, fM_whomBy_43, fM_whomBy_46, fM_whomBy_70, fM_whomBy_74, fM_whomBy_75, fM_whomBy_76, fM_whomBy_82, bM_whomBy_0, bM_whomBy_4, bM_whomBy_16, bM_whomBy_27, bM_whomBy_32, bM_whomBy_43, bM_whomBy_46, bM_whomBy_70, bM_whomBy_74, bM_whomBy_75, bM_whomBy_76, bM_whomBy_82, ln_mtold, ln_mtrial, rg_m_12, rg_m_34, ty_m, ty_mtold, ty_mtrial, Option.toList_some, Option.toList_none, List.cons_append, List.nil_append, List.length_cons, List.length_nil, List.mem_cons, List.not_mem_nil, or_false, false_or, or_true, true_or, ↓reduceIte, true_and, and_true, Nat.reduceEqDiff, Nat.reduceAdd, Nat.reduceLeDiff, Nat.reduceLT, dl_i, dl_r, dl_n, dl_u, eq_self, not_true_eq_false, not_false_eq_true, n10, n01, nm0, n0m, imp_t, imp_f]
        refine call0 (c_viewOf ty_mtrial (by rw [ln_mtrial]; decide) ?_)
        simp only [ixr_of, run_s, run_0, rM_whomBy, rok_i, rok_z, bx_cons, bx_nil, eAND, eC0, eC1, eCS1, eCV0, eCV1, eCm1, eGI, eGO, eGR, eIALD, jICeq, jICge, jIClt, jIFne, eINC3, eLA0, eLI1, eLI2, eLI3, ePI, eRI, eSHL, eSI2, eSI3, eXOR, fM_whomBy_0, fM_whomBy_4, fM_whomBy_16, fM_whomBy_27, fM_whomBy_32, fM_whomBy_43, fM_whomBy_46, fM_whomBy_70, fM_whomBy_74, fM_whomBy_75, fM_whomBy_76, fM_whomBy_82, bM_whomBy_0, bM_whomBy_4, bM_whomBy_16, bM_whomBy_27, bM_whomBy_32, bM_whomBy_43, bM_whomBy_46, bM_whomBy_70, bM_whomBy_74, bM_whomBy_75, bM_whomBy_76, bM_whomBy_82, ln_mtold, ln_mtrial, rg_m_12, rg_m_34, ty_m, ty_mtold, ty_mtrial, Option.toList_some, Option.toList_none, List.cons_append, List.nil_append, List.length_cons, List.length_nil, List.mem_cons, List.not_mem_nil, or_false, false_or, or_true, true_or, ↓reduceIte, true_and, and_true, Nat.reduceEqDiff, Nat.reduceAdd, Nat.reduceLeDiff, Nat.reduceLT, dl_i, dl_r, dl_n, dl_u, eq_self, not_true_eq_false, not_false_eq_true, n10, n01, nm0, n0m, nI_add, imp_t, imp_f]
        rw [hr, gR_t hMK.t h9 hC, hMK.1 500124 (by decide) (by unfold scA; omega)]
        have ih2 := ih0 L (hMK.tr (MP.fr hf)) (by rw [hf.2 _ (by decide), hzK])
        unfold wB at ih2
        rw [← hb, if_neg q1, if_neg q2] at ih2
        refine ⟨fun q => ?_, fun q => ?_⟩
        · rw [if_neg q] at ih2; exact ih2
        · rw [if_pos q] at ih2; exact ih2
      unfold wB at ih1
      rw [← hb] at ih1
      refine hgo 20 [4, 46] 4 _ _ _ _ _ ?_
      simp only [ixr_of, run_s, run_0, rM_whomBy, rok_i, rok_z, bx_cons, bx_nil, eAND, eC0, eC1, eCS1, eCV0, eCV1, eCm1, eGI, eGO, eGR, eIALD, jICeq, jICge, jIClt, jIFne, eINC3, eLA0, eLI1, eLI2, eLI3, ePI, eRI, eSHL, eSI2, eSI3, eXOR, fM_whomBy_0, fM_whomBy_4, fM_whomBy_16, fM_whomBy_27, fM_whomBy_32, fM_whomBy_43, fM_whomBy_46, fM_whomBy_70, fM_whomBy_74, fM_whomBy_75, fM_whomBy_76, fM_whomBy_82, bM_whomBy_0, bM_whomBy_4, bM_whomBy_16, bM_whomBy_27, bM_whomBy_32, bM_whomBy_43, bM_whomBy_46, bM_whomBy_70, bM_whomBy_74, bM_whomBy_75, bM_whomBy_76, bM_whomBy_82, ln_mtold, ln_mtrial, rg_m_12, rg_m_34, ty_m, ty_mtold, ty_mtrial, Option.toList_some, Option.toList_none, List.cons_append, List.nil_append, List.length_cons, List.length_nil, List.mem_cons, List.not_mem_nil, or_false, false_or, or_true, true_or, ↓reduceIte, true_and, and_true, Nat.reduceEqDiff, Nat.reduceAdd, Nat.reduceLeDiff, Nat.reduceLT, dl_i, dl_r, dl_n, dl_u, eq_self, not_true_eq_false, not_false_eq_true, n10, n01, nm0, n0m, e1, hT0, e2, nI_add, imp_t, imp_f]
      rw [shl_n h9, nI_leI (by omega) (by omega)]
      refine ⟨fun q => absurd q (by omega), fun _ => ⟨fun q => ?_, fun q => ⟨fun q2 => ?_, fun q2 => ?_⟩⟩⟩
      · rw [if_pos q] at ih1; exact ih1
      · exact main (fun c => c q) (fun c => c.1 q2)
      · refine call0 (c_ones ?_)
        simp only [ixr_of, run_s, run_0, rM_whomBy, rok_i, rok_z, bx_cons, bx_nil, eAND, eC0, eC1, eCS1, eCV0, eCV1, eCm1, eGI, eGO, eGR, eIALD, jICeq, jICge, jIClt, jIFne, eINC3, eLA0, eLI1, eLI2, eLI3, ePI, eRI, eSHL, eSI2, eSI3, eXOR, fM_whomBy_0, fM_whomBy_4, fM_whomBy_16, fM_whomBy_27, fM_whomBy_32, fM_whomBy_43, fM_whomBy_46, fM_whomBy_70, fM_whomBy_74, fM_whomBy_75, fM_whomBy_76, fM_whomBy_82, bM_whomBy_0, bM_whomBy_4, bM_whomBy_16, bM_whomBy_27, bM_whomBy_32, bM_whomBy_43, bM_whomBy_46, bM_whomBy_70, bM_whomBy_74, bM_whomBy_75, bM_whomBy_76, bM_whomBy_82, ln_mtold, ln_mtrial, rg_m_12, rg_m_34, ty_m, ty_mtold, ty_mtrial, Option.toList_some, Option.toList_none, List.cons_append, List.nil_append, List.length_cons, List.length_nil, List.mem_cons, List.not_mem_nil, or_false, false_or, or_true, true_or, ↓reduceIte, true_and, and_true, Nat.reduceEqDiff, Nat.reduceAdd, Nat.reduceLeDiff, Nat.reduceLT, dl_i, dl_r, dl_n, dl_u, eq_self, not_true_eq_false, not_false_eq_true, n10, n01, nm0, n0m, imp_t, imp_f]
        refine call0 (c_ones ?_)
        simp only [ixr_of, run_s, run_0, rM_whomBy, rok_i, rok_z, bx_cons, bx_nil, eAND, eC0, eC1, eCS1, eCV0, eCV1, eCm1, eGI, eGO, eGR, eIALD, jICeq, jICge, jIClt, jIFne, eINC3, eLA0, eLI1, eLI2, eLI3, ePI, eRI, eSHL, eSI2, eSI3, eXOR, fM_whomBy_0, fM_whomBy_4, fM_whomBy_16, fM_whomBy_27, fM_whomBy_32, fM_whomBy_43, fM_whomBy_46, fM_whomBy_70, fM_whomBy_74, fM_whomBy_75, fM_whomBy_76, fM_whomBy_82, bM_whomBy_0, bM_whomBy_4, bM_whomBy_16, bM_whomBy_27, bM_whomBy_32, bM_whomBy_43, bM_whomBy_46, bM_whomBy_70, bM_whomBy_74, bM_whomBy_75, bM_whomBy_76, bM_whomBy_82, ln_mtold, ln_mtrial, rg_m_12, rg_m_34, ty_m, ty_mtold, ty_mtrial, Option.toList_some, Option.toList_none, List.cons_append, List.nil_append, List.length_cons, List.length_nil, List.mem_cons, List.not_mem_nil, or_false, false_or, or_true, true_or, ↓reduceIte, true_and, and_true, Nat.reduceEqDiff, Nat.reduceAdd, Nat.reduceLeDiff, Nat.reduceLT, dl_i, dl_r, dl_n, dl_u, eq_self, not_true_eq_false, not_false_eq_true, n10, n01, nm0, n0m, nI_add, imp_t, imp_f]
        refine ⟨fun q3 => ?_, fun q3 => ?_⟩
        · exact main (fun c => c q) (fun c => c.2 q3)
        · rw [if_neg (fun c => c q), if_pos ⟨q2, q3⟩] at ih1; exact ih1
  refine hgo 20 [4] 0 _ _ _ _ _ ?_
  simp only [ixr_of, run_s, run_0, rM_whomBy, rok_i, rok_z, bx_cons, bx_nil, eAND, eC0, eC1, eCS1, eCV0, eCV1, eCm1, eGI, eGO, eGR, eIALD, jICeq, jICge, jIClt, jIFne, eINC3, eLA0, eLI1, eLI2, eLI3, ePI, eRI, eSHL, eSI2, eSI3, eXOR, fM_whomBy_0, fM_whomBy_4, fM_whomBy_16, fM_whomBy_27, fM_whomBy_32, fM_whomBy_43, fM_whomBy_46, fM_whomBy_70, fM_whomBy_74, fM_whomBy_75, fM_whomBy_76, fM_whomBy_82, bM_whomBy_0, bM_whomBy_4, bM_whomBy_16, bM_whomBy_27, bM_whomBy_32, bM_whomBy_43, bM_whomBy_46, bM_whomBy_70, bM_whomBy_74, bM_whomBy_75, bM_whomBy_76, bM_whomBy_82, ln_mtold, ln_mtrial, rg_m_12, rg_m_34, ty_m, ty_mtold, ty_mtrial, Option.toList_some, Option.toList_none, List.cons_append, List.nil_append, List.length_cons, List.length_nil, List.mem_cons, List.not_mem_nil, or_false, false_or, or_true, true_or, ↓reduceIte, true_and, and_true, Nat.reduceEqDiff, Nat.reduceAdd, Nat.reduceLeDiff, Nat.reduceLT, dl_i, dl_r, dl_n, dl_u, eq_self, not_true_eq_false, not_false_eq_true, n10, n01, nm0, n0m, imp_t, imp_f]
  exact loop (2 ^ nV) 0 I (by omega) MP.rf h0
theorem wB_up {nV nC n : Nat} {x : Int32} (h9 : nV ≤ 9) (hC : nC ≤ 20) : ∀ k, wB (up I 500000 0 x) nV nC n k = wB I nV nC n k
  | 0 => rfl
  | k + 1 => by
    unfold wB
    have hM : MP I (up I 500000 0 x) := MP.fl (by unfold scF; omega)
    have e : Pe nV (pmW (up I 500000 0 x) (nI k)) (pmW I (nI k)) := by
      refine ⟨fun v hv => ⟨rfl, ?_, fun h hh => ?_⟩, rfl⟩
      · show coS _ v = coS _ v
        rw [up_n (by decide)]
      · show snG _ v h = snG _ v h
        unfold snG
        rw [up_n (by omega), up_n (by omega)]
    rw [wB_up h9 hC k, gR_t hM.t h9 hC, gR_pe e, up_n (by decide), hM.1 500124 (by decide) (by unfold scA; omega)]
theorem c_whom {x : Int32} {nV nC : Nat} (hV : VS I nV nC) (h1 : ¬ (nI 1 ≤ x ∧ x ≤ nI 60) → kr (some (.int (nI 0))) (ref1 (up I 500000 0 (nI 0)) (nI 1) 1) E)
    (h2 : ∀ n, 1 ≤ n → n ≤ 60 → x = nI n → ∀ J, MP I J → J 500000 0 = nI 0 → kr (some (.int (wB I nV nC n (2 ^ nV)))) J E) : Ex Γ l shN (d + 9) (0, 0) mM_whom [.ref 500000, .int x] I E kr kx := by
  refine ex_of (ls0 := [some (.ref 500000), some (.int x)]) tM_whom (by decide +kernel) kM_whom rfl (Nat.le_of_ble_eq_true rfl) rfl ?_
  intro go hgo
  refine hgo 20 [] 0 _ _ _ _ _ ?_
  simp only [ixr_of, run_s, run_0, rM_whom, rok_i, rok_z, bx_cons, bx_nil, eBP, eC0, eC1, eCS3, eCV1, eCV3, eGO, jIFeq, jIFne, eLA0, eLI1, ePI, eRI, fM_whom_0, fM_whom_16, fM_whom_20, fM_whom_21, fM_whom_29, fM_whom_31, bM_whom_0, bM_whom_16, bM_whom_20, bM_whom_21, bM_whom_29, bM_whom_31, ty_m, Option.toList_some, Option.toList_none, List.cons_append, List.nil_append, List.length_cons, List.length_nil, List.mem_cons, List.not_mem_nil, or_false, false_or, or_true, true_or, ↓reduceIte, true_and, and_true, Nat.reduceEqDiff, Nat.reduceAdd, Nat.reduceLeDiff, Nat.reduceLT, dl_i, dl_r, dl_n, dl_u, eq_self, not_true_eq_false, not_false_eq_true, n10, n01, nm0, n0m, imp_t, imp_f]
  refine call0 (c_in ?_)
  simp only [ixr_of, run_s, run_0, rM_whom, rok_i, rok_z, bx_cons, bx_nil, eBP, eC0, eC1, eCS3, eCV1, eCV3, eGO, jIFeq, jIFne, eLA0, eLI1, ePI, eRI, fM_whom_0, fM_whom_16, fM_whom_20, fM_whom_21, fM_whom_29, fM_whom_31, bM_whom_0, bM_whom_16, bM_whom_20, bM_whom_21, bM_whom_29, bM_whom_31, ty_m, Option.toList_some, Option.toList_none, List.cons_append, List.nil_append, List.length_cons, List.length_nil, List.mem_cons, List.not_mem_nil, or_false, false_or, or_true, true_or, ↓reduceIte, true_and, and_true, Nat.reduceEqDiff, Nat.reduceAdd, Nat.reduceLeDiff, Nat.reduceLT, dl_i, dl_r, dl_n, dl_u, eq_self, not_true_eq_false, not_false_eq_true, n10, n01, nm0, n0m, imp_t, imp_f]
  by_cases hc0 : nI 1 ≤ x ∧ x ≤ nI 60
  rotate_left
  · rw [bi_f hc0]
    refine ⟨fun q => absurd rfl q, fun _ => ?_⟩
    refine call0 (c_bad0 (by decide) (by decide) up_s (fun q => absurd q n10) (fun _ => ?_))
    simp only [ixr_of, run_s, run_0, rM_whom, rok_i, rok_z, bx_cons, bx_nil, eBP, eC0, eC1, eCS3, eCV1, eCV3, eGO, jIFeq, jIFne, eLA0, eLI1, ePI, eRI, fM_whom_0, fM_whom_16, fM_whom_20, fM_whom_21, fM_whom_29, fM_whom_31, bM_whom_0, bM_whom_16, bM_whom_20, bM_whom_21, bM_whom_29, bM_whom_31, ty_m, Option.toList_some, Option.toList_none, List.cons_append, List.nil_append, List.length_cons, List.length_nil, List.mem_cons, List.not_mem_nil, or_false, false_or, or_true, true_or, ↓reduceIte, true_and, and_true, Nat.reduceEqDiff, Nat.reduceAdd, Nat.reduceLeDiff, Nat.reduceLT, dl_i, dl_r, dl_n, dl_u, eq_self, not_true_eq_false, not_false_eq_true, n10, n01, nm0, n0m, imp_t, imp_f]
    exact h1  hc0
  rw [bi_t hc0]
  refine ⟨fun _ => ?_, fun q => absurd q n10⟩
  refine call0 (c_bad0 (by decide) (by decide) up_s (fun _ => ?_) (fun q => absurd rfl q))
  simp only [ixr_of, run_s, run_0, rM_whom, rok_i, rok_z, bx_cons, bx_nil, eBP, eC0, eC1, eCS3, eCV1, eCV3, eGO, jIFeq, jIFne, eLA0, eLI1, ePI, eRI, fM_whom_0, fM_whom_16, fM_whom_20, fM_whom_21, fM_whom_29, fM_whom_31, bM_whom_0, bM_whom_16, bM_whom_20, bM_whom_21, bM_whom_29, bM_whom_31, ty_m, Option.toList_some, Option.toList_none, List.cons_append, List.nil_append, List.length_cons, List.length_nil, List.mem_cons, List.not_mem_nil, or_false, false_or, or_true, true_or, ↓reduceIte, true_and, and_true, Nat.reduceEqDiff, Nat.reduceAdd, Nat.reduceLeDiff, Nat.reduceLT, dl_i, dl_r, dl_n, dl_u, eq_self, not_true_eq_false, not_false_eq_true, n10, n01, nm0, n0m, imp_t, imp_f]
  obtain ⟨n, hn1, hn, rfl⟩ := rng1 (by decide) hc0
  have hM : MP I (up I 500000 0 (nI 0)) := MP.fl (by unfold scF; omega)
  refine call0 (c_whomBy (by omega) (hV.t hM.t) up_s ?_)
  intro J hJ hz
  simp only [ixr_of, run_s, run_0, rM_whom, rok_i, rok_z, bx_cons, bx_nil, eBP, eC0, eC1, eCS3, eCV1, eCV3, eGO, jIFeq, jIFne, eLA0, eLI1, ePI, eRI, fM_whom_0, fM_whom_16, fM_whom_20, fM_whom_21, fM_whom_29, fM_whom_31, bM_whom_0, bM_whom_16, bM_whom_20, bM_whom_21, bM_whom_29, bM_whom_31, ty_m, Option.toList_some, Option.toList_none, List.cons_append, List.nil_append, List.length_cons, List.length_nil, List.mem_cons, List.not_mem_nil, or_false, false_or, or_true, true_or, ↓reduceIte, true_and, and_true, Nat.reduceEqDiff, Nat.reduceAdd, Nat.reduceLeDiff, Nat.reduceLT, dl_i, dl_r, dl_n, dl_u, eq_self, not_true_eq_false, not_false_eq_true, n10, n01, nm0, n0m, imp_t, imp_f]
  rw [wB_up hV.2.1 hV.2.2.2.1]
  exact h2 n hn1 hn rfl J (hM.tr hJ) hz
theorem c_feast {nV nC : Nat} (hV : VS I nV nC) (h1 : ¬ (nI 1 ≤ I 500004 4 - I 500124 501 ∧ I 500004 4 - I 500124 501 ≤ nI 60) → kr (some (.int (-1))) (up I 500000 0 (nI 0)) E)
    (h2 : ∀ n, 1 ≤ n → n ≤ 60 → I 500004 4 - I 500124 501 = nI n → ∀ J, MP I J → J 500000 0 = nI 0 → kr (some (.int (wB I nV nC n (2 ^ nV)))) J E) : Ex Γ l shN (d + 9) (0, 0) mM_feast [.ref 500000] I E kr kx := by
  refine ex_of (ls0 := [some (.ref 500000), none]) tM_feast (by decide +kernel) kM_feast rfl (Nat.le_of_ble_eq_true rfl) rfl ?_
  intro go hgo
  refine hgo 20 [] 0 _ _ _ _ _ ?_
  simp only [ixr_of, run_s, run_0, rM_feast, rok_i, rok_z, bx_cons, bx_nil, eBP, eC0, eC1, eC4, eCS3, eCV1, eCm1, eGO, eGR, eIALD, jIFeq, eLA0, eLI1, ePI, eRI, eSI1, eSP, eSUB, fM_feast_0, fM_feast_31, fM_feast_39, fM_feast_40, bM_feast_0, bM_feast_31, bM_feast_39, bM_feast_40, ln_mnow, ln_mtold, rg_m_12, rg_m_32, ty_m, ty_mnow, ty_mtold, Option.toList_some, Option.toList_none, List.cons_append, List.nil_append, List.length_cons, List.length_nil, List.mem_cons, List.not_mem_nil, or_false, false_or, or_true, true_or, ↓reduceIte, true_and, and_true, Nat.reduceEqDiff, Nat.reduceAdd, Nat.reduceLeDiff, Nat.reduceLT, dl_i, dl_r, dl_n, dl_u, eq_self, not_true_eq_false, not_false_eq_true, n10, n01, nm0, n0m, imp_t, imp_f]
  rw [up_n (by decide), up_n (by decide)]
  refine call0 (c_in ?_)
  simp only [ixr_of, run_s, run_0, rM_feast, rok_i, rok_z, bx_cons, bx_nil, eBP, eC0, eC1, eC4, eCS3, eCV1, eCm1, eGO, eGR, eIALD, jIFeq, eLA0, eLI1, ePI, eRI, eSI1, eSP, eSUB, fM_feast_0, fM_feast_31, fM_feast_39, fM_feast_40, bM_feast_0, bM_feast_31, bM_feast_39, bM_feast_40, ln_mnow, ln_mtold, rg_m_12, rg_m_32, ty_m, ty_mnow, ty_mtold, Option.toList_some, Option.toList_none, List.cons_append, List.nil_append, List.length_cons, List.length_nil, List.mem_cons, List.not_mem_nil, or_false, false_or, or_true, true_or, ↓reduceIte, true_and, and_true, Nat.reduceEqDiff, Nat.reduceAdd, Nat.reduceLeDiff, Nat.reduceLT, dl_i, dl_r, dl_n, dl_u, eq_self, not_true_eq_false, not_false_eq_true, n10, n01, nm0, n0m, imp_t, imp_f]
  rw [bi_0]
  refine ⟨fun q => h1 q, fun q => ?_⟩
  have q' := Decidable.not_not.mp q
  obtain ⟨n, hn1, hn, he⟩ := rng1 (by decide) q'
  rw [he]
  have hM : MP I (up I 500000 0 (nI 0)) := MP.fl (by unfold scF; omega)
  refine call0 (c_whomBy (by omega) (hV.t hM.t) up_s ?_)
  intro J hJ hz
  simp only [ixr_of, run_s, run_0, rM_feast, rok_i, rok_z, bx_cons, bx_nil, eBP, eC0, eC1, eC4, eCS3, eCV1, eCm1, eGO, eGR, eIALD, jIFeq, eLA0, eLI1, ePI, eRI, eSI1, eSP, eSUB, fM_feast_0, fM_feast_31, fM_feast_39, fM_feast_40, bM_feast_0, bM_feast_31, bM_feast_39, bM_feast_40, ln_mnow, ln_mtold, rg_m_12, rg_m_32, ty_m, ty_mnow, ty_mtold, Option.toList_some, Option.toList_none, List.cons_append, List.nil_append, List.length_cons, List.length_nil, List.mem_cons, List.not_mem_nil, or_false, false_or, or_true, true_or, ↓reduceIte, true_and, and_true, Nat.reduceEqDiff, Nat.reduceAdd, Nat.reduceLeDiff, Nat.reduceLT, dl_i, dl_r, dl_n, dl_u, eq_self, not_true_eq_false, not_false_eq_true, n10, n01, nm0, n0m, imp_t, imp_f]
  rw [wB_up hV.2.1 hV.2.2.2.1]
  exact h2 n hn1 hn he J (hM.tr hJ) hz
theorem c_filters {v x y : Int32} {nV nC : Nat} (hV : VS I nV nC) (h1 : ¬ (nI 0 ≤ v ∧ v ≤ I 500004 0 - nI 1) → kr (some (.int (nI 0))) (ref1 (up I 500000 0 (nI 0)) (nI 1) 0) E)
    (h2 : (nI 0 ≤ v ∧ v ≤ I 500004 0 - nI 1) → ¬ ((nI 0 ≤ x ∧ x ≤ nI 2) ∧ (nI 1 ≤ y ∧ y ≤ nI 60)) → kr (some (.int (nI 0))) (ref1 (up I 500000 0 (nI 0)) (nI 2) 1) E)
    (h3 : ∀ w hb n c, w < nV → v = nI w → hb < 3 → x = nI hb → 1 ≤ n → n ≤ 60 → y = nI n → c ≤ 99 → gR I nV nC (plS (I 500000 37), coS (I 500000 38), snM I w hb (nI c), nI 0) (I 500124) n (498 + hb) = nI 0 → (∀ c', c' < c → ¬ gR I nV nC (plS (I 500000 37), coS (I 500000 38), snM I w hb (nI c'), nI 0) (I 500124) n (498 + hb) = nI 0) → ∀ J, MP I J → J 500000 0 = nI 0 → kr (some (.int (nI c))) J E)
    (h4 : ∀ w hb n, w < nV → v = nI w → hb < 3 → x = nI hb → 1 ≤ n → n ≤ 60 → y = nI n → (∀ c', c' ≤ 99 → ¬ gR I nV nC (plS (I 500000 37), coS (I 500000 38), snM I w hb (nI c'), nI 0) (I 500124) n (498 + hb) = nI 0) → ∀ J, MP I J → J 500000 0 = nI 0 → kr (some (.int (-1))) J E) : Ex Γ l shN (d + 8) (0, 0) mM_filters [.ref 500000, .int v, .int x, .int y] I E kr kx := by
  have hV0 := hV
  obtain ⟨hT0, h9, _, hC, _⟩ := hV0
  refine ex_of (ls0 := [some (.ref 500000), some (.int v), some (.int x), some (.int y), none]) tM_filters (by decide +kernel) kM_filters rfl (Nat.le_of_ble_eq_true rfl) rfl ?_
  intro go hgo
  refine hgo 20 [65] 0 _ _ _ _ _ ?_
  simp only [ixr_of, run_s, run_0, rM_filters, rok_i, rok_z, bx_cons, bx_nil, eADD, eBP, eC0, eC1, eC2, eCS3, eCV0, eCV1, eCV3, eCm1, eGO, eGR, eIALD, jICgt, jIFeq, jIFne, eINC4, eLA0, eLI1, eLI2, eLI3, eLI4, ePI, eRI, eSI4, eSP, fM_filters_0, fM_filters_14, fM_filters_18, fM_filters_19, fM_filters_27, fM_filters_37, fM_filters_47, fM_filters_51, fM_filters_52, fM_filters_60, fM_filters_62, fM_filters_65, fM_filters_72, fM_filters_110, fM_filters_113, fM_filters_119, bM_filters_0, bM_filters_14, bM_filters_18, bM_filters_19, bM_filters_27, bM_filters_37, bM_filters_47, bM_filters_51, bM_filters_52, bM_filters_60, bM_filters_62, bM_filters_65, bM_filters_72, bM_filters_110, bM_filters_113, bM_filters_119, ln_mtrial, rg_m_34, ty_m, ty_mtrial, Option.toList_some, Option.toList_none, List.cons_append, List.nil_append, List.length_cons, List.length_nil, List.mem_cons, List.not_mem_nil, or_false, false_or, or_true, true_or, ↓reduceIte, true_and, and_true, Nat.reduceEqDiff, Nat.reduceAdd, Nat.reduceLeDiff, Nat.reduceLT, dl_i, dl_r, dl_n, dl_u, eq_self, not_true_eq_false, not_false_eq_true, n10, n01, nm0, n0m, imp_t, imp_f]
  refine call0 (c_isV ?_)
  simp only [ixr_of, run_s, run_0, rM_filters, rok_i, rok_z, bx_cons, bx_nil, eADD, eBP, eC0, eC1, eC2, eCS3, eCV0, eCV1, eCV3, eCm1, eGO, eGR, eIALD, jICgt, jIFeq, jIFne, eINC4, eLA0, eLI1, eLI2, eLI3, eLI4, ePI, eRI, eSI4, eSP, fM_filters_0, fM_filters_14, fM_filters_18, fM_filters_19, fM_filters_27, fM_filters_37, fM_filters_47, fM_filters_51, fM_filters_52, fM_filters_60, fM_filters_62, fM_filters_65, fM_filters_72, fM_filters_110, fM_filters_113, fM_filters_119, bM_filters_0, bM_filters_14, bM_filters_18, bM_filters_19, bM_filters_27, bM_filters_37, bM_filters_47, bM_filters_51, bM_filters_52, bM_filters_60, bM_filters_62, bM_filters_65, bM_filters_72, bM_filters_110, bM_filters_113, bM_filters_119, ln_mtrial, rg_m_34, ty_m, ty_mtrial, Option.toList_some, Option.toList_none, List.cons_append, List.nil_append, List.length_cons, List.length_nil, List.mem_cons, List.not_mem_nil, or_false, false_or, or_true, true_or, ↓reduceIte, true_and, and_true, Nat.reduceEqDiff, Nat.reduceAdd, Nat.reduceLeDiff, Nat.reduceLT, dl_i, dl_r, dl_n, dl_u, eq_self, not_true_eq_false, not_false_eq_true, n10, n01, nm0, n0m, imp_t, imp_f]
  by_cases hc0 : nI 0 ≤ v ∧ v ≤ I 500004 0 - nI 1
  rotate_left
  · rw [bi_f hc0]
    refine ⟨fun q => absurd rfl q, fun _ => ?_⟩
    refine call0 (c_bad0 (by decide) (by decide) up_s (fun q => absurd q n10) (fun _ => ?_))
    simp only [ixr_of, run_s, run_0, rM_filters, rok_i, rok_z, bx_cons, bx_nil, eADD, eBP, eC0, eC1, eC2, eCS3, eCV0, eCV1, eCV3, eCm1, eGO, eGR, eIALD, jICgt, jIFeq, jIFne, eINC4, eLA0, eLI1, eLI2, eLI3, eLI4, ePI, eRI, eSI4, eSP, fM_filters_0, fM_filters_14, fM_filters_18, fM_filters_19, fM_filters_27, fM_filters_37, fM_filters_47, fM_filters_51, fM_filters_52, fM_filters_60, fM_filters_62, fM_filters_65, fM_filters_72, fM_filters_110, fM_filters_113, fM_filters_119, bM_filters_0, bM_filters_14, bM_filters_18, bM_filters_19, bM_filters_27, bM_filters_37, bM_filters_47, bM_filters_51, bM_filters_52, bM_filters_60, bM_filters_62, bM_filters_65, bM_filters_72, bM_filters_110, bM_filters_113, bM_filters_119, ln_mtrial, rg_m_34, ty_m, ty_mtrial, Option.toList_some, Option.toList_none, List.cons_append, List.nil_append, List.length_cons, List.length_nil, List.mem_cons, List.not_mem_nil, or_false, false_or, or_true, true_or, ↓reduceIte, true_and, and_true, Nat.reduceEqDiff, Nat.reduceAdd, Nat.reduceLeDiff, Nat.reduceLT, dl_i, dl_r, dl_n, dl_u, eq_self, not_true_eq_false, not_false_eq_true, n10, n01, nm0, n0m, imp_t, imp_f]
    exact h1  hc0
  rw [bi_t hc0]
  refine ⟨fun _ => ?_, fun q => absurd q n10⟩
  refine call0 (c_bad0 (by decide) (by decide) up_s (fun _ => ?_) (fun q => absurd rfl q))
  simp only [ixr_of, run_s, run_0, rM_filters, rok_i, rok_z, bx_cons, bx_nil, eADD, eBP, eC0, eC1, eC2, eCS3, eCV0, eCV1, eCV3, eCm1, eGO, eGR, eIALD, jICgt, jIFeq, jIFne, eINC4, eLA0, eLI1, eLI2, eLI3, eLI4, ePI, eRI, eSI4, eSP, fM_filters_0, fM_filters_14, fM_filters_18, fM_filters_19, fM_filters_27, fM_filters_37, fM_filters_47, fM_filters_51, fM_filters_52, fM_filters_60, fM_filters_62, fM_filters_65, fM_filters_72, fM_filters_110, fM_filters_113, fM_filters_119, bM_filters_0, bM_filters_14, bM_filters_18, bM_filters_19, bM_filters_27, bM_filters_37, bM_filters_47, bM_filters_51, bM_filters_52, bM_filters_60, bM_filters_62, bM_filters_65, bM_filters_72, bM_filters_110, bM_filters_113, bM_filters_119, ln_mtrial, rg_m_34, ty_m, ty_mtrial, Option.toList_some, Option.toList_none, List.cons_append, List.nil_append, List.length_cons, List.length_nil, List.mem_cons, List.not_mem_nil, or_false, false_or, or_true, true_or, ↓reduceIte, true_and, and_true, Nat.reduceEqDiff, Nat.reduceAdd, Nat.reduceLeDiff, Nat.reduceLT, dl_i, dl_r, dl_n, dl_u, eq_self, not_true_eq_false, not_false_eq_true, n10, n01, nm0, n0m, imp_t, imp_f]
  refine call0 (c_in ?_)
  simp only [ixr_of, run_s, run_0, rM_filters, rok_i, rok_z, bx_cons, bx_nil, eADD, eBP, eC0, eC1, eC2, eCS3, eCV0, eCV1, eCV3, eCm1, eGO, eGR, eIALD, jICgt, jIFeq, jIFne, eINC4, eLA0, eLI1, eLI2, eLI3, eLI4, ePI, eRI, eSI4, eSP, fM_filters_0, fM_filters_14, fM_filters_18, fM_filters_19, fM_filters_27, fM_filters_37, fM_filters_47, fM_filters_51, fM_filters_52, fM_filters_60, fM_filters_62, fM_filters_65, fM_filters_72, fM_filters_110, fM_filters_113, fM_filters_119, bM_filters_0, bM_filters_14, bM_filters_18, bM_filters_19, bM_filters_27, bM_filters_37, bM_filters_47, bM_filters_51, bM_filters_52, bM_filters_60, bM_filters_62, bM_filters_65, bM_filters_72, bM_filters_110, bM_filters_113, bM_filters_119, ln_mtrial, rg_m_34, ty_m, ty_mtrial, Option.toList_some, Option.toList_none, List.cons_append, List.nil_append, List.length_cons, List.length_nil, List.mem_cons, List.not_mem_nil, or_false, false_or, or_true, true_or, ↓reduceIte, true_and, and_true, Nat.reduceEqDiff, Nat.reduceAdd, Nat.reduceLeDiff, Nat.reduceLT, dl_i, dl_r, dl_n, dl_u, eq_self, not_true_eq_false, not_false_eq_true, n10, n01, nm0, n0m, imp_t, imp_f]
  by_cases hc1 : nI 0 ≤ x ∧ x ≤ nI 2
  rotate_left
  · rw [bi_f hc1]
    refine ⟨fun _ => ?_, fun q => absurd rfl q⟩
    refine call0 (c_bad0 (by decide) (by decide) up_s (fun q => absurd q n10) (fun _ => ?_))
    simp only [ixr_of, run_s, run_0, rM_filters, rok_i, rok_z, bx_cons, bx_nil, eADD, eBP, eC0, eC1, eC2, eCS3, eCV0, eCV1, eCV3, eCm1, eGO, eGR, eIALD, jICgt, jIFeq, jIFne, eINC4, eLA0, eLI1, eLI2, eLI3, eLI4, ePI, eRI, eSI4, eSP, fM_filters_0, fM_filters_14, fM_filters_18, fM_filters_19, fM_filters_27, fM_filters_37, fM_filters_47, fM_filters_51, fM_filters_52, fM_filters_60, fM_filters_62, fM_filters_65, fM_filters_72, fM_filters_110, fM_filters_113, fM_filters_119, bM_filters_0, bM_filters_14, bM_filters_18, bM_filters_19, bM_filters_27, bM_filters_37, bM_filters_47, bM_filters_51, bM_filters_52, bM_filters_60, bM_filters_62, bM_filters_65, bM_filters_72, bM_filters_110, bM_filters_113, bM_filters_119, ln_mtrial, rg_m_34, ty_m, ty_mtrial, Option.toList_some, Option.toList_none, List.cons_append, List.nil_append, List.length_cons, List.length_nil, List.mem_cons, List.not_mem_nil, or_false, false_or, or_true, true_or, ↓reduceIte, true_and, and_true, Nat.reduceEqDiff, Nat.reduceAdd, Nat.reduceLeDiff, Nat.reduceLT, dl_i, dl_r, dl_n, dl_u, eq_self, not_true_eq_false, not_false_eq_true, n10, n01, nm0, n0m, imp_t, imp_f]
    exact h2 hc0 (fun q => hc1 q.1)
  rw [bi_t hc1]
  refine ⟨fun q => absurd q n10, fun _ => ?_⟩
  refine call0 (c_in ?_)
  simp only [ixr_of, run_s, run_0, rM_filters, rok_i, rok_z, bx_cons, bx_nil, eADD, eBP, eC0, eC1, eC2, eCS3, eCV0, eCV1, eCV3, eCm1, eGO, eGR, eIALD, jICgt, jIFeq, jIFne, eINC4, eLA0, eLI1, eLI2, eLI3, eLI4, ePI, eRI, eSI4, eSP, fM_filters_0, fM_filters_14, fM_filters_18, fM_filters_19, fM_filters_27, fM_filters_37, fM_filters_47, fM_filters_51, fM_filters_52, fM_filters_60, fM_filters_62, fM_filters_65, fM_filters_72, fM_filters_110, fM_filters_113, fM_filters_119, bM_filters_0, bM_filters_14, bM_filters_18, bM_filters_19, bM_filters_27, bM_filters_37, bM_filters_47, bM_filters_51, bM_filters_52, bM_filters_60, bM_filters_62, bM_filters_65, bM_filters_72, bM_filters_110, bM_filters_113, bM_filters_119, ln_mtrial, rg_m_34, ty_m, ty_mtrial, Option.toList_some, Option.toList_none, List.cons_append, List.nil_append, List.length_cons, List.length_nil, List.mem_cons, List.not_mem_nil, or_false, false_or, or_true, true_or, ↓reduceIte, true_and, and_true, Nat.reduceEqDiff, Nat.reduceAdd, Nat.reduceLeDiff, Nat.reduceLT, dl_i, dl_r, dl_n, dl_u, eq_self, not_true_eq_false, not_false_eq_true, n10, n01, nm0, n0m, imp_t, imp_f]
  by_cases hc2 : nI 1 ≤ y ∧ y ≤ nI 60
  rotate_left
  · rw [bi_f hc2]
    refine ⟨fun q => absurd rfl q, fun _ => ?_⟩
    refine call0 (c_bad0 (by decide) (by decide) up_s (fun q => absurd q n10) (fun _ => ?_))
    simp only [ixr_of, run_s, run_0, rM_filters, rok_i, rok_z, bx_cons, bx_nil, eADD, eBP, eC0, eC1, eC2, eCS3, eCV0, eCV1, eCV3, eCm1, eGO, eGR, eIALD, jICgt, jIFeq, jIFne, eINC4, eLA0, eLI1, eLI2, eLI3, eLI4, ePI, eRI, eSI4, eSP, fM_filters_0, fM_filters_14, fM_filters_18, fM_filters_19, fM_filters_27, fM_filters_37, fM_filters_47, fM_filters_51, fM_filters_52, fM_filters_60, fM_filters_62, fM_filters_65, fM_filters_72, fM_filters_110, fM_filters_113, fM_filters_119, bM_filters_0, bM_filters_14, bM_filters_18, bM_filters_19, bM_filters_27, bM_filters_37, bM_filters_47, bM_filters_51, bM_filters_52, bM_filters_60, bM_filters_62, bM_filters_65, bM_filters_72, bM_filters_110, bM_filters_113, bM_filters_119, ln_mtrial, rg_m_34, ty_m, ty_mtrial, Option.toList_some, Option.toList_none, List.cons_append, List.nil_append, List.length_cons, List.length_nil, List.mem_cons, List.not_mem_nil, or_false, false_or, or_true, true_or, ↓reduceIte, true_and, and_true, Nat.reduceEqDiff, Nat.reduceAdd, Nat.reduceLeDiff, Nat.reduceLT, dl_i, dl_r, dl_n, dl_u, eq_self, not_true_eq_false, not_false_eq_true, n10, n01, nm0, n0m, imp_t, imp_f]
    exact h2 hc0 (fun q => hc2 q.2)
  rw [bi_t hc2]
  refine ⟨fun _ => ?_, fun q => absurd q n10⟩
  refine call0 (c_bad0 (by decide) (by decide) up_s (fun _ => ?_) (fun q => absurd rfl q))
  simp only [ixr_of, run_s, run_0, rM_filters, rok_i, rok_z, bx_cons, bx_nil, eADD, eBP, eC0, eC1, eC2, eCS3, eCV0, eCV1, eCV3, eCm1, eGO, eGR, eIALD, jICgt, jIFeq, jIFne, eINC4, eLA0, eLI1, eLI2, eLI3, eLI4, ePI, eRI, eSI4, eSP, fM_filters_0, fM_filters_14, fM_filters_18, fM_filters_19, fM_filters_27, fM_filters_37, fM_filters_47, fM_filters_51, fM_filters_52, fM_filters_60, fM_filters_62, fM_filters_65, fM_filters_72, fM_filters_110, fM_filters_113, fM_filters_119, bM_filters_0, bM_filters_14, bM_filters_18, bM_filters_19, bM_filters_27, bM_filters_37, bM_filters_47, bM_filters_51, bM_filters_52, bM_filters_60, bM_filters_62, bM_filters_65, bM_filters_72, bM_filters_110, bM_filters_113, bM_filters_119, ln_mtrial, rg_m_34, ty_m, ty_mtrial, Option.toList_some, Option.toList_none, List.cons_append, List.nil_append, List.length_cons, List.length_nil, List.mem_cons, List.not_mem_nil, or_false, false_or, or_true, true_or, ↓reduceIte, true_and, and_true, Nat.reduceEqDiff, Nat.reduceAdd, Nat.reduceLeDiff, Nat.reduceLT, dl_i, dl_r, dl_n, dl_u, eq_self, not_true_eq_false, not_false_eq_true, n10, n01, nm0, n0m, imp_t, imp_f]
  obtain ⟨n, hn1, hn, rfl⟩ := rng1 (by decide) hc2
  obtain ⟨hb, hhb, rfl⟩ := rng (by decide) hc1
  obtain ⟨w, hw, rfl⟩ := isV_n hT0 h9 hc0
  have h4 := h4 w hb n hw rfl (by omega) rfl hn1 hn rfl
  have h3 := fun c => h3 w hb n c hw rfl (by omega) rfl hn1 hn rfl
  have loop : ∀ (g k : Nat) (J : Iv), g + k = 100 → MP I J → J 500000 0 = nI 0 → (∀ c', c' < k → ¬ gR I nV nC (plS (I 500000 37), coS (I 500000 38), snM I w hb (nI c'), nI 0) (I 500124) n (498 + hb) = nI 0) → go 65 [some (.ref 500000), some (.int (nI w)), some (.int (nI hb)), some (.int (nI n)), some (.int (nI k))] [] J E (0, 0) := by
    intro g
    induction g with
    | zero =>
      intro k J hk hM hz hno
      have : k = 100 := by omega
      subst this
      refine hgo 20 [65] 65 _ _ _ _ _ ?_
      simp only [ixr_of, run_s, run_0, rM_filters, rok_i, rok_z, bx_cons, bx_nil, eADD, eBP, eC0, eC1, eC2, eCS3, eCV0, eCV1, eCV3, eCm1, eGO, eGR, eIALD, jICgt, jIFeq, jIFne, eINC4, eLA0, eLI1, eLI2, eLI3, eLI4, ePI, eRI, eSI4, eSP, fM_filters_0, fM_filters_14, fM_filters_18, fM_filters_19, fM_filters_27, fM_filters_37, fM_filters_47, fM_filters_51, fM_filters_52, fM_filters_60, fM_filters_62, fM_filters_65, fM_filters_72, fM_filters_110, fM_filters_113, fM_filters_119, bM_filters_0, bM_filters_14, bM_filters_18, bM_filters_19, bM_filters_27, bM_filters_37, bM_filters_47, bM_filters_51, bM_filters_52, bM_filters_60, bM_filters_62, bM_filters_65, bM_filters_72, bM_filters_110, bM_filters_113, bM_filters_119, ln_mtrial, rg_m_34, ty_m, ty_mtrial, Option.toList_some, Option.toList_none, List.cons_append, List.nil_append, List.length_cons, List.length_nil, List.mem_cons, List.not_mem_nil, or_false, false_or, or_true, true_or, ↓reduceIte, true_and, and_true, Nat.reduceEqDiff, Nat.reduceAdd, Nat.reduceLeDiff, Nat.reduceLT, dl_i, dl_r, dl_n, dl_u, eq_self, not_true_eq_false, not_false_eq_true, n10, n01, nm0, n0m, nIs, imp_t, imp_f]
      exact h4 (fun c' hc => hno c' (by omega)) J hM hz
    | succ g ih =>
      intro k J hk hM hz hno
      refine hgo 20 [65] 65 _ _ _ _ _ ?_
      simp only [ixr_of, run_s, run_0, rM_filters, rok_i, rok_z, bx_cons, bx_nil, eADD, eBP, eC0, eC1, eC2, eCS3, eCV0, eCV1, eCV3, eCm1, eGO, eGR, eIALD, jICgt, jIFeq, jIFne, eINC4, eLA0, eLI1, eLI2, eLI3, eLI4, ePI, eRI, eSI4, eSP, fM_filters_0, fM_filters_14, fM_filters_18, fM_filters_19, fM_filters_27, fM_filters_37, fM_filters_47, fM_filters_51, fM_filters_52, fM_filters_60, fM_filters_62, fM_filters_65, fM_filters_72, fM_filters_110, fM_filters_113, fM_filters_119, bM_filters_0, bM_filters_14, bM_filters_18, bM_filters_19, bM_filters_27, bM_filters_37, bM_filters_47, bM_filters_51, bM_filters_52, bM_filters_60, bM_filters_62, bM_filters_65, bM_filters_72, bM_filters_110, bM_filters_113, bM_filters_119, ln_mtrial, rg_m_34, ty_m, ty_mtrial, Option.toList_some, Option.toList_none, List.cons_append, List.nil_append, List.length_cons, List.length_nil, List.mem_cons, List.not_mem_nil, or_false, false_or, or_true, true_or, ↓reduceIte, true_and, and_true, Nat.reduceEqDiff, Nat.reduceAdd, Nat.reduceLeDiff, Nat.reduceLT, dl_i, dl_r, dl_n, dl_u, eq_self, not_true_eq_false, not_false_eq_true, n10, n01, nm0, n0m, imp_t, imp_f]
      rw [nI_ltI (by omega) (by omega)]
      refine ⟨fun q => absurd q (by omega), fun _ => ?_⟩
      refine call0 (c_asN ?_)
      simp only [ixr_of, run_s, run_0, rM_filters, rok_i, rok_z, bx_cons, bx_nil, eADD, eBP, eC0, eC1, eC2, eCS3, eCV0, eCV1, eCV3, eCm1, eGO, eGR, eIALD, jICgt, jIFeq, jIFne, eINC4, eLA0, eLI1, eLI2, eLI3, eLI4, ePI, eRI, eSI4, eSP, fM_filters_0, fM_filters_14, fM_filters_18, fM_filters_19, fM_filters_27, fM_filters_37, fM_filters_47, fM_filters_51, fM_filters_52, fM_filters_60, fM_filters_62, fM_filters_65, fM_filters_72, fM_filters_110, fM_filters_113, fM_filters_119, bM_filters_0, bM_filters_14, bM_filters_18, bM_filters_19, bM_filters_27, bM_filters_37, bM_filters_47, bM_filters_51, bM_filters_52, bM_filters_60, bM_filters_62, bM_filters_65, bM_filters_72, bM_filters_110, bM_filters_113, bM_filters_119, ln_mtrial, rg_m_34, ty_m, ty_mtrial, Option.toList_some, Option.toList_none, List.cons_append, List.nil_append, List.length_cons, List.length_nil, List.mem_cons, List.not_mem_nil, or_false, false_or, or_true, true_or, ↓reduceIte, true_and, and_true, Nat.reduceEqDiff, Nat.reduceAdd, Nat.reduceLeDiff, Nat.reduceLT, dl_i, dl_r, dl_n, dl_u, eq_self, not_true_eq_false, not_false_eq_true, n10, n01, nm0, n0m, imp_t, imp_f]
      obtain ⟨K, hK⟩ : ∃ K, K = up (up (up (asN J) 500000 43 (nI w)) 500000 44 (nI hb)) 500000 45 (nI k) := ⟨_, rfl⟩
      have hMK : MP I K := by rw [hK]; exact (((hM.tr MP.as).tr (MP.fl (by unfold scF; omega))).tr (MP.fl (by unfold scF; omega))).tr (MP.fl (by unfold scF; omega))
      obtain ⟨a1, a2, a3, a4, a5, a6⟩ := as1 J
      have hPK : Pe nV (pmI K) (plS (I 500000 37), coS (I 500000 38), snM I w hb (nI k), nI 0) := by
        refine pm_fi h9 (by omega) (by omega) hMK.t (hMK.1 _ (by decide) (by unfold scA; omega)) ?_ ?_ ?_ ?_ ?_ ?_ ?_ ?_ <;> rw [hK]
        · rw [up_n (by decide), up_n (by decide), up_n (by decide), a1, hM.2 _ (by unfold scF; omega)]
        · rw [up_n (by decide), up_n (by decide), up_n (by decide), a2, hM.2 _ (by unfold scF; omega)]
        · rw [up_n (by decide), up_n (by decide), up_n (by decide), a3]
        · rw [up_n (by decide), up_n (by decide), up_n (by decide), a4]
        · rw [up_n (by decide), up_n (by decide), up_s]
        · rw [up_n (by decide), up_n (by decide), up_n (by decide), a6]
        · rw [up_n (by decide), up_s]
        · rw [up_s]
      have hzK : K 500000 0 = nI 0 := by rw [hK, up_n (by decide), up_n (by decide), up_n (by decide), asN_n (Or.inr (by decide)), hz]
      rw [← hK]
      refine call0 (c_goesOn2 (by omega) (hV.t hMK.t) hPK rfl ?_)
      intro L hf hr
      have hi : 498 + hb < 502 := by omega
      simp only [ixr_of, run_s, run_0, rM_filters, rok_i, rok_z, bx_cons, bx_nil, eADD, eBP, eC0, eC1, eC2, eCS3, eCV0, eCV1, eCV3, eCm1, eGO, eGR, eIALD, jICgt, jIFeq, jIFne, eINC4, eLA0, eLI1, eLI2, eLI3, eLI4, ePI, eRI, eSI4, eSP, fM_filters_0, fM_filters_14, fM_filters_18, fM_filters_19, fM_filters_27, fM_filters_37, fM_filters_47, fM_filters_51, fM_filters_52, fM_filters_60, fM_filters_62, fM_filters_65, fM_filters_72, fM_filters_110, fM_filters_113, fM_filters_119, bM_filters_0, bM_filters_14, bM_filters_18, bM_filters_19, bM_filters_27, bM_filters_37, bM_filters_47, bM_filters_51, bM_filters_52, bM_filters_60, bM_filters_62, bM_filters_65, bM_filters_72, bM_filters_110, bM_filters_113, bM_filters_119, ln_mtrial, rg_m_34, ty_m, ty_mtrial, Option.toList_some, Option.toList_none, List.cons_append, List.nil_append, List.length_cons, List.length_nil, List.mem_cons, List.not_mem_nil, or_false, false_or, or_true, true_or, ↓reduceIte, true_and, and_true, Nat.reduceEqDiff, Nat.reduceAdd, Nat.reduceLeDiff, Nat.reduceLT, dl_i, dl_r, dl_n, dl_u, eq_self, not_true_eq_false, not_false_eq_true, n10, n01, nm0, n0m, nI_add, hi, imp_t, imp_f]
      rw [hr, gR_t hMK.t h9 hC, hMK.1 500124 (by decide) (by unfold scA; omega)]
      have hzL : L 500000 0 = nI 0 := by rw [hf.2 _ (by decide), hzK]
      refine ⟨fun q => ih (k + 1) L (by omega) (hMK.tr (MP.fr hf)) hzL (fun c' hc => ?_), fun q => h3 k (by omega) q hno L (hMK.tr (MP.fr hf)) hzL⟩
      by_cases e : c' = k
      · subst e; exact q
      · exact hno c' (by omega)
  exact loop 100 0 _ (by omega) (MP.fl (by unfold scF; omega)) up_s (fun c' hc => by omega)
end CM17
