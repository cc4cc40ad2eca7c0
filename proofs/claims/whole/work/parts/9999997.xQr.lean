/-! tasters: the minds studied -/
noncomputable def rtB (I : Iv) (nV nC : Nat) (bk : List (Nat × Nat)) (s : Nat) : Bool := @decide (∀ p ∈ bk, LnP I nV nC (nI s) p) (Classical.propDecidable _)
theorem rtB_i {I : Iv} {nV nC s : Nat} {bk : List (Nat × Nat)} : rtB I nV nC bk s = true ↔ ∀ p ∈ bk, LnP I nV nC (nI s) p := by
  unfold rtB
  exact @decide_eq_true_iff _ (Classical.propDecidable _)
theorem rtB_D {I : Iv} {S : Tn} {PS : Nat → List Pt} {bk : List (Nat × Nat)} (hS : TnV S) (hO : MO I S.1.1 PS) : ∀ s, s < 2 ^ S.1.1 → rtB I S.1.1 S.1.2 bk s = rtB I S.1.1 S.1.2 bk (s &&& puF PS 3 S.1.1) := by
  intro s hs
  have s9 := hS.1
  have h512 := p2_512 s9
  have hle : s &&& puF PS 3 S.1.1 ≤ s := Nat.and_le_left
  have hPu : Pu I S.1.1 (pmB I (nI s)) (pmB I (nI (s &&& puF PS 3 S.1.1))) := by
    refine ⟨fun v hv => ⟨Or.inl ⟨rfl, ?_⟩, fun h _ => rfl⟩, rfl⟩
    have hl := (hO v hv).1
    have hl6 := (hO v hv).2.2.2.2.2
    by_cases q : hbs (PS v) &&& 3 = 0
    · right
      intro p hp
      rw [hl, nI_clamp (by omega)] at hp
      obtain ⟨x, -, hm, -, e, -⟩ := hO.h3 hv hp
      rw [e]
      have h3 := hbs_H q x hm
      intro c
      have : ∀ k, k < 2 → (3 : Nat).testBit k = true := by decide
      rw [this _ c] at h3
      cases h3
    · left
      show coS (nI s) v = coS (nI (s &&& puF PS 3 S.1.1)) v
      rw [coS_N (by omega) (by omega), coS_N (by omega) (by omega), Nat.testBit_and, puF_t, decide_eq_true hv, decide_eq_true q, Bool.true_and, Bool.and_true]
  have e : ∀ p, LnP I S.1.1 S.1.2 (nI s) p = LnP I S.1.1 S.1.2 (nI (s &&& puF PS 3 S.1.1)) p := fun p => by
    unfold LnP vwB
    rw [gR_pu hPu]
  have : rtB I S.1.1 S.1.2 bk s = true ↔ rtB I S.1.1 S.1.2 bk (s &&& puF PS 3 S.1.1) = true := by
    rw [rtB_i, rtB_i]
    simp only [e]
  cases h1 : rtB I S.1.1 S.1.2 bk s <;> cases h2 : rtB I S.1.1 S.1.2 bk (s &&& puF PS 3 S.1.1) <;> simp [h1, h2] at this ⊢
/-- the minds as the tasters keep them -/
def StF (I : Iv) (S : Tn) (bk : List (Nat × Nat)) (J : Iv) : Prop := J 58 5 = nI (mdF (rtB I S.1.1 S.1.2 bk) (nI (2 ^ S.1.1 - 1)) (2 ^ S.1.1)).1 ∧ J 58 6 = (mdF (rtB I S.1.1 S.1.2 bk) (nI (2 ^ S.1.1 - 1)) (2 ^ S.1.1)).2.1 ∧ J 58 7 = (if (mdF (rtB I S.1.1 S.1.2 bk) (nI (2 ^ S.1.1 - 1)) (2 ^ S.1.1)).1 = 0 then nI 0 else (mdF (rtB I S.1.1 S.1.2 bk) (nI (2 ^ S.1.1 - 1)) (2 ^ S.1.1)).2.2.1) ∧ J 58 8 = (if (mdF (rtB I S.1.1 S.1.2 bk) (nI (2 ^ S.1.1 - 1)) (2 ^ S.1.1)).1 = 0 then nI 0 else nI (2 ^ S.1.1 - 1) &&& ((mdF (rtB I S.1.1 S.1.2 bk) (nI (2 ^ S.1.1 - 1)) (2 ^ S.1.1)).2.2.2 ^^^ -1))
theorem XT.up {k : Nat} {x : Int32} {J K : Iv} (h : XT J K) : XT J (up K 58 k x) := fun a h3 h4 h5 => by
  rw [← h a h3 h4 h5]
  funext q
  exact up_n (by omega)
section XQr
variable {Γ : Gm} {l : Launch} {b : Bool} {d : Nat} {I J : Iv} {E : Ev} {kr : Kr} {kx : Kxx} {y t n kb : Nat} {S : Tn} {PS : Nat → List Pt} {op : Nat → Nat} {bk : List (Nat × Nat)}
theorem BkE.xt {K : Iv} (h : BkE b E J kb bk) (hX : XT J K) : BkE b E K kb bk := by
  obtain ⟨h1, h2, ⟨x1, x2, x3⟩, h4⟩ := h
  have e : ∀ i, kb ≤ i → i ≤ kb + 2 → K i = J i := fun i a c => by
    unfold idB at h2
    exact hX i (by omega) (by omega) (idV_n (by omega))
  exact ⟨h1, h2, ⟨by rw [e kb (by omega) (by omega)]; exact x1, by rw [e kb (by omega) (by omega)]; exact x2, fun i x hx => by rw [e (kb + 1) (by omega) (by omega), e (kb + 2) (by omega) (by omega)]; exact x3 i x hx⟩, h4⟩
theorem x_study (hG : GX Γ) (hA : TwR b J E S PS t op) (hB : BkE b E J kb bk) (hI : SayT I J) (hBg : BgM I S) (hst : J 58 4 = nI 0 ∨ (J 58 4 = nI 1 ∧ StF I S bk J))
    (hk : ∀ K, XT J K → K 58 4 = nI 1 → StF I S bk K → kr none K E) : Ex Γ l (shB b) (d + 7) (0, 0) mTs_study [.ref 58] J E kr kx := by
  refine ex_of (ls0 := [some (.ref 58), none, none, none, none, none]) tTs_study (by decide +kernel) kTs_study rfl (Nat.le_of_ble_eq_true rfl) rfl ?_
  intro go hgo
  have hS := hA.1.2.2.2.1
  have s9 := hS.1
  have h512 := p2_512 s9
  have hpos : 0 < 2 ^ S.1.1 := Nat.two_pow_pos _
  obtain ⟨r3, hT, hXt, -⟩ := id hA.1
  have tT : tyc (shB b) E t = 10 := (hT.A (b := b) (E := E)).1
  have hO : MO I S.1.1 PS := hA.2.2.2.t s9 hI.sm
  obtain ⟨D, hD⟩ : ∃ D, D = puF PS 3 S.1.1 := ⟨_, rfl⟩
  have hDl : D < 2 ^ S.1.1 := by rw [hD]; exact puF_lt _
  obtain ⟨rt, hrt⟩ : ∃ rt, rt = rtB I S.1.1 S.1.2 bk := ⟨_, rfl⟩
  have hq : ∀ s, s < 2 ^ S.1.1 → rt s = rt (s &&& D) := by rw [hrt, hD]; exact rtB_D hS hO
  obtain ⟨m1, m2, m3⟩ := md_D s9 hDl hq
  obtain ⟨x1, x2, x3⟩ := xor_D s9 hDl
  have hex : exD D S.1.1 ≤ 9 := by
    have := smN_k (f := fun i => if D.testBit i = true then 0 else 1) (b := 1) S.1.1 (fun k _ => by split <;> omega)
    unfold exD
    omega
  rcases hst with h4 | ⟨h4, hF⟩
  · have loop : ∀ (g k : Nat) (K : Iv), g + k = 2 ^ S.1.1 → XT J K → K 58 4 = nI 1 → K 58 5 = nI (mdF (rtD rt D) (nI (2 ^ S.1.1 - 1)) k).1 → K 58 6 = (mdF (rtD rt D) (nI (2 ^ S.1.1 - 1)) k).2.1 → go 51 [some (.ref 58), some (.int (nI (2 ^ S.1.1 - 1))), some (.int (nI D)), some (.int (mdF (rtD rt D) (nI (2 ^ S.1.1 - 1)) k).2.2.1), some (.int (mdF (rtD rt D) (nI (2 ^ S.1.1 - 1)) k).2.2.2), some (.int (nI k))] [] K E (0, 0) := by
      intro g
      induction g with
      | zero =>
        intro k K hg hX k4 k5 k6
        have : k = 2 ^ S.1.1 := by omega
        subst this
        have hle := mdF_le (rt := rtD rt D) (all := nI (2 ^ S.1.1 - 1)) (2 ^ S.1.1)
        have c2 : (nI (2 ^ S.1.1 - 1) < nI (2 ^ S.1.1)) = True := by rw [nIt (by omega) (by omega)]; exact eq_true (by omega)
        generalize mdF (rtD rt D) (nI (2 ^ S.1.1 - 1)) (2 ^ S.1.1) = Q at *
        have hQ0 : (nI Q.1 = nI 0) = (Q.1 = 0) := nIe (by omega) (by decide)
        have hp2 : 2 ^ exD D S.1.1 ≤ 2 ^ 9 := Nat.pow_le_pow_right (by decide) hex
        have hmul : Q.1 * 2 ^ exD D S.1.1 ≤ 512 * 512 := Nat.mul_le_mul (by omega) (by omega)
        have sh : nI Q.1 <<< (nI (exD D S.1.1) &&& 31) = nI (Q.1 * 2 ^ exD D S.1.1) := pk_shlN _ _ (s_l9 _ (by omega)) (by omega)
        have hz : (mdF rt (nI (2 ^ S.1.1 - 1)) (2 ^ S.1.1)).1 = 0 ↔ Q.1 = 0 := by
          rw [m1]
          constructor
          · intro z
            rcases Nat.mul_eq_zero.mp z with e | e
            · exact e
            · have := Nat.two_pow_pos (exD D S.1.1); omega
          · intro z; rw [z, Nat.zero_mul]
        have fin : ∀ (L : Iv) (x8 : Int32), XT J L → L 58 4 = nI 1 → L 58 5 = nI Q.1 → L 58 6 = Q.2.1 → L 58 7 = (if Q.1 = 0 then nI 0 else Q.2.2.1) → x8 = (if Q.1 = 0 then nI 0 else nI D &&& (Q.2.2.2 ^^^ -1)) → go 156 [some (.ref 58), some (.int (nI (2 ^ S.1.1 - 1))), some (.int (nI D)), some (.int Q.2.2.1), some (.int Q.2.2.2), some (.int (nI (2 ^ S.1.1)))] [.int x8, .ref 58] L E (0, 0) := by
          intro L x8 hXL l4 l5 l6 l7 l8
          have l5' : up L 58 8 x8 58 5 = nI Q.1 := by rw [up_n (by omega)]; exact l5
          refine hgo 20 [51, 91, 116, 122, 135] 156 _ _ _ _ _ ?_
          simp only [ixr_of, run_s, run_0, rTs_study, rok_i, rok_z, bx_cons, bx_nil, eADD, eAND, eC0, eC1, eC3, eCS1, eCV0, eCV1, eCm1, eDUPr, eGI, eGO, eGR, jICgt, jICne, jIFeq, jIFne, eINC5, eLA0, eLI1, eLI2, eLI3, eLI4, eLI5, eOR, ePI, ePZ, eRV, eSHL, eSI1, eSI2, eSI3, eSI4, eSI5, eXOR, fTs_study_0, fTs_study_7, fTs_study_8, fTs_study_51, fTs_study_57, fTs_study_65, fTs_study_74, fTs_study_82, fTs_study_87, fTs_study_91, fTs_study_116, fTs_study_122, fTs_study_130, fTs_study_134, fTs_study_135, fTs_study_146, fTs_study_150, fTs_study_156, bTs_study_0, bTs_study_7, bTs_study_8, bTs_study_51, bTs_study_57, bTs_study_65, bTs_study_74, bTs_study_82, bTs_study_87, bTs_study_91, bTs_study_116, bTs_study_122, bTs_study_130, bTs_study_134, bTs_study_135, bTs_study_146, bTs_study_150, bTs_study_156, ln_xpatterns, rg_xtasters_0, rg_xtasters_1, rg_xtasters_2, ty_xaqueduct, ty_xpatterns, ty_xtasters, ty_xttrial, Option.toList_some, Option.toList_none, List.cons_append, List.nil_append, List.length_cons, List.length_nil, List.mem_cons, List.not_mem_nil, or_false, false_or, or_true, true_or, ↓reduceIte, true_and, and_true, Nat.reduceEqDiff, Nat.reduceAdd, Nat.reduceLeDiff, Nat.reduceLT, dl_i, dl_r, dl_n, dl_u, eq_self, not_true_eq_false, not_false_eq_true, n10, n01, nm0, n0m, l5', x1, imp_t, imp_f]
          refine call0 (x_bitCount (k := (2 ^ S.1.1 - 1) ^^^ D) (by omega) ?_)
          rw [onN (by omega), x3]
          simp only [ixr_of, run_s, run_0, rTs_study, rok_i, rok_z, bx_cons, bx_nil, eADD, eAND, eC0, eC1, eC3, eCS1, eCV0, eCV1, eCm1, eDUPr, eGI, eGO, eGR, jICgt, jICne, jIFeq, jIFne, eINC5, eLA0, eLI1, eLI2, eLI3, eLI4, eLI5, eOR, ePI, ePZ, eRV, eSHL, eSI1, eSI2, eSI3, eSI4, eSI5, eXOR, fTs_study_0, fTs_study_7, fTs_study_8, fTs_study_51, fTs_study_57, fTs_study_65, fTs_study_74, fTs_study_82, fTs_study_87, fTs_study_91, fTs_study_116, fTs_study_122, fTs_study_130, fTs_study_134, fTs_study_135, fTs_study_146, fTs_study_150, fTs_study_156, bTs_study_0, bTs_study_7, bTs_study_8, bTs_study_51, bTs_study_57, bTs_study_65, bTs_study_74, bTs_study_82, bTs_study_87, bTs_study_91, bTs_study_116, bTs_study_122, bTs_study_130, bTs_study_134, bTs_study_135, bTs_study_146, bTs_study_150, bTs_study_156, ln_xpatterns, rg_xtasters_0, rg_xtasters_1, rg_xtasters_2, ty_xaqueduct, ty_xpatterns, ty_xtasters, ty_xttrial, Option.toList_some, Option.toList_none, List.cons_append, List.nil_append, List.length_cons, List.length_nil, List.mem_cons, List.not_mem_nil, or_false, false_or, or_true, true_or, ↓reduceIte, true_and, and_true, Nat.reduceEqDiff, Nat.reduceAdd, Nat.reduceLeDiff, Nat.reduceLT, dl_i, dl_r, dl_n, dl_u, eq_self, not_true_eq_false, not_false_eq_true, n10, n01, nm0, n0m, sh, imp_t, imp_f]
          refine hk _ hXL.up.up (by rw [up_n (by omega), up_n (by omega)]; exact l4) ?_
          unfold StF
          rw [← hrt, up_s, up_n (by omega), up_n (by omega), up_n (by omega), up_n (by omega), up_n (by omega), up_s, l6, l7, l8, m1, m2]
          refine ⟨rfl, rfl, ?_, ?_⟩
          · by_cases z : Q.1 = 0
            · rw [if_pos z, if_pos (by rw [z, Nat.zero_mul])]
            · have z2 : ¬ (Q.1 * 2 ^ exD D S.1.1 = 0) := fun c => z (hz.mp (by rw [m1]; exact c))
              rw [if_neg z, if_neg z2, (m3 (by rw [m1]; omega)).1]
          · by_cases z : Q.1 = 0
            · rw [if_pos z, if_pos (by rw [z, Nat.zero_mul])]
            · have z2 : ¬ (Q.1 * 2 ^ exD D S.1.1 = 0) := fun c => z (hz.mp (by rw [m1]; exact c))
              rw [if_neg z, if_neg z2, (m3 (by rw [m1]; omega)).2]
        refine hgo 20 [51, 91, 116, 122, 135, 156] 51 _ _ _ _ _ ?_
        simp only [ixr_of, run_s, run_0, rTs_study, rok_i, rok_z, bx_cons, bx_nil, eADD, eAND, eC0, eC1, eC3, eCS1, eCV0, eCV1, eCm1, eDUPr, eGI, eGO, eGR, jICgt, jICne, jIFeq, jIFne, eINC5, eLA0, eLI1, eLI2, eLI3, eLI4, eLI5, eOR, ePI, ePZ, eRV, eSHL, eSI1, eSI2, eSI3, eSI4, eSI5, eXOR, fTs_study_0, fTs_study_7, fTs_study_8, fTs_study_51, fTs_study_57, fTs_study_65, fTs_study_74, fTs_study_82, fTs_study_87, fTs_study_91, fTs_study_116, fTs_study_122, fTs_study_130, fTs_study_134, fTs_study_135, fTs_study_146, fTs_study_150, fTs_study_156, bTs_study_0, bTs_study_7, bTs_study_8, bTs_study_51, bTs_study_57, bTs_study_65, bTs_study_74, bTs_study_82, bTs_study_87, bTs_study_91, bTs_study_116, bTs_study_122, bTs_study_130, bTs_study_134, bTs_study_135, bTs_study_146, bTs_study_150, bTs_study_156, ln_xpatterns, rg_xtasters_0, rg_xtasters_1, rg_xtasters_2, ty_xaqueduct, ty_xpatterns, ty_xtasters, ty_xttrial, Option.toList_some, Option.toList_none, List.cons_append, List.nil_append, List.length_cons, List.length_nil, List.mem_cons, List.not_mem_nil, or_false, false_or, or_true, true_or, ↓reduceIte, true_and, and_true, Nat.reduceEqDiff, Nat.reduceAdd, Nat.reduceLeDiff, Nat.reduceLT, dl_i, dl_r, dl_n, dl_u, eq_self, not_true_eq_false, not_false_eq_true, n10, n01, nm0, n0m, c2, imp_t, imp_f]
        refine hgo 20 [51, 91, 116, 135, 156] 122 _ _ _ _ _ ?_
        by_cases z : Q.1 = 0
        · have c3 : (nI Q.1 = nI 0) = True := by rw [hQ0]; exact eq_true z
          simp only [ixr_of, run_s, run_0, rTs_study, rok_i, rok_z, bx_cons, bx_nil, eADD, eAND, eC0, eC1, eC3, eCS1, eCV0, eCV1, eCm1, eDUPr, eGI, eGO, eGR, jICgt, jICne, jIFeq, jIFne, eINC5, eLA0, eLI1, eLI2, eLI3, eLI4, eLI5, eOR, ePI, ePZ, eRV, eSHL, eSI1, eSI2, eSI3, eSI4, eSI5, eXOR, fTs_study_0, fTs_study_7, fTs_study_8, fTs_study_51, fTs_study_57, fTs_study_65, fTs_study_74, fTs_study_82, fTs_study_87, fTs_study_91, fTs_study_116, fTs_study_122, fTs_study_130, fTs_study_134, fTs_study_135, fTs_study_146, fTs_study_150, fTs_study_156, bTs_study_0, bTs_study_7, bTs_study_8, bTs_study_51, bTs_study_57, bTs_study_65, bTs_study_74, bTs_study_82, bTs_study_87, bTs_study_91, bTs_study_116, bTs_study_122, bTs_study_130, bTs_study_134, bTs_study_135, bTs_study_146, bTs_study_150, bTs_study_156, ln_xpatterns, rg_xtasters_0, rg_xtasters_1, rg_xtasters_2, ty_xaqueduct, ty_xpatterns, ty_xtasters, ty_xttrial, Option.toList_some, Option.toList_none, List.cons_append, List.nil_append, List.length_cons, List.length_nil, List.mem_cons, List.not_mem_nil, or_false, false_or, or_true, true_or, ↓reduceIte, true_and, and_true, Nat.reduceEqDiff, Nat.reduceAdd, Nat.reduceLeDiff, Nat.reduceLT, dl_i, dl_r, dl_n, dl_u, eq_self, not_true_eq_false, not_false_eq_true, n10, n01, nm0, n0m, k5, c3, imp_t, imp_f]
          refine hgo 20 [51, 91, 116, 156] 135 _ _ _ _ _ ?_
          have k5' : up K 58 7 (nI 0) 58 5 = nI Q.1 := by rw [up_n (by omega)]; exact k5
          simp only [ixr_of, run_s, run_0, rTs_study, rok_i, rok_z, bx_cons, bx_nil, eADD, eAND, eC0, eC1, eC3, eCS1, eCV0, eCV1, eCm1, eDUPr, eGI, eGO, eGR, jICgt, jICne, jIFeq, jIFne, eINC5, eLA0, eLI1, eLI2, eLI3, eLI4, eLI5, eOR, ePI, ePZ, eRV, eSHL, eSI1, eSI2, eSI3, eSI4, eSI5, eXOR, fTs_study_0, fTs_study_7, fTs_study_8, fTs_study_51, fTs_study_57, fTs_study_65, fTs_study_74, fTs_study_82, fTs_study_87, fTs_study_91, fTs_study_116, fTs_study_122, fTs_study_130, fTs_study_134, fTs_study_135, fTs_study_146, fTs_study_150, fTs_study_156, bTs_study_0, bTs_study_7, bTs_study_8, bTs_study_51, bTs_study_57, bTs_study_65, bTs_study_74, bTs_study_82, bTs_study_87, bTs_study_91, bTs_study_116, bTs_study_122, bTs_study_130, bTs_study_134, bTs_study_135, bTs_study_146, bTs_study_150, bTs_study_156, ln_xpatterns, rg_xtasters_0, rg_xtasters_1, rg_xtasters_2, ty_xaqueduct, ty_xpatterns, ty_xtasters, ty_xttrial, Option.toList_some, Option.toList_none, List.cons_append, List.nil_append, List.length_cons, List.length_nil, List.mem_cons, List.not_mem_nil, or_false, false_or, or_true, true_or, ↓reduceIte, true_and, and_true, Nat.reduceEqDiff, Nat.reduceAdd, Nat.reduceLeDiff, Nat.reduceLT, dl_i, dl_r, dl_n, dl_u, eq_self, not_true_eq_false, not_false_eq_true, n10, n01, nm0, n0m, k5', c3, imp_t, imp_f]
          refine fin _ _ hX.up ?_ ?_ ?_ ?_ ?_
          · rw [up_n (by omega)]; exact k4
          · rw [up_n (by omega)]; exact k5
          · rw [up_n (by omega)]; exact k6
          · rw [if_pos z, up_s]
          · rw [if_pos z]
        · have c3 : (nI Q.1 = nI 0) = False := by rw [hQ0]; exact eq_false z
          simp only [ixr_of, run_s, run_0, rTs_study, rok_i, rok_z, bx_cons, bx_nil, eADD, eAND, eC0, eC1, eC3, eCS1, eCV0, eCV1, eCm1, eDUPr, eGI, eGO, eGR, jICgt, jICne, jIFeq, jIFne, eINC5, eLA0, eLI1, eLI2, eLI3, eLI4, eLI5, eOR, ePI, ePZ, eRV, eSHL, eSI1, eSI2, eSI3, eSI4, eSI5, eXOR, fTs_study_0, fTs_study_7, fTs_study_8, fTs_study_51, fTs_study_57, fTs_study_65, fTs_study_74, fTs_study_82, fTs_study_87, fTs_study_91, fTs_study_116, fTs_study_122, fTs_study_130, fTs_study_134, fTs_study_135, fTs_study_146, fTs_study_150, fTs_study_156, bTs_study_0, bTs_study_7, bTs_study_8, bTs_study_51, bTs_study_57, bTs_study_65, bTs_study_74, bTs_study_82, bTs_study_87, bTs_study_91, bTs_study_116, bTs_study_122, bTs_study_130, bTs_study_134, bTs_study_135, bTs_study_146, bTs_study_150, bTs_study_156, ln_xpatterns, rg_xtasters_0, rg_xtasters_1, rg_xtasters_2, ty_xaqueduct, ty_xpatterns, ty_xtasters, ty_xttrial, Option.toList_some, Option.toList_none, List.cons_append, List.nil_append, List.length_cons, List.length_nil, List.mem_cons, List.not_mem_nil, or_false, false_or, or_true, true_or, ↓reduceIte, true_and, and_true, Nat.reduceEqDiff, Nat.reduceAdd, Nat.reduceLeDiff, Nat.reduceLT, dl_i, dl_r, dl_n, dl_u, eq_self, not_true_eq_false, not_false_eq_true, n10, n01, nm0, n0m, k5, c3, imp_t, imp_f]
          refine hgo 20 [51, 91, 116, 156] 135 _ _ _ _ _ ?_
          have k5' : up K 58 7 Q.2.2.1 58 5 = nI Q.1 := by rw [up_n (by omega)]; exact k5
          simp only [ixr_of, run_s, run_0, rTs_study, rok_i, rok_z, bx_cons, bx_nil, eADD, eAND, eC0, eC1, eC3, eCS1, eCV0, eCV1, eCm1, eDUPr, eGI, eGO, eGR, jICgt, jICne, jIFeq, jIFne, eINC5, eLA0, eLI1, eLI2, eLI3, eLI4, eLI5, eOR, ePI, ePZ, eRV, eSHL, eSI1, eSI2, eSI3, eSI4, eSI5, eXOR, fTs_study_0, fTs_study_7, fTs_study_8, fTs_study_51, fTs_study_57, fTs_study_65, fTs_study_74, fTs_study_82, fTs_study_87, fTs_study_91, fTs_study_116, fTs_study_122, fTs_study_130, fTs_study_134, fTs_study_135, fTs_study_146, fTs_study_150, fTs_study_156, bTs_study_0, bTs_study_7, bTs_study_8, bTs_study_51, bTs_study_57, bTs_study_65, bTs_study_74, bTs_study_82, bTs_study_87, bTs_study_91, bTs_study_116, bTs_study_122, bTs_study_130, bTs_study_134, bTs_study_135, bTs_study_146, bTs_study_150, bTs_study_156, ln_xpatterns, rg_xtasters_0, rg_xtasters_1, rg_xtasters_2, ty_xaqueduct, ty_xpatterns, ty_xtasters, ty_xttrial, Option.toList_some, Option.toList_none, List.cons_append, List.nil_append, List.length_cons, List.length_nil, List.mem_cons, List.not_mem_nil, or_false, false_or, or_true, true_or, ↓reduceIte, true_and, and_true, Nat.reduceEqDiff, Nat.reduceAdd, Nat.reduceLeDiff, Nat.reduceLT, dl_i, dl_r, dl_n, dl_u, eq_self, not_true_eq_false, not_false_eq_true, n10, n01, nm0, n0m, k5', c3, imp_t, imp_f]
          refine fin _ _ hX.up ?_ ?_ ?_ ?_ ?_
          · rw [up_n (by omega)]; exact k4
          · rw [up_n (by omega)]; exact k5
          · rw [up_n (by omega)]; exact k6
          · rw [if_neg z, up_s]
          · rw [if_neg z]
      | succ g ih =>
        intro k K hg hX k4 k5 k6
        have hle := mdF_le (rt := rtD rt D) (all := nI (2 ^ S.1.1 - 1)) k
        have c2 : (nI (2 ^ S.1.1 - 1) < nI k) = False := by rw [nIt (by omega) (by omega)]; exact eq_false (by omega)
        have o1 : k ||| D < 512 := Nat.lt_of_lt_of_le (Nat.or_lt_two_pow (n := S.1.1) (by omega) hDl) h512
        have cu : (nI (k ||| D) = nI D) = (k &&& D = k) := by rw [nIe (by omega) (by omega)]; exact propext or_and
        have hmd : mdF (rtD rt D) (nI (2 ^ S.1.1 - 1)) (k + 1) = if rtD rt D k = true then ((mdF (rtD rt D) (nI (2 ^ S.1.1 - 1)) k).1 + 1, (if (mdF (rtD rt D) (nI (2 ^ S.1.1 - 1)) k).1 = 0 then nI k else (mdF (rtD rt D) (nI (2 ^ S.1.1 - 1)) k).2.1), (mdF (rtD rt D) (nI (2 ^ S.1.1 - 1)) k).2.2.1 &&& nI k, (mdF (rtD rt D) (nI (2 ^ S.1.1 - 1)) k).2.2.2 ||| nI k) else mdF (rtD rt D) (nI (2 ^ S.1.1 - 1)) k := rfl
        generalize mdF (rtD rt D) (nI (2 ^ S.1.1 - 1)) k = Q at *
        have hQ0 : (nI Q.1 = nI 0) = (Q.1 = 0) := nIe (by omega) (by decide)
        have no : ∀ (L : Iv), XT J L → L 58 4 = nI 1 → L 58 5 = nI Q.1 → L 58 6 = Q.2.1 → ¬ rtD rt D k = true → go 116 [some (.ref 58), some (.int (nI (2 ^ S.1.1 - 1))), some (.int (nI D)), some (.int Q.2.2.1), some (.int Q.2.2.2), some (.int (nI k))] [] L E (0, 0) := by
          intro L hXL l4 l5 l6 hn
          refine hgo 20 [51, 91, 122] 116 _ _ _ _ _ ?_
          simp only [ixr_of, run_s, run_0, rTs_study, rok_i, rok_z, bx_cons, bx_nil, eADD, eAND, eC0, eC1, eC3, eCS1, eCV0, eCV1, eCm1, eDUPr, eGI, eGO, eGR, jICgt, jICne, jIFeq, jIFne, eINC5, eLA0, eLI1, eLI2, eLI3, eLI4, eLI5, eOR, ePI, ePZ, eRV, eSHL, eSI1, eSI2, eSI3, eSI4, eSI5, eXOR, fTs_study_0, fTs_study_7, fTs_study_8, fTs_study_51, fTs_study_57, fTs_study_65, fTs_study_74, fTs_study_82, fTs_study_87, fTs_study_91, fTs_study_116, fTs_study_122, fTs_study_130, fTs_study_134, fTs_study_135, fTs_study_146, fTs_study_150, fTs_study_156, bTs_study_0, bTs_study_7, bTs_study_8, bTs_study_51, bTs_study_57, bTs_study_65, bTs_study_74, bTs_study_82, bTs_study_87, bTs_study_91, bTs_study_116, bTs_study_122, bTs_study_130, bTs_study_134, bTs_study_135, bTs_study_146, bTs_study_150, bTs_study_156, ln_xpatterns, rg_xtasters_0, rg_xtasters_1, rg_xtasters_2, ty_xaqueduct, ty_xpatterns, ty_xtasters, ty_xttrial, Option.toList_some, Option.toList_none, List.cons_append, List.nil_append, List.length_cons, List.length_nil, List.mem_cons, List.not_mem_nil, or_false, false_or, or_true, true_or, ↓reduceIte, true_and, and_true, Nat.reduceEqDiff, Nat.reduceAdd, Nat.reduceLeDiff, Nat.reduceLT, dl_i, dl_r, dl_n, dl_u, eq_self, not_true_eq_false, not_false_eq_true, n10, n01, nm0, n0m, nI_add, imp_t, imp_f]
          have := ih (k + 1) L (by omega) hXL l4
          rw [hmd, if_neg hn] at this
          exact this l5 l6
        have yes : ∀ (L : Iv) (f : Int32), XT J L → L 58 4 = nI 1 → L 58 5 = nI Q.1 → f = (if Q.1 = 0 then nI k else Q.2.1) → rtD rt D k = true → go 91 [some (.ref 58), some (.int (nI (2 ^ S.1.1 - 1))), some (.int (nI D)), some (.int Q.2.2.1), some (.int Q.2.2.2), some (.int (nI k))] [.int f, .ref 58] L E (0, 0) := by
          intro L f hXL l4 l5 hf hy
          have l5' : up L 58 6 f 58 5 = nI Q.1 := by rw [up_n (by omega)]; exact l5
          refine hgo 20 [51, 116, 122] 91 _ _ _ _ _ ?_
          simp only [ixr_of, run_s, run_0, rTs_study, rok_i, rok_z, bx_cons, bx_nil, eADD, eAND, eC0, eC1, eC3, eCS1, eCV0, eCV1, eCm1, eDUPr, eGI, eGO, eGR, jICgt, jICne, jIFeq, jIFne, eINC5, eLA0, eLI1, eLI2, eLI3, eLI4, eLI5, eOR, ePI, ePZ, eRV, eSHL, eSI1, eSI2, eSI3, eSI4, eSI5, eXOR, fTs_study_0, fTs_study_7, fTs_study_8, fTs_study_51, fTs_study_57, fTs_study_65, fTs_study_74, fTs_study_82, fTs_study_87, fTs_study_91, fTs_study_116, fTs_study_122, fTs_study_130, fTs_study_134, fTs_study_135, fTs_study_146, fTs_study_150, fTs_study_156, bTs_study_0, bTs_study_7, bTs_study_8, bTs_study_51, bTs_study_57, bTs_study_65, bTs_study_74, bTs_study_82, bTs_study_87, bTs_study_91, bTs_study_116, bTs_study_122, bTs_study_130, bTs_study_134, bTs_study_135, bTs_study_146, bTs_study_150, bTs_study_156, ln_xpatterns, rg_xtasters_0, rg_xtasters_1, rg_xtasters_2, ty_xaqueduct, ty_xpatterns, ty_xtasters, ty_xttrial, Option.toList_some, Option.toList_none, List.cons_append, List.nil_append, List.length_cons, List.length_nil, List.mem_cons, List.not_mem_nil, or_false, false_or, or_true, true_or, ↓reduceIte, true_and, and_true, Nat.reduceEqDiff, Nat.reduceAdd, Nat.reduceLeDiff, Nat.reduceLT, dl_i, dl_r, dl_n, dl_u, eq_self, not_true_eq_false, not_false_eq_true, n10, n01, nm0, n0m, l5', nI_add, imp_t, imp_f]
          refine hgo 20 [51, 122] 116 _ _ _ _ _ ?_
          simp only [ixr_of, run_s, run_0, rTs_study, rok_i, rok_z, bx_cons, bx_nil, eADD, eAND, eC0, eC1, eC3, eCS1, eCV0, eCV1, eCm1, eDUPr, eGI, eGO, eGR, jICgt, jICne, jIFeq, jIFne, eINC5, eLA0, eLI1, eLI2, eLI3, eLI4, eLI5, eOR, ePI, ePZ, eRV, eSHL, eSI1, eSI2, eSI3, eSI4, eSI5, eXOR, fTs_study_0, fTs_study_7, fTs_study_8, fTs_study_51, fTs_study_57, fTs_study_65, fTs_study_74, fTs_study_82, fTs_study_87, fTs_study_91, fTs_study_116, fTs_study_122, fTs_study_130, fTs_study_134, fTs_study_135, fTs_study_146, fTs_study_150, fTs_study_156, bTs_study_0, bTs_study_7, bTs_study_8, bTs_study_51, bTs_study_57, bTs_study_65, bTs_study_74, bTs_study_82, bTs_study_87, bTs_study_91, bTs_study_116, bTs_study_122, bTs_study_130, bTs_study_134, bTs_study_135, bTs_study_146, bTs_study_150, bTs_study_156, ln_xpatterns, rg_xtasters_0, rg_xtasters_1, rg_xtasters_2, ty_xaqueduct, ty_xpatterns, ty_xtasters, ty_xttrial, Option.toList_some, Option.toList_none, List.cons_append, List.nil_append, List.length_cons, List.length_nil, List.mem_cons, List.not_mem_nil, or_false, false_or, or_true, true_or, ↓reduceIte, true_and, and_true, Nat.reduceEqDiff, Nat.reduceAdd, Nat.reduceLeDiff, Nat.reduceLT, dl_i, dl_r, dl_n, dl_u, eq_self, not_true_eq_false, not_false_eq_true, n10, n01, nm0, n0m, nI_add, imp_t, imp_f]
          have := ih (k + 1) (up (up L 58 6 f) 58 5 (nI (Q.1 + 1))) (by omega) hXL.up.up (by rw [up_n (by omega), up_n (by omega)]; exact l4)
          rw [hmd, if_pos hy] at this
          exact this up_s (by rw [up_n (by omega), up_s]; exact hf)
        refine hgo 20 [51, 91, 116, 122] 51 _ _ _ _ _ ?_
        simp only [ixr_of, run_s, run_0, rTs_study, rok_i, rok_z, bx_cons, bx_nil, eADD, eAND, eC0, eC1, eC3, eCS1, eCV0, eCV1, eCm1, eDUPr, eGI, eGO, eGR, jICgt, jICne, jIFeq, jIFne, eINC5, eLA0, eLI1, eLI2, eLI3, eLI4, eLI5, eOR, ePI, ePZ, eRV, eSHL, eSI1, eSI2, eSI3, eSI4, eSI5, eXOR, fTs_study_0, fTs_study_7, fTs_study_8, fTs_study_51, fTs_study_57, fTs_study_65, fTs_study_74, fTs_study_82, fTs_study_87, fTs_study_91, fTs_study_116, fTs_study_122, fTs_study_130, fTs_study_134, fTs_study_135, fTs_study_146, fTs_study_150, fTs_study_156, bTs_study_0, bTs_study_7, bTs_study_8, bTs_study_51, bTs_study_57, bTs_study_65, bTs_study_74, bTs_study_82, bTs_study_87, bTs_study_91, bTs_study_116, bTs_study_122, bTs_study_130, bTs_study_134, bTs_study_135, bTs_study_146, bTs_study_150, bTs_study_156, ln_xpatterns, rg_xtasters_0, rg_xtasters_1, rg_xtasters_2, ty_xaqueduct, ty_xpatterns, ty_xtasters, ty_xttrial, Option.toList_some, Option.toList_none, List.cons_append, List.nil_append, List.length_cons, List.length_nil, List.mem_cons, List.not_mem_nil, or_false, false_or, or_true, true_or, ↓reduceIte, true_and, and_true, Nat.reduceEqDiff, Nat.reduceAdd, Nat.reduceLeDiff, Nat.reduceLT, dl_i, dl_r, dl_n, dl_u, eq_self, not_true_eq_false, not_false_eq_true, n10, n01, nm0, n0m, c2, nx_or, cu, imp_t, imp_f]
        refine ⟨fun z => ?_, fun z => ?_⟩
        · refine no K hX k4 k5 k6 ?_
          unfold rtD
          rw [decide_eq_false z, Bool.false_and]
          decide
        · refine call0 (x_isRight hG (hA.xt hX) (hB.xt hX) (hI.tr hX.t) hBg (fun hr L hL => ?_) (fun hr L hL => ?_))
          · have hy : rtD rt D k = true := by
              unfold rtD
              rw [decide_eq_true z, Bool.true_and, hrt]
              exact rtB_i.mpr hr
            have l58 : L 58 = K 58 := hL 58 (by decide) (by decide) (idV_n (by decide))
            have l5 : L 58 5 = nI Q.1 := by rw [l58]; exact k5
            have l6 : L 58 6 = Q.2.1 := by rw [l58]; exact k6
            simp only [ixr_of, run_s, run_0, rTs_study, rok_i, rok_z, bx_cons, bx_nil, eADD, eAND, eC0, eC1, eC3, eCS1, eCV0, eCV1, eCm1, eDUPr, eGI, eGO, eGR, jICgt, jICne, jIFeq, jIFne, eINC5, eLA0, eLI1, eLI2, eLI3, eLI4, eLI5, eOR, ePI, ePZ, eRV, eSHL, eSI1, eSI2, eSI3, eSI4, eSI5, eXOR, fTs_study_0, fTs_study_7, fTs_study_8, fTs_study_51, fTs_study_57, fTs_study_65, fTs_study_74, fTs_study_82, fTs_study_87, fTs_study_91, fTs_study_116, fTs_study_122, fTs_study_130, fTs_study_134, fTs_study_135, fTs_study_146, fTs_study_150, fTs_study_156, bTs_study_0, bTs_study_7, bTs_study_8, bTs_study_51, bTs_study_57, bTs_study_65, bTs_study_74, bTs_study_82, bTs_study_87, bTs_study_91, bTs_study_116, bTs_study_122, bTs_study_130, bTs_study_134, bTs_study_135, bTs_study_146, bTs_study_150, bTs_study_156, ln_xpatterns, rg_xtasters_0, rg_xtasters_1, rg_xtasters_2, ty_xaqueduct, ty_xpatterns, ty_xtasters, ty_xttrial, Option.toList_some, Option.toList_none, List.cons_append, List.nil_append, List.length_cons, List.length_nil, List.mem_cons, List.not_mem_nil, or_false, false_or, or_true, true_or, ↓reduceIte, true_and, and_true, Nat.reduceEqDiff, Nat.reduceAdd, Nat.reduceLeDiff, Nat.reduceLT, dl_i, dl_r, dl_n, dl_u, eq_self, not_true_eq_false, not_false_eq_true, n10, n01, nm0, n0m, l5, hQ0, imp_t, imp_f]
            refine ⟨fun z2 => ?_, fun z2 => ?_⟩
            · exact yes L _ (hX.tr hL.ts) (by rw [l58]; exact k4) l5 (by rw [if_neg z2, l6]) hy
            · exact yes L _ (hX.tr hL.ts) (by rw [l58]; exact k4) l5 (by rw [if_pos z2]) hy
          · have l58 : L 58 = K 58 := hL 58 (by decide) (by decide) (idV_n (by decide))
            simp only [ixr_of, run_s, run_0, rTs_study, rok_i, rok_z, bx_cons, bx_nil, eADD, eAND, eC0, eC1, eC3, eCS1, eCV0, eCV1, eCm1, eDUPr, eGI, eGO, eGR, jICgt, jICne, jIFeq, jIFne, eINC5, eLA0, eLI1, eLI2, eLI3, eLI4, eLI5, eOR, ePI, ePZ, eRV, eSHL, eSI1, eSI2, eSI3, eSI4, eSI5, eXOR, fTs_study_0, fTs_study_7, fTs_study_8, fTs_study_51, fTs_study_57, fTs_study_65, fTs_study_74, fTs_study_82, fTs_study_87, fTs_study_91, fTs_study_116, fTs_study_122, fTs_study_130, fTs_study_134, fTs_study_135, fTs_study_146, fTs_study_150, fTs_study_156, bTs_study_0, bTs_study_7, bTs_study_8, bTs_study_51, bTs_study_57, bTs_study_65, bTs_study_74, bTs_study_82, bTs_study_87, bTs_study_91, bTs_study_116, bTs_study_122, bTs_study_130, bTs_study_134, bTs_study_135, bTs_study_146, bTs_study_150, bTs_study_156, ln_xpatterns, rg_xtasters_0, rg_xtasters_1, rg_xtasters_2, ty_xaqueduct, ty_xpatterns, ty_xtasters, ty_xttrial, Option.toList_some, Option.toList_none, List.cons_append, List.nil_append, List.length_cons, List.length_nil, List.mem_cons, List.not_mem_nil, or_false, false_or, or_true, true_or, ↓reduceIte, true_and, and_true, Nat.reduceEqDiff, Nat.reduceAdd, Nat.reduceLeDiff, Nat.reduceLT, dl_i, dl_r, dl_n, dl_u, eq_self, not_true_eq_false, not_false_eq_true, n10, n01, nm0, n0m, imp_t, imp_f]
            refine no L (hX.tr hL.ts) (by rw [l58]; exact k4) (by rw [l58]; exact k5) (by rw [l58]; exact k6) (fun c => hr ?_)
            unfold rtD at c
            rw [Bool.and_eq_true, hrt] at c
            exact rtB_i.mp c.2
    refine hgo 20 [51, 91, 116, 122] 0 _ _ _ _ _ ?_
    have c0 : (J 58 4 = nI 0) = True := eq_true h4
    simp only [ixr_of, run_s, run_0, rTs_study, rok_i, rok_z, bx_cons, bx_nil, eADD, eAND, eC0, eC1, eC3, eCS1, eCV0, eCV1, eCm1, eDUPr, eGI, eGO, eGR, jICgt, jICne, jIFeq, jIFne, eINC5, eLA0, eLI1, eLI2, eLI3, eLI4, eLI5, eOR, ePI, ePZ, eRV, eSHL, eSI1, eSI2, eSI3, eSI4, eSI5, eXOR, fTs_study_0, fTs_study_7, fTs_study_8, fTs_study_51, fTs_study_57, fTs_study_65, fTs_study_74, fTs_study_82, fTs_study_87, fTs_study_91, fTs_study_116, fTs_study_122, fTs_study_130, fTs_study_134, fTs_study_135, fTs_study_146, fTs_study_150, fTs_study_156, bTs_study_0, bTs_study_7, bTs_study_8, bTs_study_51, bTs_study_57, bTs_study_65, bTs_study_74, bTs_study_82, bTs_study_87, bTs_study_91, bTs_study_116, bTs_study_122, bTs_study_130, bTs_study_134, bTs_study_135, bTs_study_146, bTs_study_150, bTs_study_156, ln_xpatterns, rg_xtasters_0, rg_xtasters_1, rg_xtasters_2, ty_xaqueduct, ty_xpatterns, ty_xtasters, ty_xttrial, Option.toList_some, Option.toList_none, List.cons_append, List.nil_append, List.length_cons, List.length_nil, List.mem_cons, List.not_mem_nil, or_false, false_or, or_true, true_or, ↓reduceIte, true_and, and_true, Nat.reduceEqDiff, Nat.reduceAdd, Nat.reduceLeDiff, Nat.reduceLT, dl_i, dl_r, dl_n, dl_u, eq_self, not_true_eq_false, not_false_eq_true, n10, n01, nm0, n0m, c0, r3, tT, imp_t, imp_f]
    have hX0 : XT J (up (up (up J 58 4 (nI 1)) 58 5 (nI 0)) 58 6 (-1)) := XT.rf.up.up.up
    have hA0 := hA.xt hX0
    have e4 : up (up (up J 58 4 (nI 1)) 58 5 (nI 0)) 58 6 (-1) 58 4 = nI 1 := by rw [up_n (by omega), up_n (by omega), up_s]
    have e5 : up (up (up J 58 4 (nI 1)) 58 5 (nI 0)) 58 6 (-1) 58 5 = nI 0 := by rw [up_n (by omega), up_s]
    have e6 : up (up (up J 58 4 (nI 1)) 58 5 (nI 0)) 58 6 (-1) 58 6 = -1 := up_s
    generalize up (up (up J 58 4 (nI 1)) 58 5 (nI 0)) 58 6 (-1) = K0 at *
    refine call0 (x_allBits' tT hA0.1.2.2.1 s9 ?_)
    simp only [ixr_of, run_s, run_0, rTs_study, rok_i, rok_z, bx_cons, bx_nil, eADD, eAND, eC0, eC1, eC3, eCS1, eCV0, eCV1, eCm1, eDUPr, eGI, eGO, eGR, jICgt, jICne, jIFeq, jIFne, eINC5, eLA0, eLI1, eLI2, eLI3, eLI4, eLI5, eOR, ePI, ePZ, eRV, eSHL, eSI1, eSI2, eSI3, eSI4, eSI5, eXOR, fTs_study_0, fTs_study_7, fTs_study_8, fTs_study_51, fTs_study_57, fTs_study_65, fTs_study_74, fTs_study_82, fTs_study_87, fTs_study_91, fTs_study_116, fTs_study_122, fTs_study_130, fTs_study_134, fTs_study_135, fTs_study_146, fTs_study_150, fTs_study_156, bTs_study_0, bTs_study_7, bTs_study_8, bTs_study_51, bTs_study_57, bTs_study_65, bTs_study_74, bTs_study_82, bTs_study_87, bTs_study_91, bTs_study_116, bTs_study_122, bTs_study_130, bTs_study_134, bTs_study_135, bTs_study_146, bTs_study_150, bTs_study_156, ln_xpatterns, rg_xtasters_0, rg_xtasters_1, rg_xtasters_2, ty_xaqueduct, ty_xpatterns, ty_xtasters, ty_xttrial, Option.toList_some, Option.toList_none, List.cons_append, List.nil_append, List.length_cons, List.length_nil, List.mem_cons, List.not_mem_nil, or_false, false_or, or_true, true_or, ↓reduceIte, true_and, and_true, Nat.reduceEqDiff, Nat.reduceAdd, Nat.reduceLeDiff, Nat.reduceLT, dl_i, dl_r, dl_n, dl_u, eq_self, not_true_eq_false, not_false_eq_true, n10, n01, nm0, n0m, imp_t, imp_f]
    refine call0 (x_puttersOf hA0.1 (by decide) ?_)
    rw [← hD]
    simp only [ixr_of, run_s, run_0, rTs_study, rok_i, rok_z, bx_cons, bx_nil, eADD, eAND, eC0, eC1, eC3, eCS1, eCV0, eCV1, eCm1, eDUPr, eGI, eGO, eGR, jICgt, jICne, jIFeq, jIFne, eINC5, eLA0, eLI1, eLI2, eLI3, eLI4, eLI5, eOR, ePI, ePZ, eRV, eSHL, eSI1, eSI2, eSI3, eSI4, eSI5, eXOR, fTs_study_0, fTs_study_7, fTs_study_8, fTs_study_51, fTs_study_57, fTs_study_65, fTs_study_74, fTs_study_82, fTs_study_87, fTs_study_91, fTs_study_116, fTs_study_122, fTs_study_130, fTs_study_134, fTs_study_135, fTs_study_146, fTs_study_150, fTs_study_156, bTs_study_0, bTs_study_7, bTs_study_8, bTs_study_51, bTs_study_57, bTs_study_65, bTs_study_74, bTs_study_82, bTs_study_87, bTs_study_91, bTs_study_116, bTs_study_122, bTs_study_130, bTs_study_134, bTs_study_135, bTs_study_146, bTs_study_150, bTs_study_156, ln_xpatterns, rg_xtasters_0, rg_xtasters_1, rg_xtasters_2, ty_xaqueduct, ty_xpatterns, ty_xtasters, ty_xttrial, Option.toList_some, Option.toList_none, List.cons_append, List.nil_append, List.length_cons, List.length_nil, List.mem_cons, List.not_mem_nil, or_false, false_or, or_true, true_or, ↓reduceIte, true_and, and_true, Nat.reduceEqDiff, Nat.reduceAdd, Nat.reduceLeDiff, Nat.reduceLT, dl_i, dl_r, dl_n, dl_u, eq_self, not_true_eq_false, not_false_eq_true, n10, n01, nm0, n0m, imp_t, imp_f]
    exact loop (2 ^ S.1.1) 0 K0 (by omega) hX0 e4 e5 e6
  · refine hgo 20 [51, 91, 116, 122] 0 _ _ _ _ _ ?_
    have c0 : (J 58 4 = nI 0) = False := by rw [h4]; exact eq_false n10
    simp only [ixr_of, run_s, run_0, rTs_study, rok_i, rok_z, bx_cons, bx_nil, eADD, eAND, eC0, eC1, eC3, eCS1, eCV0, eCV1, eCm1, eDUPr, eGI, eGO, eGR, jICgt, jICne, jIFeq, jIFne, eINC5, eLA0, eLI1, eLI2, eLI3, eLI4, eLI5, eOR, ePI, ePZ, eRV, eSHL, eSI1, eSI2, eSI3, eSI4, eSI5, eXOR, fTs_study_0, fTs_study_7, fTs_study_8, fTs_study_51, fTs_study_57, fTs_study_65, fTs_study_74, fTs_study_82, fTs_study_87, fTs_study_91, fTs_study_116, fTs_study_122, fTs_study_130, fTs_study_134, fTs_study_135, fTs_study_146, fTs_study_150, fTs_study_156, bTs_study_0, bTs_study_7, bTs_study_8, bTs_study_51, bTs_study_57, bTs_study_65, bTs_study_74, bTs_study_82, bTs_study_87, bTs_study_91, bTs_study_116, bTs_study_122, bTs_study_130, bTs_study_134, bTs_study_135, bTs_study_146, bTs_study_150, bTs_study_156, ln_xpatterns, rg_xtasters_0, rg_xtasters_1, rg_xtasters_2, ty_xaqueduct, ty_xpatterns, ty_xtasters, ty_xttrial, Option.toList_some, Option.toList_none, List.cons_append, List.nil_append, List.length_cons, List.length_nil, List.mem_cons, List.not_mem_nil, or_false, false_or, or_true, true_or, ↓reduceIte, true_and, and_true, Nat.reduceEqDiff, Nat.reduceAdd, Nat.reduceLeDiff, Nat.reduceLT, dl_i, dl_r, dl_n, dl_u, eq_self, not_true_eq_false, not_false_eq_true, n10, n01, nm0, n0m, c0, imp_t, imp_f]
    exact hk J XT.rf h4 hF
end XQr
