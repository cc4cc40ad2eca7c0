/-! foresight: filters, losses, droughts -/
theorem herbs_27 {J : Iv} {y n v : Nat} {S : Tn} {r : Nat → Int32} (hS : TnV S) (h : DR J y S n r) (hv : v < S.1.1) (hn : n ≤ 2000) : smI (fun h => smI (fun w => J (y + 1) (cl S.1.1 v h w)) S.1.1) 3 = hbS r v ∧ ∃ e, e ≤ 16038 * n ∧ hbS r v = nI e := by
  have s9 := hS.1
  have hB := h.2.2.2.1
  have hZ := h.2.2.2.2.1.zr s9
  have e1 : ∀ a, a < 3 → smI (fun w => J (y + 1) (cl S.1.1 v a w)) S.1.1 = smI (fun w => r (9 + 27 * v + 9 * a + w)) 9 := fun a ha => hbD_r hS hB hZ hv ha
  have hc : ∀ a w, a < 3 → w < 9 → ∃ e, e ≤ 594 * n ∧ r (9 + 27 * v + 9 * a + w) = nI e := fun a w ha hw => by
    by_cases q : w < S.1.1
    · exact (h.2.2.2.2.2.2.2.2.2.2.2.2.1 a w ha q).one hv
    · exact ⟨0, by omega, hZ v a w hv ha (by omega) hw⟩
  have e2 : ∀ a, a < 3 → ∃ e, e ≤ 5346 * n ∧ smI (fun w => r (9 + 27 * v + 9 * a + w)) 9 = nI e := fun a ha => by
    obtain ⟨q, hq⟩ : ∃ q : Nat → Nat, ∀ w, w < 9 → q w ≤ 594 * n ∧ r (9 + 27 * v + 9 * a + w) = nI (q w) := by
      refine ⟨fun w => if hw : w < 9 then (hc a w ha hw).choose else 0, fun w hw => ?_⟩
      simp only [hw, dif_pos]
      exact (hc a w ha hw).choose_spec
    refine ⟨smN q 9, ?_, smI_N 9 (fun k hk => (hq k hk).2)⟩
    have := smN_k (f := q) (b := 594 * n) 9 (fun k hk => (hq k hk).1)
    omega
  refine ⟨?_, ?_⟩
  · show ((nI 0 + smI (fun w => J (y + 1) (cl S.1.1 v 0 w)) S.1.1) + smI (fun w => J (y + 1) (cl S.1.1 v 1 w)) S.1.1) + smI (fun w => J (y + 1) (cl S.1.1 v 2 w)) S.1.1 = _
    rw [e1 0 (by decide), e1 1 (by decide), e1 2 (by decide), nI_zero, Int32.zero_add]
    rfl
  · obtain ⟨a, ha, ea⟩ := e2 0 (by decide)
    obtain ⟨c, hc, ec⟩ := e2 1 (by decide)
    obtain ⟨f, hf, ef⟩ := e2 2 (by decide)
    refine ⟨a + c + f, by omega, ?_⟩
    unfold hbS
    rw [ea, ec, ef, nI_add, nI_add]
section XQe
variable {Γ : Gm} {l : Launch} {b : Bool} {d : Nat} {I J : Iv} {E : Ev} {kr : Kr} {kx : Kxx} {y t n : Nat} {S : Tn} {PS : Nat → List Pt} {op : Nat → Nat} {P : Pm} {q : (Nat → Int32) × Int32}
theorem x_leastFilter {w hb m : Nat} (hG : GX Γ) (hA : TwR b J E S PS t op) (hN : NwI I J S n) (hn : n + m ≤ 1900) (hw : w < S.1.1) (hhb : hb < 3)
    (h2 : ∀ c, c ≤ 99 → gR I S.1.1 S.1.2 (plS (I 500000 37), coS (I 500000 38), snM I w hb (nI c), nI 0) (I 500124) m (498 + hb) = nI 0 → (∀ c', c' < c → ¬ gR I S.1.1 S.1.2 (plS (I 500000 37), coS (I 500000 38), snM I w hb (nI c'), nI 0) (I 500124) m (498 + hb) = nI 0) → ∀ K, XF 48 J K → kr (some (.int (nI c))) K E)
    (h3 : (∀ c', c' ≤ 99 → ¬ gR I S.1.1 S.1.2 (plS (I 500000 37), coS (I 500000 38), snM I w hb (nI c'), nI 0) (I 500124) m (498 + hb) = nI 0) → ∀ K, XF 48 J K → kr (some (.int (-1))) K E) : Ex Γ l (shB b) (d + 7) (0, 0) mFo_leastFilter [.ref 47, .ref 71, .int (nI w), .int (nI hb), .int (nI m)] J E kr kx := by
  refine ex_of (ls0 := [some (.ref 47), some (.ref 71), some (.int (nI w)), some (.int (nI hb)), some (.int (nI m)), none]) tFo_leastFilter (by decide +kernel) kFo_leastFilter rfl (Nat.le_of_ble_eq_true rfl) rfl ?_
  intro go hgo
  have hS := hA.1.2.2.2.1
  have s9 := hS.1
  have ty48 : tyc (shB b) E 48 = 3 := dyA_48.1
  have rg48 : rget (shB b) E 48 6 = .ref 55 := dyA_48.2.1.2.2.2.2.2.2
  have ty55 : tyc (shB b) E 55 = 101 := dyA_48.2.2.1.2.2.2.2.2.2
  have ln55 : len (shB b) E 55 = 4 := dyA_48.2.2.2.2.2.2.2.2.2
  have i55 : 1 + hb < 4 := by omega
  have loop : ∀ (g c : Nat) (K : Iv), g + c = 100 → XF 48 J K → (∀ c', c' < c → ¬ gR I S.1.1 S.1.2 (plS (I 500000 37), coS (I 500000 38), snM I w hb (nI c'), nI 0) (I 500124) m (498 + hb) = nI 0) → go 3 [some (.ref 47), some (.ref 71), some (.int (nI w)), some (.int (nI hb)), some (.int (nI m)), some (.int (nI c))] [] K E (0, 0) := by
    intro g
    induction g with
    | zero =>
      intro c K hg hX hno
      have : c = 100 := by omega
      subst this
      refine hgo 20 [3] 3 _ _ _ _ _ ?_
      have c1 : (nI 99 < nI 100) = True := by decide
      simp only [ixr_of, run_s, run_0, rFo_leastFilter, rok_i, rok_z, bx_cons, bx_nil, eADD, eBP, eC0, eC1, eC3, eCV1, eCm1, eGO, eGR, eIALD, jICgt, jIFne, eINC5, eLA0, eLA1, eLI2, eLI3, eLI4, eLI5, eMUL, ePI, eRI, eSI5, fFo_leastFilter_0, fFo_leastFilter_3, fFo_leastFilter_10, fFo_leastFilter_59, fFo_leastFilter_62, fFo_leastFilter_68, bFo_leastFilter_0, bFo_leastFilter_3, bFo_leastFilter_10, bFo_leastFilter_59, bFo_leastFilter_62, bFo_leastFilter_68, ln_xformerGrades, rg_xforesight_0, rg_xforesight_1, rg_xforesight_2, ty_xaqueduct, ty_xforesight, ty_xformerGrades, ty_xftrial, Option.toList_some, Option.toList_none, List.cons_append, List.nil_append, List.length_cons, List.length_nil, List.mem_cons, List.not_mem_nil, or_false, false_or, or_true, true_or, ↓reduceIte, true_and, and_true, Nat.reduceEqDiff, Nat.reduceAdd, Nat.reduceLeDiff, Nat.reduceLT, dl_i, dl_r, dl_n, dl_u, eq_self, not_true_eq_false, not_false_eq_true, n10, n01, nm0, n0m, c1, imp_t, imp_f]
      exact h3 (fun c' hc => hno c' (by omega)) K hX
    | succ g ih =>
      intro c K hg hX hno
      have c1 : (nI 99 < nI c) = False := by rw [nIt (by omega) (by omega)]; exact eq_false (by omega)
      have hNK := hN.xf s9 (Or.inl rfl) hX
      refine hgo 20 [3] 3 _ _ _ _ _ ?_
      simp only [ixr_of, run_s, run_0, rFo_leastFilter, rok_i, rok_z, bx_cons, bx_nil, eADD, eBP, eC0, eC1, eC3, eCV1, eCm1, eGO, eGR, eIALD, jICgt, jIFne, eINC5, eLA0, eLA1, eLI2, eLI3, eLI4, eLI5, eMUL, ePI, eRI, eSI5, fFo_leastFilter_0, fFo_leastFilter_3, fFo_leastFilter_10, fFo_leastFilter_59, fFo_leastFilter_62, fFo_leastFilter_68, bFo_leastFilter_0, bFo_leastFilter_3, bFo_leastFilter_10, bFo_leastFilter_59, bFo_leastFilter_62, bFo_leastFilter_68, ln_xformerGrades, rg_xforesight_0, rg_xforesight_1, rg_xforesight_2, ty_xaqueduct, ty_xforesight, ty_xformerGrades, ty_xftrial, Option.toList_some, Option.toList_none, List.cons_append, List.nil_append, List.length_cons, List.length_nil, List.mem_cons, List.not_mem_nil, or_false, false_or, or_true, true_or, ↓reduceIte, true_and, and_true, Nat.reduceEqDiff, Nat.reduceAdd, Nat.reduceLeDiff, Nat.reduceLT, dl_i, dl_r, dl_n, dl_u, eq_self, not_true_eq_false, not_false_eq_true, n10, n01, nm0, n0m, c1, imp_t, imp_f]
      refine call0 (x_copyFrom dyA_48 dyA_71 (by decide) (fun L hL => ?_))
      have hQ := hNK.2.cp s9 hL
      simp only [ixr_of, run_s, run_0, rFo_leastFilter, rok_i, rok_z, bx_cons, bx_nil, eADD, eBP, eC0, eC1, eC3, eCV1, eCm1, eGO, eGR, eIALD, jICgt, jIFne, eINC5, eLA0, eLA1, eLI2, eLI3, eLI4, eLI5, eMUL, ePI, eRI, eSI5, fFo_leastFilter_0, fFo_leastFilter_3, fFo_leastFilter_10, fFo_leastFilter_59, fFo_leastFilter_62, fFo_leastFilter_68, bFo_leastFilter_0, bFo_leastFilter_3, bFo_leastFilter_10, bFo_leastFilter_59, bFo_leastFilter_62, bFo_leastFilter_68, ln_xformerGrades, rg_xforesight_0, rg_xforesight_1, rg_xforesight_2, ty_xaqueduct, ty_xforesight, ty_xformerGrades, ty_xftrial, Option.toList_some, Option.toList_none, List.cons_append, List.nil_append, List.length_cons, List.length_nil, List.mem_cons, List.not_mem_nil, or_false, false_or, or_true, true_or, ↓reduceIte, true_and, and_true, Nat.reduceEqDiff, Nat.reduceAdd, Nat.reduceLeDiff, Nat.reduceLT, dl_i, dl_r, dl_n, dl_u, eq_self, not_true_eq_false, not_false_eq_true, n10, n01, nm0, n0m, ty48, nI_ml, nI_add, imp_t, imp_f]
      obtain ⟨L2, hL2⟩ : ∃ L2, L2 = up (up L 48 14 (nI (w * 3 + hb))) 48 15 (nI c) := ⟨_, rfl⟩
      rw [← hL2]
      have hX2 : XF 48 J L2 := by rw [hL2]; exact ((hX.tr hL.xf).up (by decide) (by decide)).up (by decide) (by decide)
      have eo : ∀ k, k ≠ 14 → k ≠ 15 → L2 48 k = L 48 k := fun k h1 h2 => by rw [hL2, up_n (by omega), up_n (by omega)]
      have ea : ∀ j k, 1 ≤ j → L2 (48 + j) k = L (48 + j) k := fun j k hj => by rw [hL2, up_n (by omega), up_n (by omega)]
      have e14 : L2 48 14 = nI (w * 3 + hb) := by rw [hL2, up_n (by omega), up_s]
      have e15 : L2 48 15 = nI c := by rw [hL2, up_s]
      have hD2 : DR L2 48 S n (I 500124) := hQ.1.cg s9 (fun k hk => eo k (by omega) (by omega)) (fun k _ => ea 1 k (by omega)) (fun k _ => ea 2 k (by omega)) (fun k _ => ea 3 k (by omega)) (fun k _ => ea 4 k (by omega)) (fun k _ => ea 5 k (by omega)) (fun k _ => ea 7 k (by omega))
      have hMI := hA.2.1.t hS hN.1.sm
      have esn : ∀ v h, v < S.1.1 → h < 3 → snX S (L2 (48 + 6)) (L2 48 14, L2 48 15) v h = snM I w hb (nI c) v h ∧ nI 0 ≤ snM I w hb (nI c) v h := by
        intro v h hv hh
        obtain ⟨gd, hg3, eg⟩ := (hQ.2.2.2.1 v (by omega)).2
        have h99 := vz_99 hS hv hh
        unfold snX snM snG
        rw [e14, e15, ea 6 v (by omega), (hQ.2.2.2.1 v (by omega)).1, sn_mt hMI hv hh]
        have hsn : sn0 I v h = nI (vz S v (5 + h)) := (sn_mt hMI hv hh).symm
        show sn0 I v h + I 500123 v + _ = sn0 I v h + I 500123 v + _ ∧ nI 0 ≤ sn0 I v h + I 500123 v + _
        rw [hsn, eg]
        by_cases z : v = w ∧ h = hb
        · rw [if_pos z, if_pos (by rw [z.1, z.2]), nI_add, nI_add]
          exact ⟨rfl, nI_nn (by omega)⟩
        · rw [if_neg z, if_neg (by rw [nIe (by omega) (by omega)]; omega), nI_add, nI_add]
          exact ⟨rfl, nI_nn (by omega)⟩
      have hP : Pe S.1.1 (PmD L2 48 S) (plS (I 500000 37), coS (I 500000 38), snM I w hb (nI c), nI 0) := by
        have hP0 := hQ.pe hS hMI (fun v _ => rfl)
        refine ⟨fun v hv => ⟨?_, ?_, fun h hh => (esn v h hv hh).1⟩, ?_⟩
        · rw [← (hP0.1 v hv).1]
          show (!plX L2 48 v) = !plX L 48 v
          unfold plX
          rw [eo 10 (by decide) (by decide)]
        · rw [← (hP0.1 v hv).2.1]
          show coX L2 48 v = coX L 48 v
          unfold coX
          rw [eo 11 (by decide) (by decide)]
        · show L2 48 17 = nI 0
          rw [eo 17 (by decide) (by decide)]
          exact hQ.2.2.2.2.2
      have hV : PmV L2 48 S := ⟨fun v h hv hh => by rw [(esn v h hv hh).1]; exact (esn v h hv hh).2, by rw [eo 17 (by decide) (by decide), hQ.2.2.2.2.2]; decide⟩
      refine call0 (x_go (q := (I 500124, L2 48 16)) hG (hA.xf (Or.inl rfl) hX2) ⟨hD2, rfl, rfl, hV⟩ hn (hN.1.tr (hX2.t (Or.inl rfl))) (fun M g1 g2 g3 g4 => ?_))
      have h5 := g4.1
      rw [it2_pe hP, gR_of rfl] at h5
      have h6 : M 55 (1 + hb) = _ := h5.2.2.2.2.2.2.2.2.2.2.1 (1 + hb) (by omega)
      rw [show 497 + (1 + hb) = 498 + hb by omega] at h6
      simp only [ixr_of, run_s, run_0, rFo_leastFilter, rok_i, rok_z, bx_cons, bx_nil, eADD, eBP, eC0, eC1, eC3, eCV1, eCm1, eGO, eGR, eIALD, jICgt, jIFne, eINC5, eLA0, eLA1, eLI2, eLI3, eLI4, eLI5, eMUL, ePI, eRI, eSI5, fFo_leastFilter_0, fFo_leastFilter_3, fFo_leastFilter_10, fFo_leastFilter_59, fFo_leastFilter_62, fFo_leastFilter_68, bFo_leastFilter_0, bFo_leastFilter_3, bFo_leastFilter_10, bFo_leastFilter_59, bFo_leastFilter_62, bFo_leastFilter_68, ln_xformerGrades, rg_xforesight_0, rg_xforesight_1, rg_xforesight_2, ty_xaqueduct, ty_xforesight, ty_xformerGrades, ty_xftrial, Option.toList_some, Option.toList_none, List.cons_append, List.nil_append, List.length_cons, List.length_nil, List.mem_cons, List.not_mem_nil, or_false, false_or, or_true, true_or, ↓reduceIte, true_and, and_true, Nat.reduceEqDiff, Nat.reduceAdd, Nat.reduceLeDiff, Nat.reduceLT, dl_i, dl_r, dl_n, dl_u, eq_self, not_true_eq_false, not_false_eq_true, n10, n01, nm0, n0m, ty48, rg48, ty55, ln55, i55, nI_add, imp_t, imp_f]
      rw [h6]
      refine ⟨fun z => ?_, fun z => ?_⟩
      · refine ih (c + 1) M (by omega) (hX2.tr g1) (fun c' hc' => ?_)
        by_cases q : c' = c
        · rw [q]; exact z
        · exact hno c' (by omega)
      · exact h2 c (by omega) z hno M (hX2.tr g1)
  refine hgo 20 [3] 0 _ _ _ _ _ ?_
  simp only [ixr_of, run_s, run_0, rFo_leastFilter, rok_i, rok_z, bx_cons, bx_nil, eADD, eBP, eC0, eC1, eC3, eCV1, eCm1, eGO, eGR, eIALD, jICgt, jIFne, eINC5, eLA0, eLA1, eLI2, eLI3, eLI4, eLI5, eMUL, ePI, eRI, eSI5, fFo_leastFilter_0, fFo_leastFilter_3, fFo_leastFilter_10, fFo_leastFilter_59, fFo_leastFilter_62, fFo_leastFilter_68, bFo_leastFilter_0, bFo_leastFilter_3, bFo_leastFilter_10, bFo_leastFilter_59, bFo_leastFilter_62, bFo_leastFilter_68, ln_xformerGrades, rg_xforesight_0, rg_xforesight_1, rg_xforesight_2, ty_xaqueduct, ty_xforesight, ty_xformerGrades, ty_xftrial, Option.toList_some, Option.toList_none, List.cons_append, List.nil_append, List.length_cons, List.length_nil, List.mem_cons, List.not_mem_nil, or_false, false_or, or_true, true_or, ↓reduceIte, true_and, and_true, Nat.reduceEqDiff, Nat.reduceAdd, Nat.reduceLeDiff, Nat.reduceLT, dl_i, dl_r, dl_n, dl_u, eq_self, not_true_eq_false, not_false_eq_true, n10, n01, nm0, n0m, imp_t, imp_f]
  exact loop 100 0 J (by omega) XF.rf (fun c' hc => absurd hc (by omega))
end XQe
