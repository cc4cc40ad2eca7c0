/-! foresight: days tried -/
theorem vw_dr {J : Iv} {y n : Nat} {S : Tn} {r : Nat → Int32} (h : DR J y S n r) : vwI (fun k => J (y + 7) (k - 497)) = vwI r := by
  have m := h.2.2.2.2.2.2.2.2.2.2.1
  have a1 : J (y + 7) 1 = r 498 := m 1 (by decide)
  have a2 : J (y + 7) 2 = r 499 := m 2 (by decide)
  have a3 : J (y + 7) 3 = r 500 := m 3 (by decide)
  unfold vwI
  simp only [Nat.reduceSub, a1, a2, a3]
theorem nIt {a b : Nat} (ha : a < 2147483648) (hb : b < 2147483648) : (nI a < nI b) = (a < b) := propext (nI_ltI ha hb)
theorem SayT.sm {I J : Iv} (h : SayT I J) : SayT J I := fun i hi => (h i hi).symm
theorem XF.up {y i k : Nat} {x : Int32} {J K : Iv} (h : XF y J K) (h1 : y ≤ i) (h2 : i < y + 8) : XF y J (up K i k x) := fun a h3 h4 h5 => by
  rw [← h a h3 h4 h5]
  funext q
  exact up_n (by omega)
/-- the class's days are as I says -/
def NwI (I J : Iv) (S : Tn) (n : Nat) : Prop := SayT I J ∧ NQ J 71 S n (I 500124) (I 500000 37) (I 500000 38) (I 500123)
theorem NwI.xf {I J K : Iv} {S : Tn} {n y : Nat} (h : NwI I J S n) (h9 : S.1.1 ≤ 9) (hy : y = 48 ∨ y = 59) (hX : XF y J K) : NwI I K S n := ⟨h.1.tr (hX.t (by unfold idY; omega)), h.2.mv h9 (fun i h1 h2 => hX i (by omega) (by omega) (idV_n (by omega)))⟩
theorem CpD.xf {J K : Iv} {y z : Nat} (h : CpD J K y z) : XF y J K := fun i _ hy _ => h.1 i hy
section XQd
variable {Γ : Gm} {l : Launch} {b : Bool} {d : Nat} {I J : Iv} {E : Ev} {kr : Kr} {kx : Kxx} {y t n : Nat} {S : Tn} {PS : Nat → List Pt} {op : Nat → Nat} {P : Pm} {q : (Nat → Int32) × Int32}
theorem x_go {m : Nat} (hG : GX Γ) (hA : TwR b J E S PS t op) (hD : DyS S P 48 n q J) (hn : n + m ≤ 1900) (hI : SayT I J)
    (hk : ∀ K, XF 48 J K → TwR b K E S PS t op → SayT I K → DyS S P 48 (n + m) (it2 I S.1.1 S.1.2 P q m) K → kr none K E) : Ex Γ l (shB b) (d + 6) (0, 0) mFo_go [.ref 47, .int (nI m)] J E kr kx := by
  refine ex_of (ls0 := [some (.ref 47), some (.int (nI m)), none]) tFo_go (by decide +kernel) kFo_go rfl (Nat.le_of_ble_eq_true rfl) rfl ?_
  intro go hgo
  have loop : ∀ (g k : Nat) (K : Iv), g + k = m → XF 48 J K → TwR b K E S PS t op → SayT I K → DyS S P 48 (n + k) (it2 I S.1.1 S.1.2 P q k) K → go 2 [some (.ref 47), some (.int (nI m)), some (.int (nI k))] [] K E (0, 0) := by
    intro g
    induction g with
    | zero =>
      intro k K hg hX hA' hI' hD'
      have : k = m := by omega
      subst this
      have c1 : (nI k ≤ nI k) = True := eq_true (Int32.le_refl _)
      refine hgo 20 [2] 2 _ _ _ _ _ ?_
      simp only [ixr_of, run_s, run_0, rFo_go, rok_i, rok_z, bx_cons, bx_nil, eC0, eCV1, eGO, eGR, jICge, eINC2, eLA0, eLI1, eLI2, eRV, eSI2, fFo_go_0, fFo_go_2, fFo_go_7, fFo_go_24, bFo_go_0, bFo_go_2, bFo_go_7, bFo_go_24, ln_xformerGrades, rg_xforesight_0, rg_xforesight_1, rg_xforesight_2, ty_xaqueduct, ty_xforesight, ty_xformerGrades, ty_xftrial, Option.toList_some, Option.toList_none, List.cons_append, List.nil_append, List.length_cons, List.length_nil, List.mem_cons, List.not_mem_nil, or_false, false_or, or_true, true_or, ↓reduceIte, true_and, and_true, Nat.reduceEqDiff, Nat.reduceAdd, Nat.reduceLeDiff, Nat.reduceLT, dl_i, dl_r, dl_n, dl_u, eq_self, not_true_eq_false, not_false_eq_true, n10, n01, nm0, n0m, c1, imp_t, imp_f]
      exact hk K hX hA' hI' hD'
    | succ g ih =>
      intro k K hg hX hA' hI' hD'
      have c1 : (nI m ≤ nI k) = False := by rw [nIl (by omega) (by omega)]; exact eq_false (by omega)
      have ty48 : tyc (shB b) E 48 = 3 := dyA_48.1
      refine hgo 20 [2] 2 _ _ _ _ _ ?_
      simp only [ixr_of, run_s, run_0, rFo_go, rok_i, rok_z, bx_cons, bx_nil, eC0, eCV1, eGO, eGR, jICge, eINC2, eLA0, eLI1, eLI2, eRV, eSI2, fFo_go_0, fFo_go_2, fFo_go_7, fFo_go_24, bFo_go_0, bFo_go_2, bFo_go_7, bFo_go_24, ln_xformerGrades, rg_xforesight_0, rg_xforesight_1, rg_xforesight_2, ty_xaqueduct, ty_xforesight, ty_xformerGrades, ty_xftrial, Option.toList_some, Option.toList_none, List.cons_append, List.nil_append, List.length_cons, List.length_nil, List.mem_cons, List.not_mem_nil, or_false, false_or, or_true, true_or, ↓reduceIte, true_and, and_true, Nat.reduceEqDiff, Nat.reduceAdd, Nat.reduceLeDiff, Nat.reduceLT, dl_i, dl_r, dl_n, dl_u, eq_self, not_true_eq_false, not_false_eq_true, n10, n01, nm0, n0m, c1, imp_t, imp_f]
      refine call0 (x_day hG hA' (Or.inl rfl) hD' (by omega) hI' (fun L h1 h2 h3 h4 => ?_))
      simp only [ixr_of, run_s, run_0, rFo_go, rok_i, rok_z, bx_cons, bx_nil, eC0, eCV1, eGO, eGR, jICge, eINC2, eLA0, eLI1, eLI2, eRV, eSI2, fFo_go_0, fFo_go_2, fFo_go_7, fFo_go_24, bFo_go_0, bFo_go_2, bFo_go_7, bFo_go_24, ln_xformerGrades, rg_xforesight_0, rg_xforesight_1, rg_xforesight_2, ty_xaqueduct, ty_xforesight, ty_xformerGrades, ty_xftrial, Option.toList_some, Option.toList_none, List.cons_append, List.nil_append, List.length_cons, List.length_nil, List.mem_cons, List.not_mem_nil, or_false, false_or, or_true, true_or, ↓reduceIte, true_and, and_true, Nat.reduceEqDiff, Nat.reduceAdd, Nat.reduceLeDiff, Nat.reduceLT, dl_i, dl_r, dl_n, dl_u, eq_self, not_true_eq_false, not_false_eq_true, n10, n01, nm0, n0m, nI_add, imp_t, imp_f]
      exact ih (k + 1) L (by omega) (hX.tr h1) h2 h3 h4
  refine hgo 20 [2] 0 _ _ _ _ _ ?_
  simp only [ixr_of, run_s, run_0, rFo_go, rok_i, rok_z, bx_cons, bx_nil, eC0, eCV1, eGO, eGR, jICge, eINC2, eLA0, eLI1, eLI2, eRV, eSI2, fFo_go_0, fFo_go_2, fFo_go_7, fFo_go_24, bFo_go_0, bFo_go_2, bFo_go_7, bFo_go_24, ln_xformerGrades, rg_xforesight_0, rg_xforesight_1, rg_xforesight_2, ty_xaqueduct, ty_xforesight, ty_xformerGrades, ty_xftrial, Option.toList_some, Option.toList_none, List.cons_append, List.nil_append, List.length_cons, List.length_nil, List.mem_cons, List.not_mem_nil, or_false, false_or, or_true, true_or, ↓reduceIte, true_and, and_true, Nat.reduceEqDiff, Nat.reduceAdd, Nat.reduceLeDiff, Nat.reduceLT, dl_i, dl_r, dl_n, dl_u, eq_self, not_true_eq_false, not_false_eq_true, n10, n01, nm0, n0m, imp_t, imp_f]
  exact loop m 0 J (by omega) XF.rf hA hI hD
theorem x_after {m : Nat} (hG : GX Γ) (hA : TwR b J E S PS t op) (hN : NwI I J S n) (hn : n + m ≤ 1900)
    (hk : ∀ K, XF 48 J K → DR K 48 S (n + m) (gR I S.1.1 S.1.2 (pmN I) (I 500124) m) → kr (some (.ref 48)) K E) : Ex Γ l (shB b) (d + 7) (0, 0) mFo_after [.ref 47, .ref 71, .int (nI m)] J E kr kx := by
  refine ex_of (ls0 := [some (.ref 47), some (.ref 71), some (.int (nI m))]) tFo_after (by decide +kernel) kFo_after rfl (Nat.le_of_ble_eq_true rfl) rfl ?_
  intro go hgo
  have hS := hA.1.2.2.2.1
  refine hgo 20 [] 0 _ _ _ _ _ ?_
  simp only [ixr_of, run_s, run_0, rFo_after, rok_i, rok_z, bx_cons, bx_nil, eCV1, eGR, eLA0, eLA1, eLI2, eRA, fFo_after_0, bFo_after_0, ln_xformerGrades, rg_xforesight_0, rg_xforesight_1, rg_xforesight_2, ty_xaqueduct, ty_xforesight, ty_xformerGrades, ty_xftrial, Option.toList_some, Option.toList_none, List.cons_append, List.nil_append, List.length_cons, List.length_nil, List.mem_cons, List.not_mem_nil, or_false, false_or, or_true, true_or, ↓reduceIte, true_and, and_true, Nat.reduceEqDiff, Nat.reduceAdd, Nat.reduceLeDiff, Nat.reduceLT, dl_i, dl_r, dl_n, dl_u, eq_self, not_true_eq_false, not_false_eq_true, n10, n01, nm0, n0m, imp_t, imp_f]
  refine call0 (x_copyFrom dyA_48 dyA_71 (by decide) (fun K hK => ?_))
  have hX := hK.xf
  have hA2 := hA.xf (Or.inl rfl) hX
  have hI := hN.1.tr (hX.t (Or.inl rfl))
  have hQ2 := hN.2.cp hS.1 hK
  simp only [ixr_of, run_s, run_0, rFo_after, rok_i, rok_z, bx_cons, bx_nil, eCV1, eGR, eLA0, eLA1, eLI2, eRA, fFo_after_0, bFo_after_0, ln_xformerGrades, rg_xforesight_0, rg_xforesight_1, rg_xforesight_2, ty_xaqueduct, ty_xforesight, ty_xformerGrades, ty_xftrial, Option.toList_some, Option.toList_none, List.cons_append, List.nil_append, List.length_cons, List.length_nil, List.mem_cons, List.not_mem_nil, or_false, false_or, or_true, true_or, ↓reduceIte, true_and, and_true, Nat.reduceEqDiff, Nat.reduceAdd, Nat.reduceLeDiff, Nat.reduceLT, dl_i, dl_r, dl_n, dl_u, eq_self, not_true_eq_false, not_false_eq_true, n10, n01, nm0, n0m, imp_t, imp_f]
  refine call0 (x_go hG hA2 (hQ2.s hS) hn hI (fun L h1 h2 h3 h4 => ?_))
  simp only [ixr_of, run_s, run_0, rFo_after, rok_i, rok_z, bx_cons, bx_nil, eCV1, eGR, eLA0, eLA1, eLI2, eRA, fFo_after_0, bFo_after_0, ln_xformerGrades, rg_xforesight_0, rg_xforesight_1, rg_xforesight_2, ty_xaqueduct, ty_xforesight, ty_xformerGrades, ty_xftrial, Option.toList_some, Option.toList_none, List.cons_append, List.nil_append, List.length_cons, List.length_nil, List.mem_cons, List.not_mem_nil, or_false, false_or, or_true, true_or, ↓reduceIte, true_and, and_true, Nat.reduceEqDiff, Nat.reduceAdd, Nat.reduceLeDiff, Nat.reduceLT, dl_i, dl_r, dl_n, dl_u, eq_self, not_true_eq_false, not_false_eq_true, n10, n01, nm0, n0m, imp_t, imp_f]
  refine ⟨⟨_, rfl⟩, hk L (hX.tr h1) ?_⟩
  have hP := hQ2.pe hS (hA.2.1.t hS hN.1.sm) (fun v _ => rfl)
  have h5 := h4.1
  rw [it2_pe hP, gR_of rfl] at h5
  exact h5
theorem x_firstSeen {x : Int32} (hG : GX Γ) (hA : TwR b J E S PS t op) (hN : NwI I J S n) (hn : n ≤ 1700)
    (h2 : ∀ k, 1 ≤ k → k ≤ 99 → vwI (gR I S.1.1 S.1.2 (pmN I) (I 500124) k) = x → (∀ m, 1 ≤ m → m < k → ¬ vwI (gR I S.1.1 S.1.2 (pmN I) (I 500124) m) = x) → ∀ K, XF 48 J K → kr (some (.int (nI k))) K E)
    (h3 : (∀ m, 1 ≤ m → m ≤ 99 → ¬ vwI (gR I S.1.1 S.1.2 (pmN I) (I 500124) m) = x) → ∀ K, XF 48 J K → kr (some (.int (-1))) K E) : Ex Γ l (shB b) (d + 7) (0, 0) mFo_firstSeen [.ref 47, .ref 71, .int x] J E kr kx := by
  refine ex_of (ls0 := [some (.ref 47), some (.ref 71), some (.int x), none]) tFo_firstSeen (by decide +kernel) kFo_firstSeen rfl (Nat.le_of_ble_eq_true rfl) rfl ?_
  intro go hgo
  have hS := hA.1.2.2.2.1
  have loop : ∀ (g k : Nat) (P : Pm) (q : (Nat → Int32) × Int32) (K : Iv), g + k = 99 → XF 48 J K → TwR b K E S PS t op → SayT I K → Pe S.1.1 P (pmN I) → DyS S P 48 (n + k) (it2 I S.1.1 S.1.2 P q k) K → q.1 = I 500124 → (∀ m, 1 ≤ m → m ≤ k → ¬ vwI (gR I S.1.1 S.1.2 (pmN I) (I 500124) m) = x) → go 10 [some (.ref 47), some (.ref 71), some (.int x), some (.int (nI (k + 1)))] [] K E (0, 0) := by
    intro g
    induction g with
    | zero =>
      intro k P q K hg hX hA' hI' hP hD' hq hno
      have : k = 99 := by omega
      subst this
      refine hgo 20 [10] 10 _ _ _ _ _ ?_
      have c1 : (nI 99 < nI 100) = True := by decide
      simp only [ixr_of, run_s, run_0, rFo_firstSeen, rok_i, rok_z, bx_cons, bx_nil, eBP, eC1, eCV0, eCV1, eCm1, eGO, eGR, jICgt, jICne, eINC3, eLA0, eLA1, eLI2, eLI3, eRI, eSI3, fFo_firstSeen_0, fFo_firstSeen_10, fFo_firstSeen_16, fFo_firstSeen_38, fFo_firstSeen_40, fFo_firstSeen_46, bFo_firstSeen_0, bFo_firstSeen_10, bFo_firstSeen_16, bFo_firstSeen_38, bFo_firstSeen_40, bFo_firstSeen_46, ln_xformerGrades, rg_xforesight_0, rg_xforesight_1, rg_xforesight_2, ty_xaqueduct, ty_xforesight, ty_xformerGrades, ty_xftrial, Option.toList_some, Option.toList_none, List.cons_append, List.nil_append, List.length_cons, List.length_nil, List.mem_cons, List.not_mem_nil, or_false, false_or, or_true, true_or, ↓reduceIte, true_and, and_true, Nat.reduceEqDiff, Nat.reduceAdd, Nat.reduceLeDiff, Nat.reduceLT, dl_i, dl_r, dl_n, dl_u, eq_self, not_true_eq_false, not_false_eq_true, n10, n01, nm0, n0m, c1, imp_t, imp_f]
      exact h3 hno K hX
    | succ g ih =>
      intro k P q K hg hX hA' hI' hP hD' hq hno
      have c1 : (nI 99 < nI (k + 1)) = False := by rw [nIt (by omega) (by omega)]; exact eq_false (by omega)
      refine hgo 20 [10] 10 _ _ _ _ _ ?_
      simp only [ixr_of, run_s, run_0, rFo_firstSeen, rok_i, rok_z, bx_cons, bx_nil, eBP, eC1, eCV0, eCV1, eCm1, eGO, eGR, jICgt, jICne, eINC3, eLA0, eLA1, eLI2, eLI3, eRI, eSI3, fFo_firstSeen_0, fFo_firstSeen_10, fFo_firstSeen_16, fFo_firstSeen_38, fFo_firstSeen_40, fFo_firstSeen_46, bFo_firstSeen_0, bFo_firstSeen_10, bFo_firstSeen_16, bFo_firstSeen_38, bFo_firstSeen_40, bFo_firstSeen_46, ln_xformerGrades, rg_xforesight_0, rg_xforesight_1, rg_xforesight_2, ty_xaqueduct, ty_xforesight, ty_xformerGrades, ty_xftrial, Option.toList_some, Option.toList_none, List.cons_append, List.nil_append, List.length_cons, List.length_nil, List.mem_cons, List.not_mem_nil, or_false, false_or, or_true, true_or, ↓reduceIte, true_and, and_true, Nat.reduceEqDiff, Nat.reduceAdd, Nat.reduceLeDiff, Nat.reduceLT, dl_i, dl_r, dl_n, dl_u, eq_self, not_true_eq_false, not_false_eq_true, n10, n01, nm0, n0m, c1, imp_t, imp_f]
      refine call0 (x_day hG hA' (Or.inl rfl) hD' (by omega) hI' (fun L h1 h2' h3' h4 => ?_))
      simp only [ixr_of, run_s, run_0, rFo_firstSeen, rok_i, rok_z, bx_cons, bx_nil, eBP, eC1, eCV0, eCV1, eCm1, eGO, eGR, jICgt, jICne, eINC3, eLA0, eLA1, eLI2, eLI3, eRI, eSI3, fFo_firstSeen_0, fFo_firstSeen_10, fFo_firstSeen_16, fFo_firstSeen_38, fFo_firstSeen_40, fFo_firstSeen_46, bFo_firstSeen_0, bFo_firstSeen_10, bFo_firstSeen_16, bFo_firstSeen_38, bFo_firstSeen_40, bFo_firstSeen_46, ln_xformerGrades, rg_xforesight_0, rg_xforesight_1, rg_xforesight_2, ty_xaqueduct, ty_xforesight, ty_xformerGrades, ty_xftrial, Option.toList_some, Option.toList_none, List.cons_append, List.nil_append, List.length_cons, List.length_nil, List.mem_cons, List.not_mem_nil, or_false, false_or, or_true, true_or, ↓reduceIte, true_and, and_true, Nat.reduceEqDiff, Nat.reduceAdd, Nat.reduceLeDiff, Nat.reduceLT, dl_i, dl_r, dl_n, dl_u, eq_self, not_true_eq_false, not_false_eq_true, n10, n01, nm0, n0m, imp_t, imp_f]
      refine call0 (x_seen dyA_48 ?_)
      simp only [ixr_of, run_s, run_0, rFo_firstSeen, rok_i, rok_z, bx_cons, bx_nil, eBP, eC1, eCV0, eCV1, eCm1, eGO, eGR, jICgt, jICne, eINC3, eLA0, eLA1, eLI2, eLI3, eRI, eSI3, fFo_firstSeen_0, fFo_firstSeen_10, fFo_firstSeen_16, fFo_firstSeen_38, fFo_firstSeen_40, fFo_firstSeen_46, bFo_firstSeen_0, bFo_firstSeen_10, bFo_firstSeen_16, bFo_firstSeen_38, bFo_firstSeen_40, bFo_firstSeen_46, ln_xformerGrades, rg_xforesight_0, rg_xforesight_1, rg_xforesight_2, ty_xaqueduct, ty_xforesight, ty_xformerGrades, ty_xftrial, Option.toList_some, Option.toList_none, List.cons_append, List.nil_append, List.length_cons, List.length_nil, List.mem_cons, List.not_mem_nil, or_false, false_or, or_true, true_or, ↓reduceIte, true_and, and_true, Nat.reduceEqDiff, Nat.reduceAdd, Nat.reduceLeDiff, Nat.reduceLT, dl_i, dl_r, dl_n, dl_u, eq_self, not_true_eq_false, not_false_eq_true, n10, n01, nm0, n0m, imp_t, imp_f]
      rw [vw_dr h4.1]
      have e : vwI (st2 I S.1.1 S.1.2 P (it2 I S.1.1 S.1.2 P q k)).1 = vwI (gR I S.1.1 S.1.2 (pmN I) (I 500124) (k + 1)) := by
        show vwI (it2 I S.1.1 S.1.2 P q (k + 1)).1 = _
        rw [it2_pe hP, show q = (I 500124, q.2) from Prod.ext hq rfl, gR_of rfl]
      rw [e]
      refine ⟨fun c => ?_, fun c => ?_⟩
      · simp only [ixr_of, run_s, run_0, rFo_firstSeen, rok_i, rok_z, bx_cons, bx_nil, eBP, eC1, eCV0, eCV1, eCm1, eGO, eGR, jICgt, jICne, eINC3, eLA0, eLA1, eLI2, eLI3, eRI, eSI3, fFo_firstSeen_0, fFo_firstSeen_10, fFo_firstSeen_16, fFo_firstSeen_38, fFo_firstSeen_40, fFo_firstSeen_46, bFo_firstSeen_0, bFo_firstSeen_10, bFo_firstSeen_16, bFo_firstSeen_38, bFo_firstSeen_40, bFo_firstSeen_46, ln_xformerGrades, rg_xforesight_0, rg_xforesight_1, rg_xforesight_2, ty_xaqueduct, ty_xforesight, ty_xformerGrades, ty_xftrial, Option.toList_some, Option.toList_none, List.cons_append, List.nil_append, List.length_cons, List.length_nil, List.mem_cons, List.not_mem_nil, or_false, false_or, or_true, true_or, ↓reduceIte, true_and, and_true, Nat.reduceEqDiff, Nat.reduceAdd, Nat.reduceLeDiff, Nat.reduceLT, dl_i, dl_r, dl_n, dl_u, eq_self, not_true_eq_false, not_false_eq_true, n10, n01, nm0, n0m, nI_add, imp_t, imp_f]
        refine ih (k + 1) P q L (by omega) (hX.tr h1) h2' h3' hP h4 hq (fun m hm1 hm => ?_)
        by_cases z : m = k + 1
        · rw [z]; exact c
        · exact hno m hm1 (by omega)
      · exact h2 (k + 1) (by omega) (by omega) c (fun m hm1 hm => hno m hm1 (by omega)) L (hX.tr h1)
  refine hgo 20 [10] 0 _ _ _ _ _ ?_
  simp only [ixr_of, run_s, run_0, rFo_firstSeen, rok_i, rok_z, bx_cons, bx_nil, eBP, eC1, eCV0, eCV1, eCm1, eGO, eGR, jICgt, jICne, eINC3, eLA0, eLA1, eLI2, eLI3, eRI, eSI3, fFo_firstSeen_0, fFo_firstSeen_10, fFo_firstSeen_16, fFo_firstSeen_38, fFo_firstSeen_40, fFo_firstSeen_46, bFo_firstSeen_0, bFo_firstSeen_10, bFo_firstSeen_16, bFo_firstSeen_38, bFo_firstSeen_40, bFo_firstSeen_46, ln_xformerGrades, rg_xforesight_0, rg_xforesight_1, rg_xforesight_2, ty_xaqueduct, ty_xforesight, ty_xformerGrades, ty_xftrial, Option.toList_some, Option.toList_none, List.cons_append, List.nil_append, List.length_cons, List.length_nil, List.mem_cons, List.not_mem_nil, or_false, false_or, or_true, true_or, ↓reduceIte, true_and, and_true, Nat.reduceEqDiff, Nat.reduceAdd, Nat.reduceLeDiff, Nat.reduceLT, dl_i, dl_r, dl_n, dl_u, eq_self, not_true_eq_false, not_false_eq_true, n10, n01, nm0, n0m, imp_t, imp_f]
  refine call0 (x_copyFrom dyA_48 dyA_71 (by decide) (fun K hK => ?_))
  have hX := hK.xf
  have hQ2 := hN.2.cp hS.1 hK
  simp only [ixr_of, run_s, run_0, rFo_firstSeen, rok_i, rok_z, bx_cons, bx_nil, eBP, eC1, eCV0, eCV1, eCm1, eGO, eGR, jICgt, jICne, eINC3, eLA0, eLA1, eLI2, eLI3, eRI, eSI3, fFo_firstSeen_0, fFo_firstSeen_10, fFo_firstSeen_16, fFo_firstSeen_38, fFo_firstSeen_40, fFo_firstSeen_46, bFo_firstSeen_0, bFo_firstSeen_10, bFo_firstSeen_16, bFo_firstSeen_38, bFo_firstSeen_40, bFo_firstSeen_46, ln_xformerGrades, rg_xforesight_0, rg_xforesight_1, rg_xforesight_2, ty_xaqueduct, ty_xforesight, ty_xformerGrades, ty_xftrial, Option.toList_some, Option.toList_none, List.cons_append, List.nil_append, List.length_cons, List.length_nil, List.mem_cons, List.not_mem_nil, or_false, false_or, or_true, true_or, ↓reduceIte, true_and, and_true, Nat.reduceEqDiff, Nat.reduceAdd, Nat.reduceLeDiff, Nat.reduceLT, dl_i, dl_r, dl_n, dl_u, eq_self, not_true_eq_false, not_false_eq_true, n10, n01, nm0, n0m, imp_t, imp_f]
  exact loop 99 0 _ (I 500124, K 48 16) K (by omega) hX (hA.xf (Or.inl rfl) hX) (hN.1.tr (hX.t (Or.inl rfl))) (hQ2.pe hS (hA.2.1.t hS hN.1.sm) (fun v _ => rfl)) (hQ2.s hS) rfl (fun m a c => absurd c (by omega))
theorem x_isClearBy {x : Int32} {m : Nat} (hG : GX Γ) (hA : TwR b J E S PS t op) (hN : NwI I J S n) (hn : n + m ≤ 1900)
    (hk : ∀ K, XF 48 J K → kr (some (.int (bi (vwI (gR I S.1.1 S.1.2 (pmW I x) (I 500124) m) = nI 0)))) K E) : Ex Γ l (shB b) (d + 7) (0, 0) mFo_isClearBy [.ref 47, .ref 71, .int x, .int (nI m)] J E kr kx := by
  refine ex_of (ls0 := [some (.ref 47), some (.ref 71), some (.int x), some (.int (nI m))]) tFo_isClearBy (by decide +kernel) kFo_isClearBy rfl (Nat.le_of_ble_eq_true rfl) rfl ?_
  intro go hgo
  have hS := hA.1.2.2.2.1
  have ty48 : tyc (shB b) E 48 = 3 := dyA_48.1
  refine hgo 20 [] 0 _ _ _ _ _ ?_
  simp only [ixr_of, run_s, run_0, rFo_isClearBy, rok_i, rok_z, bx_cons, bx_nil, eC0, eC1, eCV0, eCV1, eGO, eGR, jIFne, eLA0, eLA1, eLI2, eLI3, ePI, eRI, fFo_isClearBy_0, fFo_isClearBy_31, fFo_isClearBy_35, fFo_isClearBy_36, bFo_isClearBy_0, bFo_isClearBy_31, bFo_isClearBy_35, bFo_isClearBy_36, ln_xformerGrades, rg_xforesight_0, rg_xforesight_1, rg_xforesight_2, ty_xaqueduct, ty_xforesight, ty_xformerGrades, ty_xftrial, Option.toList_some, Option.toList_none, List.cons_append, List.nil_append, List.length_cons, List.length_nil, List.mem_cons, List.not_mem_nil, or_false, false_or, or_true, true_or, ↓reduceIte, true_and, and_true, Nat.reduceEqDiff, Nat.reduceAdd, Nat.reduceLeDiff, Nat.reduceLT, dl_i, dl_r, dl_n, dl_u, eq_self, not_true_eq_false, not_false_eq_true, n10, n01, nm0, n0m, imp_t, imp_f]
  refine call0 (x_copyFrom dyA_48 dyA_71 (by decide) (fun K hK => ?_))
  have hX : XF 48 J (up K 48 10 x) := hK.xf.up (by decide) (by decide)
  have hQ2 := (hN.2.cp hS.1 hK).upl (x := x) hS.1
  simp only [ixr_of, run_s, run_0, rFo_isClearBy, rok_i, rok_z, bx_cons, bx_nil, eC0, eC1, eCV0, eCV1, eGO, eGR, jIFne, eLA0, eLA1, eLI2, eLI3, ePI, eRI, fFo_isClearBy_0, fFo_isClearBy_31, fFo_isClearBy_35, fFo_isClearBy_36, bFo_isClearBy_0, bFo_isClearBy_31, bFo_isClearBy_35, bFo_isClearBy_36, ln_xformerGrades, rg_xforesight_0, rg_xforesight_1, rg_xforesight_2, ty_xaqueduct, ty_xforesight, ty_xformerGrades, ty_xftrial, Option.toList_some, Option.toList_none, List.cons_append, List.nil_append, List.length_cons, List.length_nil, List.mem_cons, List.not_mem_nil, or_false, false_or, or_true, true_or, ↓reduceIte, true_and, and_true, Nat.reduceEqDiff, Nat.reduceAdd, Nat.reduceLeDiff, Nat.reduceLT, dl_i, dl_r, dl_n, dl_u, eq_self, not_true_eq_false, not_false_eq_true, n10, n01, nm0, n0m, ty48, imp_t, imp_f]
  refine call0 (x_go hG (hA.xf (Or.inl rfl) hX) (hQ2.s hS) hn (hN.1.tr (hX.t (Or.inl rfl))) (fun L h1 h2 h3 h4 => ?_))
  simp only [ixr_of, run_s, run_0, rFo_isClearBy, rok_i, rok_z, bx_cons, bx_nil, eC0, eC1, eCV0, eCV1, eGO, eGR, jIFne, eLA0, eLA1, eLI2, eLI3, ePI, eRI, fFo_isClearBy_0, fFo_isClearBy_31, fFo_isClearBy_35, fFo_isClearBy_36, bFo_isClearBy_0, bFo_isClearBy_31, bFo_isClearBy_35, bFo_isClearBy_36, ln_xformerGrades, rg_xforesight_0, rg_xforesight_1, rg_xforesight_2, ty_xaqueduct, ty_xforesight, ty_xformerGrades, ty_xftrial, Option.toList_some, Option.toList_none, List.cons_append, List.nil_append, List.length_cons, List.length_nil, List.mem_cons, List.not_mem_nil, or_false, false_or, or_true, true_or, ↓reduceIte, true_and, and_true, Nat.reduceEqDiff, Nat.reduceAdd, Nat.reduceLeDiff, Nat.reduceLT, dl_i, dl_r, dl_n, dl_u, eq_self, not_true_eq_false, not_false_eq_true, n10, n01, nm0, n0m, imp_t, imp_f]
  refine call0 (x_seen dyA_48 ?_)
  simp only [ixr_of, run_s, run_0, rFo_isClearBy, rok_i, rok_z, bx_cons, bx_nil, eC0, eC1, eCV0, eCV1, eGO, eGR, jIFne, eLA0, eLA1, eLI2, eLI3, ePI, eRI, fFo_isClearBy_0, fFo_isClearBy_31, fFo_isClearBy_35, fFo_isClearBy_36, bFo_isClearBy_0, bFo_isClearBy_31, bFo_isClearBy_35, bFo_isClearBy_36, ln_xformerGrades, rg_xforesight_0, rg_xforesight_1, rg_xforesight_2, ty_xaqueduct, ty_xforesight, ty_xformerGrades, ty_xftrial, Option.toList_some, Option.toList_none, List.cons_append, List.nil_append, List.length_cons, List.length_nil, List.mem_cons, List.not_mem_nil, or_false, false_or, or_true, true_or, ↓reduceIte, true_and, and_true, Nat.reduceEqDiff, Nat.reduceAdd, Nat.reduceLeDiff, Nat.reduceLT, dl_i, dl_r, dl_n, dl_u, eq_self, not_true_eq_false, not_false_eq_true, n10, n01, nm0, n0m, imp_t, imp_f]
  have hP : Pe S.1.1 _ (pmW I x) := hQ2.pe hS (hA.2.1.t hS hN.1.sm) (fun v _ => rfl)
  have h5 := h4.1
  rw [it2_pe hP, gR_of rfl] at h5
  rw [vw_dr h5]
  have hk := hk L (hX.tr h1)
  refine ⟨fun c => ?_, fun c => ?_⟩
  · rw [bi_f c] at hk
    exact hk
  · rw [bi_t c] at hk
    exact hk
end XQd
