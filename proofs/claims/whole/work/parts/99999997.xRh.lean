/-! public methods, 6 -/
theorem g_span {q z : Nat} {J : Iv} {E : Ev} {a b e f g : Int32} (h : GS q z J E) : StX1 mH_span mM_span [.int a, .int b, .int e, .int f, .int g] 1 q z J E := by
  have hG0 := h
  obtain ⟨S, PS, t, op, bk, kb, n, n0, p, c, mk, tp, im, nim, rw', r1, r2, r3, r4, r5, r6, r7, r8, r9⟩ := h
  have hS := r1.1.1.2.2.2.1
  have s9 := hS.1
  have hVS := r1.1.2.2.1
  have hq32 := r4.1.1
  obtain ⟨g3, hT, hXt, -⟩ := id r1.1.1
  have tT : tyc shN E t = 10 := (hT.A (b := true) (E := E)).1
  have v7 := hXt.1
  have h40 := hVS.1
  by_cases hb : nI 1 ≤ b ∧ b ≤ nI 30
  rotate_left
  · refine ⟨(1, 6), q, z, Cst.x, hq32, fun Γ l d kr kx hG _ hxI => ?_⟩
    refine ex_of (ls0 := [some (.ref 0), some (.int a), some (.int b), some (.int e), some (.int f), some (.int g), none, none, none, none, none]) tH_span (by decide +kernel) kH_span rfl (Nat.le_of_ble_eq_true rfl) rfl ?_
    intro go hgo
    refine hgo 20 [] 0 _ _ _ _ _ ?_
    simp only [ixr_of, run_s, run_0, rH_span, rok_i, rok_z, bx_cons, bx_nil, eADD, eBP, eC0, eC1, eC2, eCV0, eCV2, eCV3, eCV4, eGO, eGR, jICge, jICne, jIFne, eINC9, eLA0, eLDCW, eLI1, eLI10, eLI2, eLI3, eLI4, eLI5, eLI6, eLI7, eLI8, eLI9, eMAX, eMIN, eRI, eSI10, eSI6, eSI7, eSI8, eSI9, fH_span_0, fH_span_37, fH_span_43, fH_span_78, fH_span_82, fH_span_83, fH_span_110, fH_span_115, fH_span_120, fH_span_126, fH_span_131, fH_span_133, bH_span_0, bH_span_37, bH_span_43, bH_span_78, bH_span_82, bH_span_83, bH_span_110, bH_span_115, bH_span_120, bH_span_126, bH_span_131, bH_span_133, ln_ximages, ln_xthought, rg_xmain_0, rg_xmain_1, rg_xmain_10, rg_xmain_2, rg_xmain_3, rg_xmain_4, rg_xmain_5, rg_xmain_6, rg_xmain_7, ty_xaqueduct, ty_xdiary, ty_xforesight, ty_ximages, ty_xmain, ty_xnow, ty_xopinionReader, ty_xtape, ty_xtasters, ty_xthought, Option.toList_some, Option.toList_none, List.cons_append, List.nil_append, List.length_cons, List.length_nil, List.mem_cons, List.not_mem_nil, or_false, false_or, or_true, true_or, ↓reduceIte, true_and, and_true, Nat.reduceEqDiff, Nat.reduceAdd, Nat.reduceLeDiff, Nat.reduceLT, dl_i, dl_r, dl_n, dl_u, eq_self, not_true_eq_false, not_false_eq_true, n10, n01, nm0, n0m, imp_t, imp_f]
    refine ⟨1, 6, fun _ => Nat.le_refl _, fun _ => Nat.le_refl _, x_needInX hG.1.1 hG.2.1 hG.2.2 hb (hxI _ _ (fun Γ l d kr kx hk => ?_))⟩
    exact c_span (hVS.t say0) (fun _ => hk _ (hG0.rf (rn := 1) (w := 1) (by decide)).1.un (hG0.rf (rn := 1) (w := 1) (by decide)).2) (fun a1 a2 a3 a4 a5 a6 a7 a8 a9 a10 a11 a12 a13 a14 => absurd (by rw [a7]; exact rgI (by omega) (by omega) (by decide)) hb)
  by_cases hg : (nI 0 ≤ e ∧ e ≤ nI 16) ∧ (nI 1 ≤ f ∧ f ≤ nI 60)
  rotate_left
  · refine ⟨(1, 6), q, z, Cst.x, hq32, fun Γ l d kr kx hG _ hxI => ?_⟩
    refine ex_of (ls0 := [some (.ref 0), some (.int a), some (.int b), some (.int e), some (.int f), some (.int g), none, none, none, none, none]) tH_span (by decide +kernel) kH_span rfl (Nat.le_of_ble_eq_true rfl) rfl ?_
    intro go hgo
    refine hgo 20 [] 0 _ _ _ _ _ ?_
    simp only [ixr_of, run_s, run_0, rH_span, rok_i, rok_z, bx_cons, bx_nil, eADD, eBP, eC0, eC1, eC2, eCV0, eCV2, eCV3, eCV4, eGO, eGR, jICge, jICne, jIFne, eINC9, eLA0, eLDCW, eLI1, eLI10, eLI2, eLI3, eLI4, eLI5, eLI6, eLI7, eLI8, eLI9, eMAX, eMIN, eRI, eSI10, eSI6, eSI7, eSI8, eSI9, fH_span_0, fH_span_37, fH_span_43, fH_span_78, fH_span_82, fH_span_83, fH_span_110, fH_span_115, fH_span_120, fH_span_126, fH_span_131, fH_span_133, bH_span_0, bH_span_37, bH_span_43, bH_span_78, bH_span_82, bH_span_83, bH_span_110, bH_span_115, bH_span_120, bH_span_126, bH_span_131, bH_span_133, ln_ximages, ln_xthought, rg_xmain_0, rg_xmain_1, rg_xmain_10, rg_xmain_2, rg_xmain_3, rg_xmain_4, rg_xmain_5, rg_xmain_6, rg_xmain_7, ty_xaqueduct, ty_xdiary, ty_xforesight, ty_ximages, ty_xmain, ty_xnow, ty_xopinionReader, ty_xtape, ty_xtasters, ty_xthought, Option.toList_some, Option.toList_none, List.cons_append, List.nil_append, List.length_cons, List.length_nil, List.mem_cons, List.not_mem_nil, or_false, false_or, or_true, true_or, ↓reduceIte, true_and, and_true, Nat.reduceEqDiff, Nat.reduceAdd, Nat.reduceLeDiff, Nat.reduceLT, dl_i, dl_r, dl_n, dl_u, eq_self, not_true_eq_false, not_false_eq_true, n10, n01, nm0, n0m, imp_t, imp_f]
    refine call0 (x_needIn hb ?_)
    simp only [ixr_of, run_s, run_0, rH_span, rok_i, rok_z, bx_cons, bx_nil, eADD, eBP, eC0, eC1, eC2, eCV0, eCV2, eCV3, eCV4, eGO, eGR, jICge, jICne, jIFne, eINC9, eLA0, eLDCW, eLI1, eLI10, eLI2, eLI3, eLI4, eLI5, eLI6, eLI7, eLI8, eLI9, eMAX, eMIN, eRI, eSI10, eSI6, eSI7, eSI8, eSI9, fH_span_0, fH_span_37, fH_span_43, fH_span_78, fH_span_82, fH_span_83, fH_span_110, fH_span_115, fH_span_120, fH_span_126, fH_span_131, fH_span_133, bH_span_0, bH_span_37, bH_span_43, bH_span_78, bH_span_82, bH_span_83, bH_span_110, bH_span_115, bH_span_120, bH_span_126, bH_span_131, bH_span_133, ln_ximages, ln_xthought, rg_xmain_0, rg_xmain_1, rg_xmain_10, rg_xmain_2, rg_xmain_3, rg_xmain_4, rg_xmain_5, rg_xmain_6, rg_xmain_7, ty_xaqueduct, ty_xdiary, ty_xforesight, ty_ximages, ty_xmain, ty_xnow, ty_xopinionReader, ty_xtape, ty_xtasters, ty_xthought, Option.toList_some, Option.toList_none, List.cons_append, List.nil_append, List.length_cons, List.length_nil, List.mem_cons, List.not_mem_nil, or_false, false_or, or_true, true_or, ↓reduceIte, true_and, and_true, Nat.reduceEqDiff, Nat.reduceAdd, Nat.reduceLeDiff, Nat.reduceLT, dl_i, dl_r, dl_n, dl_u, eq_self, not_true_eq_false, not_false_eq_true, n10, n01, nm0, n0m, imp_t, imp_f]
    refine ⟨1, 6, fun _ => Nat.le_refl _, fun _ => Nat.le_refl _, x_needDroughtX hG hg (hxI _ _ (fun Γ l d kr kx hk => ?_))⟩
    exact c_span (hVS.t say0) (fun _ => hk _ (hG0.rf (rn := 1) (w := 1) (by decide)).1.un (hG0.rf (rn := 1) (w := 1) (by decide)).2) (fun a1 a2 a3 a4 a5 a6 a7 a8 a9 a10 a11 a12 a13 a14 => absurd ⟨by rw [a9]; exact rgI (by omega) (by omega) (by decide), by rw [a12]; exact rgI (by omega) (by omega) (by decide)⟩ hg)
  by_cases hin : nI 0 ≤ g ∧ g ≤ nI 2
  rotate_left
  · refine ⟨(1, 6), q, z, Cst.x, hq32, fun Γ l d kr kx hG _ hxI => ?_⟩
    refine ex_of (ls0 := [some (.ref 0), some (.int a), some (.int b), some (.int e), some (.int f), some (.int g), none, none, none, none, none]) tH_span (by decide +kernel) kH_span rfl (Nat.le_of_ble_eq_true rfl) rfl ?_
    intro go hgo
    refine hgo 20 [] 0 _ _ _ _ _ ?_
    simp only [ixr_of, run_s, run_0, rH_span, rok_i, rok_z, bx_cons, bx_nil, eADD, eBP, eC0, eC1, eC2, eCV0, eCV2, eCV3, eCV4, eGO, eGR, jICge, jICne, jIFne, eINC9, eLA0, eLDCW, eLI1, eLI10, eLI2, eLI3, eLI4, eLI5, eLI6, eLI7, eLI8, eLI9, eMAX, eMIN, eRI, eSI10, eSI6, eSI7, eSI8, eSI9, fH_span_0, fH_span_37, fH_span_43, fH_span_78, fH_span_82, fH_span_83, fH_span_110, fH_span_115, fH_span_120, fH_span_126, fH_span_131, fH_span_133, bH_span_0, bH_span_37, bH_span_43, bH_span_78, bH_span_82, bH_span_83, bH_span_110, bH_span_115, bH_span_120, bH_span_126, bH_span_131, bH_span_133, ln_ximages, ln_xthought, rg_xmain_0, rg_xmain_1, rg_xmain_10, rg_xmain_2, rg_xmain_3, rg_xmain_4, rg_xmain_5, rg_xmain_6, rg_xmain_7, ty_xaqueduct, ty_xdiary, ty_xforesight, ty_ximages, ty_xmain, ty_xnow, ty_xopinionReader, ty_xtape, ty_xtasters, ty_xthought, Option.toList_some, Option.toList_none, List.cons_append, List.nil_append, List.length_cons, List.length_nil, List.mem_cons, List.not_mem_nil, or_false, false_or, or_true, true_or, ↓reduceIte, true_and, and_true, Nat.reduceEqDiff, Nat.reduceAdd, Nat.reduceLeDiff, Nat.reduceLT, dl_i, dl_r, dl_n, dl_u, eq_self, not_true_eq_false, not_false_eq_true, n10, n01, nm0, n0m, imp_t, imp_f]
    refine call0 (x_needIn hb ?_)
    simp only [ixr_of, run_s, run_0, rH_span, rok_i, rok_z, bx_cons, bx_nil, eADD, eBP, eC0, eC1, eC2, eCV0, eCV2, eCV3, eCV4, eGO, eGR, jICge, jICne, jIFne, eINC9, eLA0, eLDCW, eLI1, eLI10, eLI2, eLI3, eLI4, eLI5, eLI6, eLI7, eLI8, eLI9, eMAX, eMIN, eRI, eSI10, eSI6, eSI7, eSI8, eSI9, fH_span_0, fH_span_37, fH_span_43, fH_span_78, fH_span_82, fH_span_83, fH_span_110, fH_span_115, fH_span_120, fH_span_126, fH_span_131, fH_span_133, bH_span_0, bH_span_37, bH_span_43, bH_span_78, bH_span_82, bH_span_83, bH_span_110, bH_span_115, bH_span_120, bH_span_126, bH_span_131, bH_span_133, ln_ximages, ln_xthought, rg_xmain_0, rg_xmain_1, rg_xmain_10, rg_xmain_2, rg_xmain_3, rg_xmain_4, rg_xmain_5, rg_xmain_6, rg_xmain_7, ty_xaqueduct, ty_xdiary, ty_xforesight, ty_ximages, ty_xmain, ty_xnow, ty_xopinionReader, ty_xtape, ty_xtasters, ty_xthought, Option.toList_some, Option.toList_none, List.cons_append, List.nil_append, List.length_cons, List.length_nil, List.mem_cons, List.not_mem_nil, or_false, false_or, or_true, true_or, ↓reduceIte, true_and, and_true, Nat.reduceEqDiff, Nat.reduceAdd, Nat.reduceLeDiff, Nat.reduceLT, dl_i, dl_r, dl_n, dl_u, eq_self, not_true_eq_false, not_false_eq_true, n10, n01, nm0, n0m, imp_t, imp_f]
    refine call0 (x_needDrought hg.1 hg.2 ?_)
    simp only [ixr_of, run_s, run_0, rH_span, rok_i, rok_z, bx_cons, bx_nil, eADD, eBP, eC0, eC1, eC2, eCV0, eCV2, eCV3, eCV4, eGO, eGR, jICge, jICne, jIFne, eINC9, eLA0, eLDCW, eLI1, eLI10, eLI2, eLI3, eLI4, eLI5, eLI6, eLI7, eLI8, eLI9, eMAX, eMIN, eRI, eSI10, eSI6, eSI7, eSI8, eSI9, fH_span_0, fH_span_37, fH_span_43, fH_span_78, fH_span_82, fH_span_83, fH_span_110, fH_span_115, fH_span_120, fH_span_126, fH_span_131, fH_span_133, bH_span_0, bH_span_37, bH_span_43, bH_span_78, bH_span_82, bH_span_83, bH_span_110, bH_span_115, bH_span_120, bH_span_126, bH_span_131, bH_span_133, ln_ximages, ln_xthought, rg_xmain_0, rg_xmain_1, rg_xmain_10, rg_xmain_2, rg_xmain_3, rg_xmain_4, rg_xmain_5, rg_xmain_6, rg_xmain_7, ty_xaqueduct, ty_xdiary, ty_xforesight, ty_ximages, ty_xmain, ty_xnow, ty_xopinionReader, ty_xtape, ty_xtasters, ty_xthought, Option.toList_some, Option.toList_none, List.cons_append, List.nil_append, List.length_cons, List.length_nil, List.mem_cons, List.not_mem_nil, or_false, false_or, or_true, true_or, ↓reduceIte, true_and, and_true, Nat.reduceEqDiff, Nat.reduceAdd, Nat.reduceLeDiff, Nat.reduceLT, dl_i, dl_r, dl_n, dl_u, eq_self, not_true_eq_false, not_false_eq_true, n10, n01, nm0, n0m, imp_t, imp_f]
    refine ⟨1, 6, fun _ => Nat.le_refl _, fun _ => Nat.le_refl _, x_needInX hG.1.1 hG.2.1 hG.2.2 hin (hxI _ _ (fun Γ l d kr kx hk => ?_))⟩
    exact c_span (hVS.t say0) (fun _ => hk _ (hG0.rf (rn := 1) (w := 1) (by decide)).1.un (hG0.rf (rn := 1) (w := 1) (by decide)).2) (fun a1 a2 a3 a4 a5 a6 a7 a8 a9 a10 a11 a12 a13 a14 => absurd (by rw [a14]; exact rgI (by omega) (by omega) (by decide)) hin)
  obtain ⟨m0, hm1, hm3, rfl⟩ := rng1 (by decide) hb
  obtain ⟨q0, hq6, rfl⟩ := rng (by decide) hg.1
  obtain ⟨k0, hk1, hk3, rfl⟩ := rng1 (by decide) hg.2
  obtain ⟨u0, hu1, rfl⟩ := rng (by decide) hin
  have hn9 := r3.2.1
  obtain ⟨wf, hwf⟩ : ∃ wf : Nat → Int32, wf = fun k => dwS J S.1.1 S.1.2 (pmD J (nI q0)) (J 500124, a + nI k) k0 := ⟨_, rfl⟩
  obtain ⟨vf, hvf⟩ : ∃ vf : Nat → Int32, vf = fun k => vwI (it2 J S.1.1 S.1.2 (pmD J (nI q0)) (J 500124, a + nI k) k0).1 := ⟨_, rfl⟩
  have key : ∀ K, XF 48 J K → ∀ x, x = (if u0 = 0 then nI (spF wf vf m0).1 else if u0 = 1 then (spF wf vf m0).2.1 else (spF wf vf m0).2.2) → MAns mM_span [.ref 500000, .int a, .int (nI m0), .int (nI q0), .int (nI k0), .int (nI u0)] x 0 q z K E := by
    intro K hX x hx Γ l d kr kx hk2
    have hm := Ms.xf (Or.inl rfl) hX
    refine c_span (hVS.t hm.t) (fun c => absurd ⟨hb, hg.1, hg.2, hin⟩ c) (fun m' q' k' u' a5 a6 a7 a8 a9 a10 a11 a12 a13 a14 L hL hz => ?_)
    rw [nI_eq (by omega) (by omega)] at a7 a12 a14
    subst a7; subst a12; subst a14
    have e1 : (fun k => dwS K S.1.1 S.1.2 (pmD K (nI q0)) (K 500124, a + nI k) k0) = wf := by rw [hwf]; funext k; exact (dw_ms hm hS).1
    have e2 : (fun k => vwI (it2 K S.1.1 S.1.2 (pmD K (nI q0)) (K 500124, a + nI k) k0).1) = vf := by rw [hvf]; funext k; rw [(dw_ms (x := a + nI k) (qq := nI q0) (m := k0) hm hS).2]
    rw [e1, e2, ← hx]
    exact hk2 L (hG0.fm (Or.inl rfl) hX hL) hz
  refine ⟨(0, 0), q, z, Cst.no, hq32, fun Γ l d kr kx hG hk _ => ?_⟩
  refine ex_of (ls0 := [some (.ref 0), some (.int a), some (.int (nI m0)), some (.int (nI q0)), some (.int (nI k0)), some (.int (nI u0)), none, none, none, none, none]) tH_span (by decide +kernel) kH_span rfl (Nat.le_of_ble_eq_true rfl) rfl ?_
  intro go hgo
  refine hgo 20 [37, 83] 0 _ _ _ _ _ ?_
  simp only [ixr_of, run_s, run_0, rH_span, rok_i, rok_z, bx_cons, bx_nil, eADD, eBP, eC0, eC1, eC2, eCV0, eCV2, eCV3, eCV4, eGO, eGR, jICge, jICne, jIFne, eINC9, eLA0, eLDCW, eLI1, eLI10, eLI2, eLI3, eLI4, eLI5, eLI6, eLI7, eLI8, eLI9, eMAX, eMIN, eRI, eSI10, eSI6, eSI7, eSI8, eSI9, fH_span_0, fH_span_37, fH_span_43, fH_span_78, fH_span_82, fH_span_83, fH_span_110, fH_span_115, fH_span_120, fH_span_126, fH_span_131, fH_span_133, bH_span_0, bH_span_37, bH_span_43, bH_span_78, bH_span_82, bH_span_83, bH_span_110, bH_span_115, bH_span_120, bH_span_126, bH_span_131, bH_span_133, ln_ximages, ln_xthought, rg_xmain_0, rg_xmain_1, rg_xmain_10, rg_xmain_2, rg_xmain_3, rg_xmain_4, rg_xmain_5, rg_xmain_6, rg_xmain_7, ty_xaqueduct, ty_xdiary, ty_xforesight, ty_ximages, ty_xmain, ty_xnow, ty_xopinionReader, ty_xtape, ty_xtasters, ty_xthought, Option.toList_some, Option.toList_none, List.cons_append, List.nil_append, List.length_cons, List.length_nil, List.mem_cons, List.not_mem_nil, or_false, false_or, or_true, true_or, ↓reduceIte, true_and, and_true, Nat.reduceEqDiff, Nat.reduceAdd, Nat.reduceLeDiff, Nat.reduceLT, dl_i, dl_r, dl_n, dl_u, eq_self, not_true_eq_false, not_false_eq_true, n10, n01, nm0, n0m, imp_t, imp_f]
  refine call0 (x_needIn hb ?_)
  simp only [ixr_of, run_s, run_0, rH_span, rok_i, rok_z, bx_cons, bx_nil, eADD, eBP, eC0, eC1, eC2, eCV0, eCV2, eCV3, eCV4, eGO, eGR, jICge, jICne, jIFne, eINC9, eLA0, eLDCW, eLI1, eLI10, eLI2, eLI3, eLI4, eLI5, eLI6, eLI7, eLI8, eLI9, eMAX, eMIN, eRI, eSI10, eSI6, eSI7, eSI8, eSI9, fH_span_0, fH_span_37, fH_span_43, fH_span_78, fH_span_82, fH_span_83, fH_span_110, fH_span_115, fH_span_120, fH_span_126, fH_span_131, fH_span_133, bH_span_0, bH_span_37, bH_span_43, bH_span_78, bH_span_82, bH_span_83, bH_span_110, bH_span_115, bH_span_120, bH_span_126, bH_span_131, bH_span_133, ln_ximages, ln_xthought, rg_xmain_0, rg_xmain_1, rg_xmain_10, rg_xmain_2, rg_xmain_3, rg_xmain_4, rg_xmain_5, rg_xmain_6, rg_xmain_7, ty_xaqueduct, ty_xdiary, ty_xforesight, ty_ximages, ty_xmain, ty_xnow, ty_xopinionReader, ty_xtape, ty_xtasters, ty_xthought, Option.toList_some, Option.toList_none, List.cons_append, List.nil_append, List.length_cons, List.length_nil, List.mem_cons, List.not_mem_nil, or_false, false_or, or_true, true_or, ↓reduceIte, true_and, and_true, Nat.reduceEqDiff, Nat.reduceAdd, Nat.reduceLeDiff, Nat.reduceLT, dl_i, dl_r, dl_n, dl_u, eq_self, not_true_eq_false, not_false_eq_true, n10, n01, nm0, n0m, imp_t, imp_f]
  refine call0 (x_needDrought hg.1 hg.2 ?_)
  simp only [ixr_of, run_s, run_0, rH_span, rok_i, rok_z, bx_cons, bx_nil, eADD, eBP, eC0, eC1, eC2, eCV0, eCV2, eCV3, eCV4, eGO, eGR, jICge, jICne, jIFne, eINC9, eLA0, eLDCW, eLI1, eLI10, eLI2, eLI3, eLI4, eLI5, eLI6, eLI7, eLI8, eLI9, eMAX, eMIN, eRI, eSI10, eSI6, eSI7, eSI8, eSI9, fH_span_0, fH_span_37, fH_span_43, fH_span_78, fH_span_82, fH_span_83, fH_span_110, fH_span_115, fH_span_120, fH_span_126, fH_span_131, fH_span_133, bH_span_0, bH_span_37, bH_span_43, bH_span_78, bH_span_82, bH_span_83, bH_span_110, bH_span_115, bH_span_120, bH_span_126, bH_span_131, bH_span_133, ln_ximages, ln_xthought, rg_xmain_0, rg_xmain_1, rg_xmain_10, rg_xmain_2, rg_xmain_3, rg_xmain_4, rg_xmain_5, rg_xmain_6, rg_xmain_7, ty_xaqueduct, ty_xdiary, ty_xforesight, ty_ximages, ty_xmain, ty_xnow, ty_xopinionReader, ty_xtape, ty_xtasters, ty_xthought, Option.toList_some, Option.toList_none, List.cons_append, List.nil_append, List.length_cons, List.length_nil, List.mem_cons, List.not_mem_nil, or_false, false_or, or_true, true_or, ↓reduceIte, true_and, and_true, Nat.reduceEqDiff, Nat.reduceAdd, Nat.reduceLeDiff, Nat.reduceLT, dl_i, dl_r, dl_n, dl_u, eq_self, not_true_eq_false, not_false_eq_true, n10, n01, nm0, n0m, imp_t, imp_f]
  refine call0 (x_needIn hin ?_)
  simp only [ixr_of, run_s, run_0, rH_span, rok_i, rok_z, bx_cons, bx_nil, eADD, eBP, eC0, eC1, eC2, eCV0, eCV2, eCV3, eCV4, eGO, eGR, jICge, jICne, jIFne, eINC9, eLA0, eLDCW, eLI1, eLI10, eLI2, eLI3, eLI4, eLI5, eLI6, eLI7, eLI8, eLI9, eMAX, eMIN, eRI, eSI10, eSI6, eSI7, eSI8, eSI9, fH_span_0, fH_span_37, fH_span_43, fH_span_78, fH_span_82, fH_span_83, fH_span_110, fH_span_115, fH_span_120, fH_span_126, fH_span_131, fH_span_133, bH_span_0, bH_span_37, bH_span_43, bH_span_78, bH_span_82, bH_span_83, bH_span_110, bH_span_115, bH_span_120, bH_span_126, bH_span_131, bH_span_133, ln_ximages, ln_xthought, rg_xmain_0, rg_xmain_1, rg_xmain_10, rg_xmain_2, rg_xmain_3, rg_xmain_4, rg_xmain_5, rg_xmain_6, rg_xmain_7, ty_xaqueduct, ty_xdiary, ty_xforesight, ty_ximages, ty_xmain, ty_xnow, ty_xopinionReader, ty_xtape, ty_xtasters, ty_xthought, Option.toList_some, Option.toList_none, List.cons_append, List.nil_append, List.length_cons, List.length_nil, List.mem_cons, List.not_mem_nil, or_false, false_or, or_true, true_or, ↓reduceIte, true_and, and_true, Nat.reduceEqDiff, Nat.reduceAdd, Nat.reduceLeDiff, Nat.reduceLT, dl_i, dl_r, dl_n, dl_u, eq_self, not_true_eq_false, not_false_eq_true, n10, n01, nm0, n0m, imp_t, imp_f]
  have ty48 : tyc shN E 48 = 3 := dyA_48.1
  have rf1 : rget shN E 47 1 = .ref 48 := rg_xforesight_1
  have tf : tyc shN E 47 = 5 := ty_xforesight
  have c0' : (nI u0 = nI 0) = (u0 = 0) := nIe (by omega) (by decide)
  have c1' : (nI u0 = nI 1) = (u0 = 1) := nIe (by omega) (by decide)
  have loop : ∀ (g i : Nat) (le mo : Int32) (K : Iv) (x10 : Option Value), g + i = m0 → XF 48 J K → (i = 0 → le = nI 2147483647 ∧ mo = nI 0) → (0 < i → le = (spF wf vf i).2.1 ∧ mo = (spF wf vf i).2.2 ∧ ∃ a b, a < 100000000 ∧ b < 100000000 ∧ le = nI a ∧ mo = nI b) → go 37 [some (.ref 0), some (.int a), some (.int (nI m0)), some (.int (nI q0)), some (.int (nI k0)), some (.int (nI u0)), some (.int (nI (spF wf vf i).1)), some (.int le), some (.int mo), some (.int (nI i)), x10] [] K E (0, 0) := by
    intro g
    induction g with
    | zero =>
      intro i le mo K x10 hgi hX h0 h1
      have : i = m0 := by omega
      subst this
      have c2 : (nI i ≤ nI i) = True := eq_true (Int32.le_refl _)
      obtain ⟨h1a, h1b, -⟩ := h1 (by omega)
      refine hgo 20 [37, 83] 37 _ _ _ _ _ ?_
      simp only [ixr_of, run_s, run_0, rH_span, rok_i, rok_z, bx_cons, bx_nil, eADD, eBP, eC0, eC1, eC2, eCV0, eCV2, eCV3, eCV4, eGO, eGR, jICge, jICne, jIFne, eINC9, eLA0, eLDCW, eLI1, eLI10, eLI2, eLI3, eLI4, eLI5, eLI6, eLI7, eLI8, eLI9, eMAX, eMIN, eRI, eSI10, eSI6, eSI7, eSI8, eSI9, fH_span_0, fH_span_37, fH_span_43, fH_span_78, fH_span_82, fH_span_83, fH_span_110, fH_span_115, fH_span_120, fH_span_126, fH_span_131, fH_span_133, bH_span_0, bH_span_37, bH_span_43, bH_span_78, bH_span_82, bH_span_83, bH_span_110, bH_span_115, bH_span_120, bH_span_126, bH_span_131, bH_span_133, ln_ximages, ln_xthought, rg_xmain_0, rg_xmain_1, rg_xmain_10, rg_xmain_2, rg_xmain_3, rg_xmain_4, rg_xmain_5, rg_xmain_6, rg_xmain_7, ty_xaqueduct, ty_xdiary, ty_xforesight, ty_ximages, ty_xmain, ty_xnow, ty_xopinionReader, ty_xtape, ty_xtasters, ty_xthought, Option.toList_some, Option.toList_none, List.cons_append, List.nil_append, List.length_cons, List.length_nil, List.mem_cons, List.not_mem_nil, or_false, false_or, or_true, true_or, ↓reduceIte, true_and, and_true, Nat.reduceEqDiff, Nat.reduceAdd, Nat.reduceLeDiff, Nat.reduceLT, dl_i, dl_r, dl_n, dl_u, eq_self, not_true_eq_false, not_false_eq_true, n10, n01, nm0, n0m, c2, c0', c1', imp_t, imp_f]
      refine ⟨fun z1 => ⟨fun z2 => ?_, fun z2 => ?_⟩, fun z1 => ?_⟩
      · exact hk _ K E (key K hX _ (by rw [if_neg z1, if_neg z2]; exact h1b))
      · exact hk _ K E (key K hX _ (by rw [if_neg z1, if_pos z2]; exact h1a))
      · exact hk _ K E (key K hX _ (by rw [if_pos z1]))
    | succ g ih =>
      intro i le mo K x10 hgi hX h0 h1
      have c2 : (nI m0 ≤ nI i) = False := by rw [nIl (by omega) (by omega)]; exact eq_false (by omega)
      refine hgo 20 [37, 83] 37 _ _ _ _ _ ?_
      simp only [ixr_of, run_s, run_0, rH_span, rok_i, rok_z, bx_cons, bx_nil, eADD, eBP, eC0, eC1, eC2, eCV0, eCV2, eCV3, eCV4, eGO, eGR, jICge, jICne, jIFne, eINC9, eLA0, eLDCW, eLI1, eLI10, eLI2, eLI3, eLI4, eLI5, eLI6, eLI7, eLI8, eLI9, eMAX, eMIN, eRI, eSI10, eSI6, eSI7, eSI8, eSI9, fH_span_0, fH_span_37, fH_span_43, fH_span_78, fH_span_82, fH_span_83, fH_span_110, fH_span_115, fH_span_120, fH_span_126, fH_span_131, fH_span_133, bH_span_0, bH_span_37, bH_span_43, bH_span_78, bH_span_82, bH_span_83, bH_span_110, bH_span_115, bH_span_120, bH_span_126, bH_span_131, bH_span_133, ln_ximages, ln_xthought, rg_xmain_0, rg_xmain_1, rg_xmain_10, rg_xmain_2, rg_xmain_3, rg_xmain_4, rg_xmain_5, rg_xmain_6, rg_xmain_7, ty_xaqueduct, ty_xdiary, ty_xforesight, ty_ximages, ty_xmain, ty_xnow, ty_xopinionReader, ty_xtape, ty_xtasters, ty_xthought, Option.toList_some, Option.toList_none, List.cons_append, List.nil_append, List.length_cons, List.length_nil, List.mem_cons, List.not_mem_nil, or_false, false_or, or_true, true_or, ↓reduceIte, true_and, and_true, Nat.reduceEqDiff, Nat.reduceAdd, Nat.reduceLeDiff, Nat.reduceLT, dl_i, dl_r, dl_n, dl_u, eq_self, not_true_eq_false, not_false_eq_true, n10, n01, nm0, n0m, c2, imp_t, imp_f]
      refine call0 (x_droughtWater hG.1 (r1.1.xf (Or.inl rfl) hX) (r3.1.xf s9 (Or.inl rfl) hX) (by omega) hk3 hq6 (fun L ee hXL hDL hdw he => ?_))
      have ew : wf i = nI ee := by rw [hwf]; exact hdw
      have evv : vwI (it2 J S.1.1 S.1.2 (pmD J (nI q0)) (J 500124, a + nI i) k0).1 = vf i := by rw [hvf]
      simp only [ixr_of, run_s, run_0, rH_span, rok_i, rok_z, bx_cons, bx_nil, eADD, eBP, eC0, eC1, eC2, eCV0, eCV2, eCV3, eCV4, eGO, eGR, jICge, jICne, jIFne, eINC9, eLA0, eLDCW, eLI1, eLI10, eLI2, eLI3, eLI4, eLI5, eLI6, eLI7, eLI8, eLI9, eMAX, eMIN, eRI, eSI10, eSI6, eSI7, eSI8, eSI9, fH_span_0, fH_span_37, fH_span_43, fH_span_78, fH_span_82, fH_span_83, fH_span_110, fH_span_115, fH_span_120, fH_span_126, fH_span_131, fH_span_133, bH_span_0, bH_span_37, bH_span_43, bH_span_78, bH_span_82, bH_span_83, bH_span_110, bH_span_115, bH_span_120, bH_span_126, bH_span_131, bH_span_133, ln_ximages, ln_xthought, rg_xmain_0, rg_xmain_1, rg_xmain_10, rg_xmain_2, rg_xmain_3, rg_xmain_4, rg_xmain_5, rg_xmain_6, rg_xmain_7, ty_xaqueduct, ty_xdiary, ty_xforesight, ty_ximages, ty_xmain, ty_xnow, ty_xopinionReader, ty_xtape, ty_xtasters, ty_xthought, Option.toList_some, Option.toList_none, List.cons_append, List.nil_append, List.length_cons, List.length_nil, List.mem_cons, List.not_mem_nil, or_false, false_or, or_true, true_or, ↓reduceIte, true_and, and_true, Nat.reduceEqDiff, Nat.reduceAdd, Nat.reduceLeDiff, Nat.reduceLT, dl_i, dl_r, dl_n, dl_u, eq_self, not_true_eq_false, not_false_eq_true, n10, n01, nm0, n0m, rf1, tf, ty48, imp_t, imp_f]
      refine call0 (x_seen dyA_48 ?_)
      rw [vw_dr hDL, evv]
      have fin : ∀ cc, (spF wf vf (i + 1)).1 = (spF wf vf i).1 + cc → go 83 [some (.ref 0), some (.int a), some (.int (nI m0)), some (.int (nI q0)), some (.int (nI k0)), some (.int (nI u0)), some (.int (nI (spF wf vf i).1)), some (.int le), some (.int mo), some (.int (nI i)), some (.int (nI ee))] [.int (nI cc), .int (nI (spF wf vf i).1)] L E (0, 0) := by
        intro cc hcc
        have next : ∀ (le' mo' : Int32), le' = (spF wf vf (i + 1)).2.1 → mo' = (spF wf vf (i + 1)).2.2 → (∃ a b, a < 100000000 ∧ b < 100000000 ∧ le' = nI a ∧ mo' = nI b) → miI le (nI ee) = le' → mxI mo (nI ee) = mo' → go 83 [some (.ref 0), some (.int a), some (.int (nI m0)), some (.int (nI q0)), some (.int (nI k0)), some (.int (nI u0)), some (.int (nI (spF wf vf i).1)), some (.int le), some (.int mo), some (.int (nI i)), some (.int (nI ee))] [.int (nI cc), .int (nI (spF wf vf i).1)] L E (0, 0) := by
          intro le' mo' n1 n2 n3 n4 n5
          refine hgo 20 [37] 83 _ _ _ _ _ ?_
          simp only [ixr_of, run_s, run_0, rH_span, rok_i, rok_z, bx_cons, bx_nil, eADD, eBP, eC0, eC1, eC2, eCV0, eCV2, eCV3, eCV4, eGO, eGR, jICge, jICne, jIFne, eINC9, eLA0, eLDCW, eLI1, eLI10, eLI2, eLI3, eLI4, eLI5, eLI6, eLI7, eLI8, eLI9, eMAX, eMIN, eRI, eSI10, eSI6, eSI7, eSI8, eSI9, fH_span_0, fH_span_37, fH_span_43, fH_span_78, fH_span_82, fH_span_83, fH_span_110, fH_span_115, fH_span_120, fH_span_126, fH_span_131, fH_span_133, bH_span_0, bH_span_37, bH_span_43, bH_span_78, bH_span_82, bH_span_83, bH_span_110, bH_span_115, bH_span_120, bH_span_126, bH_span_131, bH_span_133, ln_ximages, ln_xthought, rg_xmain_0, rg_xmain_1, rg_xmain_10, rg_xmain_2, rg_xmain_3, rg_xmain_4, rg_xmain_5, rg_xmain_6, rg_xmain_7, ty_xaqueduct, ty_xdiary, ty_xforesight, ty_ximages, ty_xmain, ty_xnow, ty_xopinionReader, ty_xtape, ty_xtasters, ty_xthought, Option.toList_some, Option.toList_none, List.cons_append, List.nil_append, List.length_cons, List.length_nil, List.mem_cons, List.not_mem_nil, or_false, false_or, or_true, true_or, ↓reduceIte, true_and, and_true, Nat.reduceEqDiff, Nat.reduceAdd, Nat.reduceLeDiff, Nat.reduceLT, dl_i, dl_r, dl_n, dl_u, eq_self, not_true_eq_false, not_false_eq_true, n10, n01, nm0, n0m, nI_add, n4, n5, imp_t, imp_f]
          rw [← hcc]
          exact ih (i + 1) le' mo' L _ (by omega) (hX.tr hXL) (fun c => absurd c (by omega)) (fun _ => ⟨n1, n2, n3⟩)
        have hs1 : (spF wf vf (i + 1)).2.1 = (if (spF wf vf i).2.1 = -1 then wf i else if (spF wf vf i).2.1 < wf i then (spF wf vf i).2.1 else wf i) := rfl
        have hs2 : (spF wf vf (i + 1)).2.2 = (if (spF wf vf i).2.2 < wf i then wf i else (spF wf vf i).2.2) := rfl
        by_cases i0 : i = 0
        · subst i0
          obtain ⟨rfl, rfl⟩ := h0 rfl
          have z1 : (spF wf vf 0).2.1 = -1 := rfl
          have z2 : (spF wf vf 0).2.2 = -1 := rfl
          have hlt : (-1 : Int32) < nI ee := Int32.lt_of_lt_of_le (by decide) (nI_nn (k := ee) (by omega))
          refine next (nI ee) (nI ee) (by rw [hs1, z1, if_pos rfl, ew]) (by rw [hs2, z2, ew, if_pos hlt]) ⟨ee, ee, he, he, rfl, rfl⟩ ?_ ?_
          · rw [miI_n (by decide) (by omega)]; congr 1; omega
          · rw [mxI_n (by decide) (by omega), Nat.zero_max]
        · obtain ⟨g1, g2, aa, bb, ha, hbb, ga, gb⟩ := h1 (by omega)
          have z1 : (spF wf vf i).2.1 = nI aa := by rw [← g1]; exact ga
          have z2 : (spF wf vf i).2.2 = nI bb := by rw [← g2]; exact gb
          have nm1 : ¬ nI aa = -1 := fun c => by
            have := nI_nn (k := aa) (by omega)
            rw [c] at this
            exact absurd this (by decide)
          refine next (nI (min aa ee)) (nI (max bb ee)) ?_ ?_ ⟨min aa ee, max bb ee, by omega, by omega, rfl, rfl⟩ (by rw [ga, miI_n (by omega) (by omega)]) (by rw [gb, mxI_n (by omega) (by omega)])
          · rw [hs1, z1, if_neg nm1, ew]
            by_cases c : aa < ee
            · rw [if_pos (nI_lt c (by omega)), Nat.min_eq_left (by omega)]
            · rw [if_neg (nI_nlt (by omega) (by omega)), Nat.min_eq_right (by omega)]
          · rw [hs2, z2, ew]
            by_cases c : bb < ee
            · rw [if_pos (nI_lt c (by omega)), Nat.max_eq_right (by omega)]
            · rw [if_neg (nI_nlt (by omega) (by omega)), Nat.max_eq_left (by omega)]
      have hs0 : (spF wf vf (i + 1)).1 = (spF wf vf i).1 + (if vf i = nI 0 then 1 else 0) := rfl
      simp only [ixr_of, run_s, run_0, rH_span, rok_i, rok_z, bx_cons, bx_nil, eADD, eBP, eC0, eC1, eC2, eCV0, eCV2, eCV3, eCV4, eGO, eGR, jICge, jICne, jIFne, eINC9, eLA0, eLDCW, eLI1, eLI10, eLI2, eLI3, eLI4, eLI5, eLI6, eLI7, eLI8, eLI9, eMAX, eMIN, eRI, eSI10, eSI6, eSI7, eSI8, eSI9, fH_span_0, fH_span_37, fH_span_43, fH_span_78, fH_span_82, fH_span_83, fH_span_110, fH_span_115, fH_span_120, fH_span_126, fH_span_131, fH_span_133, bH_span_0, bH_span_37, bH_span_43, bH_span_78, bH_span_82, bH_span_83, bH_span_110, bH_span_115, bH_span_120, bH_span_126, bH_span_131, bH_span_133, ln_ximages, ln_xthought, rg_xmain_0, rg_xmain_1, rg_xmain_10, rg_xmain_2, rg_xmain_3, rg_xmain_4, rg_xmain_5, rg_xmain_6, rg_xmain_7, ty_xaqueduct, ty_xdiary, ty_xforesight, ty_ximages, ty_xmain, ty_xnow, ty_xopinionReader, ty_xtape, ty_xtasters, ty_xthought, Option.toList_some, Option.toList_none, List.cons_append, List.nil_append, List.length_cons, List.length_nil, List.mem_cons, List.not_mem_nil, or_false, false_or, or_true, true_or, ↓reduceIte, true_and, and_true, Nat.reduceEqDiff, Nat.reduceAdd, Nat.reduceLeDiff, Nat.reduceLT, dl_i, dl_r, dl_n, dl_u, eq_self, not_true_eq_false, not_false_eq_true, n10, n01, nm0, n0m, imp_t, imp_f]
      refine ⟨fun zz => ?_, fun zz => ?_⟩
      · exact fin 0 (by rw [hs0, if_neg zz])
      · exact fin 1 (by rw [hs0, if_pos zz])
  exact loop m0 0 _ _ J _ (by omega) XF.rf (fun _ => ⟨rfl, rfl⟩) (fun c => absurd c (by omega))
