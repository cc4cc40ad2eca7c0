/-! public methods, 2 -/
theorem XF.sq {rw' y : Nat} {J K : Iv} (hy : y = 48 ∨ y = 59) (h : XF y J K) : SQ rw' J K ∧ K 0 = J 0 ∧ K 500002 = J 500002 := by
  refine ⟨⟨fun i _ _ c _ _ => h i ?_ ?_ ?_, fun j _ => by rw [h 500000 (by omega) (by omega) (idV_n (by omega))], by rw [h 0 (by omega) (by omega) (idV_n (by omega))]⟩, h 0 (by omega) (by omega) (idV_n (by omega)), h 500002 (by omega) (by omega) (idV_n (by omega))⟩
  · exact fun z => c (Or.inl z)
  · exact fun z => c (by unfold sX; omega)
  · exact fun z => c (Or.inr (Or.inl z))
theorem GS.fm {q z y : Nat} {J K L : Iv} {E : Ev} (h : GS q z J E) (hy : y = 48 ∨ y = 59) (hX : XF y J K) (hM : MP K L) : GS q z L E := by
  have h' := h
  obtain ⟨S, PS, t, op, bk, kb, n, n0, p, c, mk, tp, im, nim, rw', r1, r2, r3, r4, r5, r6, r7, r8, r9⟩ := h'
  obtain ⟨a1, a2, a3⟩ := hX.sq (rw' := rw') hy
  exact h.sq r9.1 (a1.tr hM.q) (by rw [hM.1 0 (by decide) (scA_n (by omega)), a2]) (by rw [hM.1 500002 (by decide) (by unfold scA; omega), a3])
/-- what the model's functions say behind a class's trial -/
theorem XF.m {y : Nat} {J K : Iv} (hy : y = 48 ∨ y = 59) (h : XF y J K) : ∀ i, 500000 ≤ i → i < 1000000 → K i = J i := fun i a c => h i (by omega) (by omega) (idV_n (by omega))
theorem gX {y nC : Nat} {S : Tn} {J K : Iv} (hS : TnV S) (hy : y = 48 ∨ y = 59) (h : XF y J K) (P : Pm) (r : Nat → Int32) (m : Nat) : gR K S.1.1 S.1.2 P r m = gR J S.1.1 S.1.2 P r m := by
  unfold gR
  rw [it2_t (h.t (by unfold idY; omega)) hS.1 hS.2.1]
theorem pmX_N {S : Tn} {J K : Iv} (s9 : S.1.1 ≤ 9) (h : ∀ i, 500000 ≤ i → i < 1000000 → K i = J i) : Pe S.1.1 (pmN K) (pmN J) := by
  refine ⟨fun v hv => ⟨?_, ?_, fun k hk => ?_⟩, rfl⟩
  · show plS _ v = plS _ v
    rw [h 500000 (by omega) (by omega)]
  · show coS _ v = coS _ v
    rw [h 500000 (by omega) (by omega)]
  · show snG K v k = snG J v k
    unfold snG
    rw [h (500016 + v) (by omega) (by omega), h 500123 (by omega) (by omega)]
theorem gN {y : Nat} {S : Tn} {J K : Iv} (hS : TnV S) (hy : y = 48 ∨ y = 59) (h : XF y J K) (m : Nat) : gR K S.1.1 S.1.2 (pmN K) (K 500124) m = gR J S.1.1 S.1.2 (pmN J) (J 500124) m := by
  have hm := h.m hy
  unfold gR
  rw [hm 500124 (by omega) (by omega), it2_t (h.t (by unfold idY; omega)) hS.1 hS.2.1, it2_pe (pmX_N hS.1 hm)]
theorem it_as {S : Tn} {J : Iv} (hS : TnV S) (x : Int32) (m : Nat) : (itR (asN J) S.1.1 S.1.2 (J 500124, x) m).1 = gR J S.1.1 S.1.2 (pmN J) (J 500124) m := by
  rw [it2_as hS.1 hS.2.1, gR_of rfl]
theorem Fr_mp {K L : Iv} (hf : Fr 500126 (up (asN K) 500000 0 (nI 0)) L) : MP K L ∧ L 500000 0 = nI 0 := ⟨(MP.as.tr (MP.fl (by unfold scF; omega))).tr (MP.fr hf), by rw [hf.2 0 (by decide), up_s]⟩
theorem sty_p {J : Iv} {S : Tn} {v : Nat} (hM : MT J S) (hS : TnV S) (hv : v < S.1.1) : ∀ m, m ≤ S.1.2 → styI J v m = nI 8 - nI (S.2.2.1 v 2) - nI (pfC S v m)
  | 0, _ => by
    show nI 8 - J (500016 + v) 2 - (if J 500004 2 = nI v then J 500004 3 else nI 0) = _ - nI (if S.2.1.1 = some v then S.2.1.2.1 else 0)
    have s9 := hS.1
    rw [hM.2.2.2 v hv 2 (by decide), hM.1, hM.2.1]
    have e : (tvI S.2.1.1 = nI v) ↔ S.2.1.1 = some v := by
      cases h : S.2.1.1 with
      | none => exact ⟨fun c => absurd c (nIm v (by omega)), fun c => by cases c⟩
      | some u =>
        have := hS.2.2.1 u h
        show nI u = nI v ↔ _
        rw [nI_eq (by omega) (by omega)]
        exact ⟨fun c => by rw [c], fun c => Option.some.inj c⟩
    by_cases q : S.2.1.1 = some v
    · rw [if_pos (e.mpr q), if_pos q]
    · rw [if_neg (fun c => q (e.mp c)), if_neg q]
  | m + 1, hm => by
    have ih := sty_p hM hS hv m (by omega)
    show styI J v m - (if J (500047 + m) 0 = nI v then J (500047 + m) 2 else nI 0) = _ - nI (pfC S v m + if S.2.2.2 m 0 = v then S.2.2.2 m 2 else 0)
    obtain ⟨c1, c2, c3⟩ := hM.2.2.1 m (by omega)
    have hc := hS.2.2.2.2.2.1 m (by omega)
    have s9 := hS.1
    rw [ih, c1, c3, ← nI_add]
    have e : (nI (S.2.2.2 m 0) = nI v) ↔ S.2.2.2 m 0 = v := nI_eq (by omega) (by omega)
    by_cases q : S.2.2.2 m 0 = v
    · rw [if_pos (e.mpr q), if_pos q]; grind
    · rw [if_neg (fun c => q (e.mp c)), if_neg q]; grind

theorem g_village {q z : Nat} {J : Iv} {E : Ev} {v x : Int32} (h : GS q z J E) : StX mH_village mM_village [.int v, .int x] 1 2 q z J E := by
  have hG0 := h
  obtain ⟨S, PS, t, op, bk, kb, n, n0, p, c, mk, tp, im, nim, rw', r1, r2, r3, r4, r5, r6, r7, r8, r9⟩ := h
  have hS := r1.1.1.2.2.2.1
  have s9 := hS.1
  have hVS := r1.1.2.2.1
  have hq32 := r4.1.1
  obtain ⟨g3, hT, hXt, -⟩ := id r1.1.1
  have tT : tyc shN E t = 10 := (hT.A (b := true) (E := E)).1
  have v7 := hXt.1
  have h40 := hVS.1
  have hD := r3.1.2.1
  have ty71 : tyc shN E 71 = 3 := dyA_71.1
  obtain ⟨-, ⟨y0, y1, y2, y3, y4, y5, y6⟩, ⟨b1, b2, b3, b4, b5, b6, b7⟩, l1, l2, l3, l4, l5, l6, l7⟩ := (dyA_71 (b := true) (E := E))
  by_cases hv : ∃ w, w < S.1.1 ∧ v = nI w
  rotate_left
  · refine ⟨(1, 6), q, z, Cst.x, hq32, fun Γ l d kr kx hG _ hxN hxI => ?_⟩
    refine ex_of (ls0 := [some (.ref 0), some (.int v), some (.int x)]) tH_village (by decide +kernel) kH_village rfl (Nat.le_of_ble_eq_true rfl) rfl ?_
    intro go hgo
    refine hgo 20 [] 0 _ _ _ _ _ ?_
    simp only [ixr_of, run_s, run_0, rH_village, rok_i, rok_z, bx_cons, bx_nil, eBP, eC0, eC1, eCV1, eCV2, eCV3, eGR, eIALD, eLA0, eLI1, eLI2, eRI, eSUB, eSW, jswA_c, swA_n, fH_village_0, fH_village_60, fH_village_69, fH_village_81, fH_village_94, fH_village_107, fH_village_120, fH_village_132, bH_village_0, bH_village_60, bH_village_69, bH_village_81, bH_village_94, bH_village_107, bH_village_120, bH_village_132, ln_ximages, ln_xthought, rg_xmain_0, rg_xmain_1, rg_xmain_10, rg_xmain_2, rg_xmain_3, rg_xmain_4, rg_xmain_5, rg_xmain_6, rg_xmain_7, ty_xaqueduct, ty_xdiary, ty_xforesight, ty_ximages, ty_xmain, ty_xnow, ty_xopinionReader, ty_xtape, ty_xtasters, ty_xthought, Option.toList_some, Option.toList_none, List.cons_append, List.nil_append, List.length_cons, List.length_nil, List.mem_cons, List.not_mem_nil, or_false, false_or, or_true, true_or, ↓reduceIte, true_and, and_true, Nat.reduceEqDiff, Nat.reduceAdd, Nat.reduceLeDiff, Nat.reduceLT, dl_i, dl_r, dl_n, dl_u, eq_self, not_true_eq_false, not_false_eq_true, n10, n01, nm0, n0m, imp_t, imp_f]
    refine ⟨1, 6, fun _ => Nat.le_refl _, fun _ => Nat.le_refl _, x_needVillageX hG.1.1 hG.2.1 hG.2.2 g3 tT v7 (vin_n s9 hv) (hxN _ _ (fun Γ l d kr kx hk => ?_))⟩
    exact c_village (hVS.t say0) (fun _ => hk _ (hG0.rf (rn := 0) (w := 1) (by decide)).1.un (hG0.rf (rn := 0) (w := 1) (by decide)).2) (fun c _ => absurd c (vim_n (by rw [up_n (by omega)]; exact h40) s9 hv)) (fun w k a e _ _ => absurd ⟨w, a, e⟩ hv)
  obtain ⟨w, hw, rfl⟩ := hv
  by_cases hin : nI 0 ≤ x ∧ x ≤ nI 8
  rotate_left
  · refine ⟨(1, 6), q, z, Cst.x, hq32, fun Γ l d kr kx hG _ hxN hxI => ?_⟩
    refine ex_of (ls0 := [some (.ref 0), some (.int (nI w)), some (.int x)]) tH_village (by decide +kernel) kH_village rfl (Nat.le_of_ble_eq_true rfl) rfl ?_
    intro go hgo
    refine hgo 20 [] 0 _ _ _ _ _ ?_
    simp only [ixr_of, run_s, run_0, rH_village, rok_i, rok_z, bx_cons, bx_nil, eBP, eC0, eC1, eCV1, eCV2, eCV3, eGR, eIALD, eLA0, eLI1, eLI2, eRI, eSUB, eSW, jswA_c, swA_n, fH_village_0, fH_village_60, fH_village_69, fH_village_81, fH_village_94, fH_village_107, fH_village_120, fH_village_132, bH_village_0, bH_village_60, bH_village_69, bH_village_81, bH_village_94, bH_village_107, bH_village_120, bH_village_132, ln_ximages, ln_xthought, rg_xmain_0, rg_xmain_1, rg_xmain_10, rg_xmain_2, rg_xmain_3, rg_xmain_4, rg_xmain_5, rg_xmain_6, rg_xmain_7, ty_xaqueduct, ty_xdiary, ty_xforesight, ty_ximages, ty_xmain, ty_xnow, ty_xopinionReader, ty_xtape, ty_xtasters, ty_xthought, Option.toList_some, Option.toList_none, List.cons_append, List.nil_append, List.length_cons, List.length_nil, List.mem_cons, List.not_mem_nil, or_false, false_or, or_true, true_or, ↓reduceIte, true_and, and_true, Nat.reduceEqDiff, Nat.reduceAdd, Nat.reduceLeDiff, Nat.reduceLT, dl_i, dl_r, dl_n, dl_u, eq_self, not_true_eq_false, not_false_eq_true, n10, n01, nm0, n0m, imp_t, imp_f]
    refine call0 (x_needVillage g3 tT v7 (vin rfl ⟨hw, s9⟩) ?_)
    simp only [ixr_of, run_s, run_0, rH_village, rok_i, rok_z, bx_cons, bx_nil, eBP, eC0, eC1, eCV1, eCV2, eCV3, eGR, eIALD, eLA0, eLI1, eLI2, eRI, eSUB, eSW, jswA_c, swA_n, fH_village_0, fH_village_60, fH_village_69, fH_village_81, fH_village_94, fH_village_107, fH_village_120, fH_village_132, bH_village_0, bH_village_60, bH_village_69, bH_village_81, bH_village_94, bH_village_107, bH_village_120, bH_village_132, ln_ximages, ln_xthought, rg_xmain_0, rg_xmain_1, rg_xmain_10, rg_xmain_2, rg_xmain_3, rg_xmain_4, rg_xmain_5, rg_xmain_6, rg_xmain_7, ty_xaqueduct, ty_xdiary, ty_xforesight, ty_ximages, ty_xmain, ty_xnow, ty_xopinionReader, ty_xtape, ty_xtasters, ty_xthought, Option.toList_some, Option.toList_none, List.cons_append, List.nil_append, List.length_cons, List.length_nil, List.mem_cons, List.not_mem_nil, or_false, false_or, or_true, true_or, ↓reduceIte, true_and, and_true, Nat.reduceEqDiff, Nat.reduceAdd, Nat.reduceLeDiff, Nat.reduceLT, dl_i, dl_r, dl_n, dl_u, eq_self, not_true_eq_false, not_false_eq_true, n10, n01, nm0, n0m, imp_t, imp_f]
    refine ⟨1, 6, fun _ => Nat.le_refl _, fun _ => Nat.le_refl _, x_needInX hG.1.1 hG.2.1 hG.2.2 hin (hxI _ _ (fun Γ l d kr kx hk => ?_))⟩
    exact c_village (hVS.t say0) (fun c => absurd (vim (by rw [up_n (by omega)]; exact h40) s9 hw rfl) c) (fun _ _ => hk _ (hG0.rf (rn := 1) (w := 2) (by decide)).1.un (hG0.rf (rn := 1) (w := 2) (by decide)).2) (fun w k a e b f => absurd (by rw [f]; exact rgI (by omega) (by omega) (by decide)) hin)
  obtain ⟨k0, hk8, rfl⟩ := rng (by decide) hin
  have i9 : w < 9 := by omega
  have hTA := hT.A (b := true) (E := E)
  obtain ⟨p1, p1t, p1l⟩ := hTA.2 1 (by decide)
  obtain ⟨p3, p3t, p3l⟩ := hTA.2 3 (by decide)
  obtain ⟨p4, p4t, p4l⟩ := hTA.2 4 (by decide)
  have p1l' : len shN E (t + 1 + 1) = 9 := p1l
  have p3l' : len shN E (t + 1 + 3) = 9 := p3l
  have p4l' : len shN E (t + 1 + 4) = 9 := p4l
  obtain ⟨x1, -, x3, x4, -⟩ := hXt.2.2.2.2.2.2.1 w i9
  have hMT := r1.1.2.1
  have vzw : ∀ i, vz S w i = S.2.2.1 w i := fun i => by unfold vz; rw [if_pos hw]
  have ev : ∀ i, i < 9 → (nI k0 = nI i ↔ k0 = i) := fun i hi => nI_eq (by omega) (by omega)
  have key : ∀ a, a = (if k0 = 4 then J (500016 + w) 1 else if k0 = 5 then J (500016 + w) 3 else if k0 = 6 then J (500016 + w) 4 else if k0 = 7 then styI J w S.1.2 else if k0 = 8 then J 500123 w else if k0 = 0 then J 500124 w else smI (fun k => J 500124 (9 + 27 * w + 9 * (k0 - 1) + k)) 9) → MAns mM_village [.ref 500000, .int (nI w), .int (nI k0)] a 0 q z J E := by
    intro a ha Γ l d kr kx hk2
    refine c_village hVS (fun c => absurd (vim h40 s9 hw rfl) c) (fun _ c => absurd hin c) (fun w' k' a' e b f => ?_)
    rw [nI_eq (by omega) (by omega)] at e f
    subst e; subst f
    rw [← ha]
    exact hk2 _ hG0.th up_s
  have hherb : ∀ i, 1 ≤ i → i ≤ 3 → smI (fun u => J (71 + 1) (cl S.1.1 w (i - 1) u)) S.1.1 = smI (fun k => J 500124 (9 + 27 * w + 9 * (i - 1) + k)) 9 := fun i a c => hbD_r hS hD.2.2.2.1 (hD.2.2.2.2.1.zr s9) hw (by omega)
  refine ⟨(0, 0), q, z, Cst.no, hq32, fun Γ l d kr kx hG hk _ _ => ?_⟩
  refine ex_of (ls0 := [some (.ref 0), some (.int (nI w)), some (.int (nI k0))]) tH_village (by decide +kernel) kH_village rfl (Nat.le_of_ble_eq_true rfl) rfl ?_
  intro go hgo
  refine hgo 20 [] 0 _ _ _ _ _ ?_
  simp only [ixr_of, run_s, run_0, rH_village, rok_i, rok_z, bx_cons, bx_nil, eBP, eC0, eC1, eCV1, eCV2, eCV3, eGR, eIALD, eLA0, eLI1, eLI2, eRI, eSUB, eSW, jswA_c, swA_n, fH_village_0, fH_village_60, fH_village_69, fH_village_81, fH_village_94, fH_village_107, fH_village_120, fH_village_132, bH_village_0, bH_village_60, bH_village_69, bH_village_81, bH_village_94, bH_village_107, bH_village_120, bH_village_132, ln_ximages, ln_xthought, rg_xmain_0, rg_xmain_1, rg_xmain_10, rg_xmain_2, rg_xmain_3, rg_xmain_4, rg_xmain_5, rg_xmain_6, rg_xmain_7, ty_xaqueduct, ty_xdiary, ty_xforesight, ty_ximages, ty_xmain, ty_xnow, ty_xopinionReader, ty_xtape, ty_xtasters, ty_xthought, Option.toList_some, Option.toList_none, List.cons_append, List.nil_append, List.length_cons, List.length_nil, List.mem_cons, List.not_mem_nil, or_false, false_or, or_true, true_or, ↓reduceIte, true_and, and_true, Nat.reduceEqDiff, Nat.reduceAdd, Nat.reduceLeDiff, Nat.reduceLT, dl_i, dl_r, dl_n, dl_u, eq_self, not_true_eq_false, not_false_eq_true, n10, n01, nm0, n0m, imp_t, imp_f]
  refine call0 (x_needVillage g3 tT v7 (vin rfl ⟨hw, s9⟩) ?_)
  simp only [ixr_of, run_s, run_0, rH_village, rok_i, rok_z, bx_cons, bx_nil, eBP, eC0, eC1, eCV1, eCV2, eCV3, eGR, eIALD, eLA0, eLI1, eLI2, eRI, eSUB, eSW, jswA_c, swA_n, fH_village_0, fH_village_60, fH_village_69, fH_village_81, fH_village_94, fH_village_107, fH_village_120, fH_village_132, bH_village_0, bH_village_60, bH_village_69, bH_village_81, bH_village_94, bH_village_107, bH_village_120, bH_village_132, ln_ximages, ln_xthought, rg_xmain_0, rg_xmain_1, rg_xmain_10, rg_xmain_2, rg_xmain_3, rg_xmain_4, rg_xmain_5, rg_xmain_6, rg_xmain_7, ty_xaqueduct, ty_xdiary, ty_xforesight, ty_ximages, ty_xmain, ty_xnow, ty_xopinionReader, ty_xtape, ty_xtasters, ty_xthought, Option.toList_some, Option.toList_none, List.cons_append, List.nil_append, List.length_cons, List.length_nil, List.mem_cons, List.not_mem_nil, or_false, false_or, or_true, true_or, ↓reduceIte, true_and, and_true, Nat.reduceEqDiff, Nat.reduceAdd, Nat.reduceLeDiff, Nat.reduceLT, dl_i, dl_r, dl_n, dl_u, eq_self, not_true_eq_false, not_false_eq_true, n10, n01, nm0, n0m, imp_t, imp_f]
  refine call0 (x_needIn hin ?_)
  simp only [ixr_of, run_s, run_0, rH_village, rok_i, rok_z, bx_cons, bx_nil, eBP, eC0, eC1, eCV1, eCV2, eCV3, eGR, eIALD, eLA0, eLI1, eLI2, eRI, eSUB, eSW, jswA_c, swA_n, fH_village_0, fH_village_60, fH_village_69, fH_village_81, fH_village_94, fH_village_107, fH_village_120, fH_village_132, bH_village_0, bH_village_60, bH_village_69, bH_village_81, bH_village_94, bH_village_107, bH_village_120, bH_village_132, ln_ximages, ln_xthought, rg_xmain_0, rg_xmain_1, rg_xmain_10, rg_xmain_2, rg_xmain_3, rg_xmain_4, rg_xmain_5, rg_xmain_6, rg_xmain_7, ty_xaqueduct, ty_xdiary, ty_xforesight, ty_ximages, ty_xmain, ty_xnow, ty_xopinionReader, ty_xtape, ty_xtasters, ty_xthought, Option.toList_some, Option.toList_none, List.cons_append, List.nil_append, List.length_cons, List.length_nil, List.mem_cons, List.not_mem_nil, or_false, false_or, or_true, true_or, ↓reduceIte, true_and, and_true, Nat.reduceEqDiff, Nat.reduceAdd, Nat.reduceLeDiff, Nat.reduceLT, dl_i, dl_r, dl_n, dl_u, eq_self, not_true_eq_false, not_false_eq_true, n10, n01, nm0, n0m, imp_t, imp_f]
  simp only [ixr_of, run_s, run_0, rH_village, rok_i, rok_z, bx_cons, bx_nil, eBP, eC0, eC1, eCV1, eCV2, eCV3, eGR, eIALD, eLA0, eLI1, eLI2, eRI, eSUB, eSW, jswA_c, swA_n, fH_village_0, fH_village_60, fH_village_69, fH_village_81, fH_village_94, fH_village_107, fH_village_120, fH_village_132, bH_village_0, bH_village_60, bH_village_69, bH_village_81, bH_village_94, bH_village_107, bH_village_120, bH_village_132, ln_ximages, ln_xthought, rg_xmain_0, rg_xmain_1, rg_xmain_10, rg_xmain_2, rg_xmain_3, rg_xmain_4, rg_xmain_5, rg_xmain_6, rg_xmain_7, ty_xaqueduct, ty_xdiary, ty_xforesight, ty_ximages, ty_xmain, ty_xnow, ty_xopinionReader, ty_xtape, ty_xtasters, ty_xthought, Option.toList_some, Option.toList_none, List.cons_append, List.nil_append, List.length_cons, List.length_nil, List.mem_cons, List.not_mem_nil, or_false, false_or, or_true, true_or, ↓reduceIte, true_and, and_true, Nat.reduceEqDiff, Nat.reduceAdd, Nat.reduceLeDiff, Nat.reduceLT, dl_i, dl_r, dl_n, dl_u, eq_self, not_true_eq_false, not_false_eq_true, n10, n01, nm0, n0m, g3, tT, p1, p1t, p1l', p3, p3t, p3l', p4, p4t, p4l', i9, ty71, y5, b6, l6, imp_t, imp_f]
  refine ⟨⟨fun e => ?_, fun e => ?_, fun e => ?_, fun e => ?_, fun e => ?_, fun e => ?_, fun e => ?_, fun e => ?_⟩, fun hno => ?_⟩
  · rw [ev 0 (by decide)] at e
    subst e
    refine call0 (x_waterIn dyA_71 hD.1 hw ?_)
    simp only [ixr_of, run_s, run_0, rH_village, rok_i, rok_z, bx_cons, bx_nil, eBP, eC0, eC1, eCV1, eCV2, eCV3, eGR, eIALD, eLA0, eLI1, eLI2, eRI, eSUB, eSW, jswA_c, swA_n, fH_village_0, fH_village_60, fH_village_69, fH_village_81, fH_village_94, fH_village_107, fH_village_120, fH_village_132, bH_village_0, bH_village_60, bH_village_69, bH_village_81, bH_village_94, bH_village_107, bH_village_120, bH_village_132, ln_ximages, ln_xthought, rg_xmain_0, rg_xmain_1, rg_xmain_10, rg_xmain_2, rg_xmain_3, rg_xmain_4, rg_xmain_5, rg_xmain_6, rg_xmain_7, ty_xaqueduct, ty_xdiary, ty_xforesight, ty_ximages, ty_xmain, ty_xnow, ty_xopinionReader, ty_xtape, ty_xtasters, ty_xthought, Option.toList_some, Option.toList_none, List.cons_append, List.nil_append, List.length_cons, List.length_nil, List.mem_cons, List.not_mem_nil, or_false, false_or, or_true, true_or, ↓reduceIte, true_and, and_true, Nat.reduceEqDiff, Nat.reduceAdd, Nat.reduceLeDiff, Nat.reduceLT, dl_i, dl_r, dl_n, dl_u, eq_self, not_true_eq_false, not_false_eq_true, n10, n01, nm0, n0m, imp_t, imp_f]
    refine hk _ J E (key _ ?_)
    rw [if_neg (by decide), if_neg (by decide), if_neg (by decide), if_neg (by decide), if_neg (by decide), if_pos rfl]
    exact hD.2.2.2.1.1 w hw
  · rw [ev 1 (by decide)] at e
    subst e
    have es : nI 1 - nI 1 = nI 0 := by decide
    rw [es]
    refine call0 (x_herbIn dyA_71 hD.1 hw (by decide) ?_)
    simp only [ixr_of, run_s, run_0, rH_village, rok_i, rok_z, bx_cons, bx_nil, eBP, eC0, eC1, eCV1, eCV2, eCV3, eGR, eIALD, eLA0, eLI1, eLI2, eRI, eSUB, eSW, jswA_c, swA_n, fH_village_0, fH_village_60, fH_village_69, fH_village_81, fH_village_94, fH_village_107, fH_village_120, fH_village_132, bH_village_0, bH_village_60, bH_village_69, bH_village_81, bH_village_94, bH_village_107, bH_village_120, bH_village_132, ln_ximages, ln_xthought, rg_xmain_0, rg_xmain_1, rg_xmain_10, rg_xmain_2, rg_xmain_3, rg_xmain_4, rg_xmain_5, rg_xmain_6, rg_xmain_7, ty_xaqueduct, ty_xdiary, ty_xforesight, ty_ximages, ty_xmain, ty_xnow, ty_xopinionReader, ty_xtape, ty_xtasters, ty_xthought, Option.toList_some, Option.toList_none, List.cons_append, List.nil_append, List.length_cons, List.length_nil, List.mem_cons, List.not_mem_nil, or_false, false_or, or_true, true_or, ↓reduceIte, true_and, and_true, Nat.reduceEqDiff, Nat.reduceAdd, Nat.reduceLeDiff, Nat.reduceLT, dl_i, dl_r, dl_n, dl_u, eq_self, not_true_eq_false, not_false_eq_true, n10, n01, nm0, n0m, imp_t, imp_f]
    refine hk _ J E (key _ ?_)
    rw [if_neg (by decide), if_neg (by decide), if_neg (by decide), if_neg (by decide), if_neg (by decide), if_neg (by decide)]
    exact hherb 1 (by decide) (by decide)
  · rw [ev 2 (by decide)] at e
    subst e
    have es : nI 2 - nI 1 = nI 1 := by decide
    rw [es]
    refine call0 (x_herbIn dyA_71 hD.1 hw (by decide) ?_)
    simp only [ixr_of, run_s, run_0, rH_village, rok_i, rok_z, bx_cons, bx_nil, eBP, eC0, eC1, eCV1, eCV2, eCV3, eGR, eIALD, eLA0, eLI1, eLI2, eRI, eSUB, eSW, jswA_c, swA_n, fH_village_0, fH_village_60, fH_village_69, fH_village_81, fH_village_94, fH_village_107, fH_village_120, fH_village_132, bH_village_0, bH_village_60, bH_village_69, bH_village_81, bH_village_94, bH_village_107, bH_village_120, bH_village_132, ln_ximages, ln_xthought, rg_xmain_0, rg_xmain_1, rg_xmain_10, rg_xmain_2, rg_xmain_3, rg_xmain_4, rg_xmain_5, rg_xmain_6, rg_xmain_7, ty_xaqueduct, ty_xdiary, ty_xforesight, ty_ximages, ty_xmain, ty_xnow, ty_xopinionReader, ty_xtape, ty_xtasters, ty_xthought, Option.toList_some, Option.toList_none, List.cons_append, List.nil_append, List.length_cons, List.length_nil, List.mem_cons, List.not_mem_nil, or_false, false_or, or_true, true_or, ↓reduceIte, true_and, and_true, Nat.reduceEqDiff, Nat.reduceAdd, Nat.reduceLeDiff, Nat.reduceLT, dl_i, dl_r, dl_n, dl_u, eq_self, not_true_eq_false, not_false_eq_true, n10, n01, nm0, n0m, imp_t, imp_f]
    refine hk _ J E (key _ ?_)
    rw [if_neg (by decide), if_neg (by decide), if_neg (by decide), if_neg (by decide), if_neg (by decide), if_neg (by decide)]
    exact hherb 2 (by decide) (by decide)
  · rw [ev 3 (by decide)] at e
    subst e
    have es : nI 3 - nI 1 = nI 2 := by decide
    rw [es]
    refine call0 (x_herbIn dyA_71 hD.1 hw (by decide) ?_)
    simp only [ixr_of, run_s, run_0, rH_village, rok_i, rok_z, bx_cons, bx_nil, eBP, eC0, eC1, eCV1, eCV2, eCV3, eGR, eIALD, eLA0, eLI1, eLI2, eRI, eSUB, eSW, jswA_c, swA_n, fH_village_0, fH_village_60, fH_village_69, fH_village_81, fH_village_94, fH_village_107, fH_village_120, fH_village_132, bH_village_0, bH_village_60, bH_village_69, bH_village_81, bH_village_94, bH_village_107, bH_village_120, bH_village_132, ln_ximages, ln_xthought, rg_xmain_0, rg_xmain_1, rg_xmain_10, rg_xmain_2, rg_xmain_3, rg_xmain_4, rg_xmain_5, rg_xmain_6, rg_xmain_7, ty_xaqueduct, ty_xdiary, ty_xforesight, ty_ximages, ty_xmain, ty_xnow, ty_xopinionReader, ty_xtape, ty_xtasters, ty_xthought, Option.toList_some, Option.toList_none, List.cons_append, List.nil_append, List.length_cons, List.length_nil, List.mem_cons, List.not_mem_nil, or_false, false_or, or_true, true_or, ↓reduceIte, true_and, and_true, Nat.reduceEqDiff, Nat.reduceAdd, Nat.reduceLeDiff, Nat.reduceLT, dl_i, dl_r, dl_n, dl_u, eq_self, not_true_eq_false, not_false_eq_true, n10, n01, nm0, n0m, imp_t, imp_f]
    refine hk _ J E (key _ ?_)
    rw [if_neg (by decide), if_neg (by decide), if_neg (by decide), if_neg (by decide), if_neg (by decide), if_neg (by decide)]
    exact hherb 3 (by decide) (by decide)
  · rw [ev 4 (by decide)] at e
    subst e
    refine hk _ J E (key _ ?_)
    rw [if_pos rfl, hMT.2.2.2 w hw 1 (by decide), ← vzw]
    exact x1
  · rw [ev 5 (by decide)] at e
    subst e
    refine hk _ J E (key _ ?_)
    rw [if_neg (by decide), if_pos rfl, hMT.2.2.2 w hw 3 (by decide), ← vzw]
    exact x3
  · rw [ev 6 (by decide)] at e
    subst e
    refine hk _ J E (key _ ?_)
    rw [if_neg (by decide), if_neg (by decide), if_pos rfl, hMT.2.2.2 w hw 4 (by decide), ← vzw]
    exact x4
  · rw [ev 7 (by decide)] at e
    subst e
    have hpl : pfS S w + vz S w 2 ≤ 8 := by rw [vzw]; exact hS.2.2.2.2.2.2.1 w hw
    refine call0 (x_partsLeft hTA hXt i9 hpl ?_)
    simp only [ixr_of, run_s, run_0, rH_village, rok_i, rok_z, bx_cons, bx_nil, eBP, eC0, eC1, eCV1, eCV2, eCV3, eGR, eIALD, eLA0, eLI1, eLI2, eRI, eSUB, eSW, jswA_c, swA_n, fH_village_0, fH_village_60, fH_village_69, fH_village_81, fH_village_94, fH_village_107, fH_village_120, fH_village_132, bH_village_0, bH_village_60, bH_village_69, bH_village_81, bH_village_94, bH_village_107, bH_village_120, bH_village_132, ln_ximages, ln_xthought, rg_xmain_0, rg_xmain_1, rg_xmain_10, rg_xmain_2, rg_xmain_3, rg_xmain_4, rg_xmain_5, rg_xmain_6, rg_xmain_7, ty_xaqueduct, ty_xdiary, ty_xforesight, ty_ximages, ty_xmain, ty_xnow, ty_xopinionReader, ty_xtape, ty_xtasters, ty_xthought, Option.toList_some, Option.toList_none, List.cons_append, List.nil_append, List.length_cons, List.length_nil, List.mem_cons, List.not_mem_nil, or_false, false_or, or_true, true_or, ↓reduceIte, true_and, and_true, Nat.reduceEqDiff, Nat.reduceAdd, Nat.reduceLeDiff, Nat.reduceLT, dl_i, dl_r, dl_n, dl_u, eq_self, not_true_eq_false, not_false_eq_true, n10, n01, nm0, n0m, imp_t, imp_f]
    refine hk _ J E (key _ ?_)
    rw [if_neg (by decide), if_neg (by decide), if_neg (by decide), if_pos rfl, sty_p hMT hS hw _ (Nat.le_refl _), ← vzw, nI_sb (by omega)]
    unfold pfS at hpl ⊢
    rw [nI_sb (by omega)]
    congr 1
    omega
  · have h1 : ∀ i, i < 8 → k0 ≠ i := fun i hi c => hno i hi (by rw [Nat.zero_add, c])
    have := h1 0 (by decide); have := h1 1 (by decide); have := h1 2 (by decide); have := h1 3 (by decide); have := h1 4 (by decide); have := h1 5 (by decide); have := h1 6 (by decide); have := h1 7 (by decide)
    have e : k0 = 8 := by omega
    subst e
    refine hk _ J E (key _ ?_)
    rw [if_neg (by decide), if_neg (by decide), if_neg (by decide), if_neg (by decide), if_pos rfl]
    exact (r3.1.2.2.2.2.1 w i9).1

theorem g_view {q z : Nat} {J : Iv} {E : Ev} {x : Int32} (h : GS q z J E) : StX1 mH_view mM_view [.int x] 1 q z J E := by
  have hG0 := h
  obtain ⟨S, PS, t, op, bk, kb, n, n0, p, c, mk, tp, im, nim, rw', r1, r2, r3, r4, r5, r6, r7, r8, r9⟩ := h
  have hS := r1.1.1.2.2.2.1
  have s9 := hS.1
  have hVS := r1.1.2.2.1
  have hq32 := r4.1.1
  obtain ⟨g3, hT, hXt, -⟩ := id r1.1.1
  have tT : tyc shN E t = 10 := (hT.A (b := true) (E := E)).1
  have v7 := hXt.1
  have h40 := hVS.1
  by_cases hin : nI 0 ≤ x ∧ x ≤ nI 99
  rotate_left
  · refine ⟨(1, 6), q, z, Cst.x, hq32, fun Γ l d kr kx hG _ hxI => ?_⟩
    refine ex_of (ls0 := [some (.ref 0), some (.int x)]) tH_view (by decide +kernel) kH_view rfl (Nat.le_of_ble_eq_true rfl) rfl ?_
    intro go hgo
    refine hgo 20 [] 0 _ _ _ _ _ ?_
    simp only [ixr_of, run_s, run_0, rH_view, rok_i, rok_z, bx_cons, bx_nil, eBP, eC0, eCV0, eCV2, eCV3, eGR, eLA0, eLI1, eRI, fH_view_0, bH_view_0, ln_ximages, ln_xthought, rg_xmain_0, rg_xmain_1, rg_xmain_10, rg_xmain_2, rg_xmain_3, rg_xmain_4, rg_xmain_5, rg_xmain_6, rg_xmain_7, ty_xaqueduct, ty_xdiary, ty_xforesight, ty_ximages, ty_xmain, ty_xnow, ty_xopinionReader, ty_xtape, ty_xtasters, ty_xthought, Option.toList_some, Option.toList_none, List.cons_append, List.nil_append, List.length_cons, List.length_nil, List.mem_cons, List.not_mem_nil, or_false, false_or, or_true, true_or, ↓reduceIte, true_and, and_true, Nat.reduceEqDiff, Nat.reduceAdd, Nat.reduceLeDiff, Nat.reduceLT, dl_i, dl_r, dl_n, dl_u, eq_self, not_true_eq_false, not_false_eq_true, n10, n01, nm0, n0m, imp_t, imp_f]
    refine ⟨1, 6, fun _ => Nat.le_refl _, fun _ => Nat.le_refl _, x_needInX hG.1.1 hG.2.1 hG.2.2 hin (hxI _ _ (fun Γ l d kr kx hk => ?_))⟩
    exact c_view (hVS.t say0) (fun _ => hk _ (hG0.rf (rn := 1) (w := 1) (by decide)).1.un (hG0.rf (rn := 1) (w := 1) (by decide)).2) (fun k hk e => absurd (by rw [e]; exact rgI (by omega) (by omega) (by decide)) hin)
  obtain ⟨k0, hk9, rfl⟩ := rng (by decide) hin
  refine ⟨(0, 0), q, z, Cst.no, hq32, fun Γ l d kr kx hG hk _ => ?_⟩
  refine ex_of (ls0 := [some (.ref 0), some (.int (nI k0))]) tH_view (by decide +kernel) kH_view rfl (Nat.le_of_ble_eq_true rfl) rfl ?_
  intro go hgo
  refine hgo 20 [] 0 _ _ _ _ _ ?_
  simp only [ixr_of, run_s, run_0, rH_view, rok_i, rok_z, bx_cons, bx_nil, eBP, eC0, eCV0, eCV2, eCV3, eGR, eLA0, eLI1, eRI, fH_view_0, bH_view_0, ln_ximages, ln_xthought, rg_xmain_0, rg_xmain_1, rg_xmain_10, rg_xmain_2, rg_xmain_3, rg_xmain_4, rg_xmain_5, rg_xmain_6, rg_xmain_7, ty_xaqueduct, ty_xdiary, ty_xforesight, ty_ximages, ty_xmain, ty_xnow, ty_xopinionReader, ty_xtape, ty_xtasters, ty_xthought, Option.toList_some, Option.toList_none, List.cons_append, List.nil_append, List.length_cons, List.length_nil, List.mem_cons, List.not_mem_nil, or_false, false_or, or_true, true_or, ↓reduceIte, true_and, and_true, Nat.reduceEqDiff, Nat.reduceAdd, Nat.reduceLeDiff, Nat.reduceLT, dl_i, dl_r, dl_n, dl_u, eq_self, not_true_eq_false, not_false_eq_true, n10, n01, nm0, n0m, imp_t, imp_f]
  refine call0 (x_needIn hin ?_)
  simp only [ixr_of, run_s, run_0, rH_view, rok_i, rok_z, bx_cons, bx_nil, eBP, eC0, eCV0, eCV2, eCV3, eGR, eLA0, eLI1, eRI, fH_view_0, bH_view_0, ln_ximages, ln_xthought, rg_xmain_0, rg_xmain_1, rg_xmain_10, rg_xmain_2, rg_xmain_3, rg_xmain_4, rg_xmain_5, rg_xmain_6, rg_xmain_7, ty_xaqueduct, ty_xdiary, ty_xforesight, ty_ximages, ty_xmain, ty_xnow, ty_xopinionReader, ty_xtape, ty_xtasters, ty_xthought, Option.toList_some, Option.toList_none, List.cons_append, List.nil_append, List.length_cons, List.length_nil, List.mem_cons, List.not_mem_nil, or_false, false_or, or_true, true_or, ↓reduceIte, true_and, and_true, Nat.reduceEqDiff, Nat.reduceAdd, Nat.reduceLeDiff, Nat.reduceLT, dl_i, dl_r, dl_n, dl_u, eq_self, not_true_eq_false, not_false_eq_true, n10, n01, nm0, n0m, imp_t, imp_f]
  have hn9 := r3.2.1
  refine call0 (x_after hG.1 r1.1 r3.1 (by omega) (fun K hX hDK => ?_))
  have ty48 : tyc shN E 48 = 3 := dyA_48.1
  simp only [ixr_of, run_s, run_0, rH_view, rok_i, rok_z, bx_cons, bx_nil, eBP, eC0, eCV0, eCV2, eCV3, eGR, eLA0, eLI1, eRI, fH_view_0, bH_view_0, ln_ximages, ln_xthought, rg_xmain_0, rg_xmain_1, rg_xmain_10, rg_xmain_2, rg_xmain_3, rg_xmain_4, rg_xmain_5, rg_xmain_6, rg_xmain_7, ty_xaqueduct, ty_xdiary, ty_xforesight, ty_ximages, ty_xmain, ty_xnow, ty_xopinionReader, ty_xtape, ty_xtasters, ty_xthought, Option.toList_some, Option.toList_none, List.cons_append, List.nil_append, List.length_cons, List.length_nil, List.mem_cons, List.not_mem_nil, or_false, false_or, or_true, true_or, ↓reduceIte, true_and, and_true, Nat.reduceEqDiff, Nat.reduceAdd, Nat.reduceLeDiff, Nat.reduceLT, dl_i, dl_r, dl_n, dl_u, eq_self, not_true_eq_false, not_false_eq_true, n10, n01, nm0, n0m, ty48, imp_t, imp_f]
  refine call0 (x_seen dyA_48 ?_)
  rw [vw_dr hDK]
  simp only [ixr_of, run_s, run_0, rH_view, rok_i, rok_z, bx_cons, bx_nil, eBP, eC0, eCV0, eCV2, eCV3, eGR, eLA0, eLI1, eRI, fH_view_0, bH_view_0, ln_ximages, ln_xthought, rg_xmain_0, rg_xmain_1, rg_xmain_10, rg_xmain_2, rg_xmain_3, rg_xmain_4, rg_xmain_5, rg_xmain_6, rg_xmain_7, ty_xaqueduct, ty_xdiary, ty_xforesight, ty_ximages, ty_xmain, ty_xnow, ty_xopinionReader, ty_xtape, ty_xtasters, ty_xthought, Option.toList_some, Option.toList_none, List.cons_append, List.nil_append, List.length_cons, List.length_nil, List.mem_cons, List.not_mem_nil, or_false, false_or, or_true, true_or, ↓reduceIte, true_and, and_true, Nat.reduceEqDiff, Nat.reduceAdd, Nat.reduceLeDiff, Nat.reduceLT, dl_i, dl_r, dl_n, dl_u, eq_self, not_true_eq_false, not_false_eq_true, n10, n01, nm0, n0m, imp_t, imp_f]
  refine hk _ K E (fun Γ l d kr kx hk2 => c_view (hVS.t (hX.t (Or.inl rfl))) (fun c => absurd hin c) (fun m hm e L hL => ?_))
  rw [nI_eq (by omega) (by omega)] at e
  subst e
  obtain ⟨m1, m2⟩ := Fr_mp hL
  rw [it_as hS, gN hS (Or.inl rfl) hX]
  exact hk2 L (hG0.fm (Or.inl rfl) hX m1) m2

theorem g_ahead {q z : Nat} {J : Iv} {E : Ev} {v x y : Int32} (h : GS q z J E) : StX mH_ahead mM_ahead [.int v, .int x, .int y] 1 2 q z J E := by
  have hG0 := h
  obtain ⟨S, PS, t, op, bk, kb, n, n0, p, c, mk, tp, im, nim, rw', r1, r2, r3, r4, r5, r6, r7, r8, r9⟩ := h
  have hS := r1.1.1.2.2.2.1
  have s9 := hS.1
  have hVS := r1.1.2.2.1
  have hq32 := r4.1.1
  obtain ⟨g3, hT, hXt, -⟩ := id r1.1.1
  have tT : tyc shN E t = 10 := (hT.A (b := true) (E := E)).1
  have v7 := hXt.1
  have h40 := hVS.1
  by_cases hv : ∃ w, w < S.1.1 ∧ v = nI w
  rotate_left
  · refine ⟨(1, 6), q, z, Cst.x, hq32, fun Γ l d kr kx hG _ hxN hxI => ?_⟩
    refine ex_of (ls0 := [some (.ref 0), some (.int v), some (.int x), some (.int y), none]) tH_ahead (by decide +kernel) kH_ahead rfl (Nat.le_of_ble_eq_true rfl) rfl ?_
    intro go hgo
    refine hgo 20 [] 0 _ _ _ _ _ ?_
    simp only [ixr_of, run_s, run_0, rH_ahead, rok_i, rok_z, bx_cons, bx_nil, eBP, eC0, eC1, eC3, eCV1, eCV2, eCV3, eGO, eGR, jIFne, eLA0, eLA4, eLI1, eLI2, eLI3, eRI, eSA4, eSUB, fH_ahead_0, fH_ahead_38, fH_ahead_47, fH_ahead_56, bH_ahead_0, bH_ahead_38, bH_ahead_47, bH_ahead_56, ln_ximages, ln_xthought, rg_xmain_0, rg_xmain_1, rg_xmain_10, rg_xmain_2, rg_xmain_3, rg_xmain_4, rg_xmain_5, rg_xmain_6, rg_xmain_7, ty_xaqueduct, ty_xdiary, ty_xforesight, ty_ximages, ty_xmain, ty_xnow, ty_xopinionReader, ty_xtape, ty_xtasters, ty_xthought, Option.toList_some, Option.toList_none, List.cons_append, List.nil_append, List.length_cons, List.length_nil, List.mem_cons, List.not_mem_nil, or_false, false_or, or_true, true_or, ↓reduceIte, true_and, and_true, Nat.reduceEqDiff, Nat.reduceAdd, Nat.reduceLeDiff, Nat.reduceLT, dl_i, dl_r, dl_n, dl_u, eq_self, not_true_eq_false, not_false_eq_true, n10, n01, nm0, n0m, imp_t, imp_f]
    refine ⟨1, 6, fun _ => Nat.le_refl _, fun _ => Nat.le_refl _, x_needVillageX hG.1.1 hG.2.1 hG.2.2 g3 tT v7 (vin_n s9 hv) (hxN _ _ (fun Γ l d kr kx hk => ?_))⟩
    exact c_ahead (hVS.t say0) (fun _ => hk _ (hG0.rf (rn := 0) (w := 1) (by decide)).1.un (hG0.rf (rn := 0) (w := 1) (by decide)).2) (fun c _ => absurd c (vim_n (by rw [up_n (by omega)]; exact h40) s9 hv)) (fun w k u a e _ _ _ _ => absurd ⟨w, a, e⟩ hv)
  obtain ⟨w, hw, rfl⟩ := hv
  by_cases hin : nI 0 ≤ x ∧ x ≤ nI 99
  rotate_left
  · refine ⟨(1, 6), q, z, Cst.x, hq32, fun Γ l d kr kx hG _ hxN hxI => ?_⟩
    refine ex_of (ls0 := [some (.ref 0), some (.int (nI w)), some (.int x), some (.int y), none]) tH_ahead (by decide +kernel) kH_ahead rfl (Nat.le_of_ble_eq_true rfl) rfl ?_
    intro go hgo
    refine hgo 20 [] 0 _ _ _ _ _ ?_
    simp only [ixr_of, run_s, run_0, rH_ahead, rok_i, rok_z, bx_cons, bx_nil, eBP, eC0, eC1, eC3, eCV1, eCV2, eCV3, eGO, eGR, jIFne, eLA0, eLA4, eLI1, eLI2, eLI3, eRI, eSA4, eSUB, fH_ahead_0, fH_ahead_38, fH_ahead_47, fH_ahead_56, bH_ahead_0, bH_ahead_38, bH_ahead_47, bH_ahead_56, ln_ximages, ln_xthought, rg_xmain_0, rg_xmain_1, rg_xmain_10, rg_xmain_2, rg_xmain_3, rg_xmain_4, rg_xmain_5, rg_xmain_6, rg_xmain_7, ty_xaqueduct, ty_xdiary, ty_xforesight, ty_ximages, ty_xmain, ty_xnow, ty_xopinionReader, ty_xtape, ty_xtasters, ty_xthought, Option.toList_some, Option.toList_none, List.cons_append, List.nil_append, List.length_cons, List.length_nil, List.mem_cons, List.not_mem_nil, or_false, false_or, or_true, true_or, ↓reduceIte, true_and, and_true, Nat.reduceEqDiff, Nat.reduceAdd, Nat.reduceLeDiff, Nat.reduceLT, dl_i, dl_r, dl_n, dl_u, eq_self, not_true_eq_false, not_false_eq_true, n10, n01, nm0, n0m, imp_t, imp_f]
    refine call0 (x_needVillage g3 tT v7 (vin rfl ⟨hw, s9⟩) ?_)
    simp only [ixr_of, run_s, run_0, rH_ahead, rok_i, rok_z, bx_cons, bx_nil, eBP, eC0, eC1, eC3, eCV1, eCV2, eCV3, eGO, eGR, jIFne, eLA0, eLA4, eLI1, eLI2, eLI3, eRI, eSA4, eSUB, fH_ahead_0, fH_ahead_38, fH_ahead_47, fH_ahead_56, bH_ahead_0, bH_ahead_38, bH_ahead_47, bH_ahead_56, ln_ximages, ln_xthought, rg_xmain_0, rg_xmain_1, rg_xmain_10, rg_xmain_2, rg_xmain_3, rg_xmain_4, rg_xmain_5, rg_xmain_6, rg_xmain_7, ty_xaqueduct, ty_xdiary, ty_xforesight, ty_ximages, ty_xmain, ty_xnow, ty_xopinionReader, ty_xtape, ty_xtasters, ty_xthought, Option.toList_some, Option.toList_none, List.cons_append, List.nil_append, List.length_cons, List.length_nil, List.mem_cons, List.not_mem_nil, or_false, false_or, or_true, true_or, ↓reduceIte, true_and, and_true, Nat.reduceEqDiff, Nat.reduceAdd, Nat.reduceLeDiff, Nat.reduceLT, dl_i, dl_r, dl_n, dl_u, eq_self, not_true_eq_false, not_false_eq_true, n10, n01, nm0, n0m, imp_t, imp_f]
    refine ⟨1, 6, fun _ => Nat.le_refl _, fun _ => Nat.le_refl _, x_needInX hG.1.1 hG.2.1 hG.2.2 hin (hxI _ _ (fun Γ l d kr kx hk => ?_))⟩
    exact c_ahead (hVS.t say0) (fun c => absurd (vim (by rw [up_n (by omega)]; exact h40) s9 hw rfl) c) (fun _ _ => hk _ (hG0.rf (rn := 1) (w := 2) (by decide)).1.un (hG0.rf (rn := 1) (w := 2) (by decide)).2) (fun w k u a e b f g i => by first | exact absurd (by rw [f]; exact rgI (by omega) (by omega) (by decide)) hin | exact absurd (by rw [i]; exact rgI (by omega) (by omega) (by decide)) hin2)
  by_cases hin2 : nI 0 ≤ y ∧ y ≤ nI 3
  rotate_left
  · refine ⟨(1, 6), q, z, Cst.x, hq32, fun Γ l d kr kx hG _ hxN hxI => ?_⟩
    refine ex_of (ls0 := [some (.ref 0), some (.int (nI w)), some (.int x), some (.int y), none]) tH_ahead (by decide +kernel) kH_ahead rfl (Nat.le_of_ble_eq_true rfl) rfl ?_
    intro go hgo
    refine hgo 20 [] 0 _ _ _ _ _ ?_
    simp only [ixr_of, run_s, run_0, rH_ahead, rok_i, rok_z, bx_cons, bx_nil, eBP, eC0, eC1, eC3, eCV1, eCV2, eCV3, eGO, eGR, jIFne, eLA0, eLA4, eLI1, eLI2, eLI3, eRI, eSA4, eSUB, fH_ahead_0, fH_ahead_38, fH_ahead_47, fH_ahead_56, bH_ahead_0, bH_ahead_38, bH_ahead_47, bH_ahead_56, ln_ximages, ln_xthought, rg_xmain_0, rg_xmain_1, rg_xmain_10, rg_xmain_2, rg_xmain_3, rg_xmain_4, rg_xmain_5, rg_xmain_6, rg_xmain_7, ty_xaqueduct, ty_xdiary, ty_xforesight, ty_ximages, ty_xmain, ty_xnow, ty_xopinionReader, ty_xtape, ty_xtasters, ty_xthought, Option.toList_some, Option.toList_none, List.cons_append, List.nil_append, List.length_cons, List.length_nil, List.mem_cons, List.not_mem_nil, or_false, false_or, or_true, true_or, ↓reduceIte, true_and, and_true, Nat.reduceEqDiff, Nat.reduceAdd, Nat.reduceLeDiff, Nat.reduceLT, dl_i, dl_r, dl_n, dl_u, eq_self, not_true_eq_false, not_false_eq_true, n10, n01, nm0, n0m, imp_t, imp_f]
    refine call0 (x_needVillage g3 tT v7 (vin rfl ⟨hw, s9⟩) ?_)
    simp only [ixr_of, run_s, run_0, rH_ahead, rok_i, rok_z, bx_cons, bx_nil, eBP, eC0, eC1, eC3, eCV1, eCV2, eCV3, eGO, eGR, jIFne, eLA0, eLA4, eLI1, eLI2, eLI3, eRI, eSA4, eSUB, fH_ahead_0, fH_ahead_38, fH_ahead_47, fH_ahead_56, bH_ahead_0, bH_ahead_38, bH_ahead_47, bH_ahead_56, ln_ximages, ln_xthought, rg_xmain_0, rg_xmain_1, rg_xmain_10, rg_xmain_2, rg_xmain_3, rg_xmain_4, rg_xmain_5, rg_xmain_6, rg_xmain_7, ty_xaqueduct, ty_xdiary, ty_xforesight, ty_ximages, ty_xmain, ty_xnow, ty_xopinionReader, ty_xtape, ty_xtasters, ty_xthought, Option.toList_some, Option.toList_none, List.cons_append, List.nil_append, List.length_cons, List.length_nil, List.mem_cons, List.not_mem_nil, or_false, false_or, or_true, true_or, ↓reduceIte, true_and, and_true, Nat.reduceEqDiff, Nat.reduceAdd, Nat.reduceLeDiff, Nat.reduceLT, dl_i, dl_r, dl_n, dl_u, eq_self, not_true_eq_false, not_false_eq_true, n10, n01, nm0, n0m, imp_t, imp_f]
    refine call0 (x_needIn hin ?_)
    simp only [ixr_of, run_s, run_0, rH_ahead, rok_i, rok_z, bx_cons, bx_nil, eBP, eC0, eC1, eC3, eCV1, eCV2, eCV3, eGO, eGR, jIFne, eLA0, eLA4, eLI1, eLI2, eLI3, eRI, eSA4, eSUB, fH_ahead_0, fH_ahead_38, fH_ahead_47, fH_ahead_56, bH_ahead_0, bH_ahead_38, bH_ahead_47, bH_ahead_56, ln_ximages, ln_xthought, rg_xmain_0, rg_xmain_1, rg_xmain_10, rg_xmain_2, rg_xmain_3, rg_xmain_4, rg_xmain_5, rg_xmain_6, rg_xmain_7, ty_xaqueduct, ty_xdiary, ty_xforesight, ty_ximages, ty_xmain, ty_xnow, ty_xopinionReader, ty_xtape, ty_xtasters, ty_xthought, Option.toList_some, Option.toList_none, List.cons_append, List.nil_append, List.length_cons, List.length_nil, List.mem_cons, List.not_mem_nil, or_false, false_or, or_true, true_or, ↓reduceIte, true_and, and_true, Nat.reduceEqDiff, Nat.reduceAdd, Nat.reduceLeDiff, Nat.reduceLT, dl_i, dl_r, dl_n, dl_u, eq_self, not_true_eq_false, not_false_eq_true, n10, n01, nm0, n0m, imp_t, imp_f]
    refine ⟨1, 6, fun _ => Nat.le_refl _, fun _ => Nat.le_refl _, x_needInX hG.1.1 hG.2.1 hG.2.2 hin2 (hxI _ _ (fun Γ l d kr kx hk => ?_))⟩
    exact c_ahead (hVS.t say0) (fun c => absurd (vim (by rw [up_n (by omega)]; exact h40) s9 hw rfl) c) (fun _ _ => hk _ (hG0.rf (rn := 1) (w := 2) (by decide)).1.un (hG0.rf (rn := 1) (w := 2) (by decide)).2) (fun w k u a e b f g i => by first | exact absurd (by rw [f]; exact rgI (by omega) (by omega) (by decide)) hin | exact absurd (by rw [i]; exact rgI (by omega) (by omega) (by decide)) hin2)
  obtain ⟨k0, hk9, rfl⟩ := rng (by decide) hin
  obtain ⟨u0, hu3, rfl⟩ := rng (by decide) hin2
  refine ⟨(0, 0), q, z, Cst.no, hq32, fun Γ l d kr kx hG hk _ _ => ?_⟩
  refine ex_of (ls0 := [some (.ref 0), some (.int (nI w)), some (.int (nI k0)), some (.int (nI u0)), none]) tH_ahead (by decide +kernel) kH_ahead rfl (Nat.le_of_ble_eq_true rfl) rfl ?_
  intro go hgo
  refine hgo 20 [] 0 _ _ _ _ _ ?_
  simp only [ixr_of, run_s, run_0, rH_ahead, rok_i, rok_z, bx_cons, bx_nil, eBP, eC0, eC1, eC3, eCV1, eCV2, eCV3, eGO, eGR, jIFne, eLA0, eLA4, eLI1, eLI2, eLI3, eRI, eSA4, eSUB, fH_ahead_0, fH_ahead_38, fH_ahead_47, fH_ahead_56, bH_ahead_0, bH_ahead_38, bH_ahead_47, bH_ahead_56, ln_ximages, ln_xthought, rg_xmain_0, rg_xmain_1, rg_xmain_10, rg_xmain_2, rg_xmain_3, rg_xmain_4, rg_xmain_5, rg_xmain_6, rg_xmain_7, ty_xaqueduct, ty_xdiary, ty_xforesight, ty_ximages, ty_xmain, ty_xnow, ty_xopinionReader, ty_xtape, ty_xtasters, ty_xthought, Option.toList_some, Option.toList_none, List.cons_append, List.nil_append, List.length_cons, List.length_nil, List.mem_cons, List.not_mem_nil, or_false, false_or, or_true, true_or, ↓reduceIte, true_and, and_true, Nat.reduceEqDiff, Nat.reduceAdd, Nat.reduceLeDiff, Nat.reduceLT, dl_i, dl_r, dl_n, dl_u, eq_self, not_true_eq_false, not_false_eq_true, n10, n01, nm0, n0m, imp_t, imp_f]
  refine call0 (x_needVillage g3 tT v7 (vin rfl ⟨hw, s9⟩) ?_)
  simp only [ixr_of, run_s, run_0, rH_ahead, rok_i, rok_z, bx_cons, bx_nil, eBP, eC0, eC1, eC3, eCV1, eCV2, eCV3, eGO, eGR, jIFne, eLA0, eLA4, eLI1, eLI2, eLI3, eRI, eSA4, eSUB, fH_ahead_0, fH_ahead_38, fH_ahead_47, fH_ahead_56, bH_ahead_0, bH_ahead_38, bH_ahead_47, bH_ahead_56, ln_ximages, ln_xthought, rg_xmain_0, rg_xmain_1, rg_xmain_10, rg_xmain_2, rg_xmain_3, rg_xmain_4, rg_xmain_5, rg_xmain_6, rg_xmain_7, ty_xaqueduct, ty_xdiary, ty_xforesight, ty_ximages, ty_xmain, ty_xnow, ty_xopinionReader, ty_xtape, ty_xtasters, ty_xthought, Option.toList_some, Option.toList_none, List.cons_append, List.nil_append, List.length_cons, List.length_nil, List.mem_cons, List.not_mem_nil, or_false, false_or, or_true, true_or, ↓reduceIte, true_and, and_true, Nat.reduceEqDiff, Nat.reduceAdd, Nat.reduceLeDiff, Nat.reduceLT, dl_i, dl_r, dl_n, dl_u, eq_self, not_true_eq_false, not_false_eq_true, n10, n01, nm0, n0m, imp_t, imp_f]
  refine call0 (x_needIn hin ?_)
  simp only [ixr_of, run_s, run_0, rH_ahead, rok_i, rok_z, bx_cons, bx_nil, eBP, eC0, eC1, eC3, eCV1, eCV2, eCV3, eGO, eGR, jIFne, eLA0, eLA4, eLI1, eLI2, eLI3, eRI, eSA4, eSUB, fH_ahead_0, fH_ahead_38, fH_ahead_47, fH_ahead_56, bH_ahead_0, bH_ahead_38, bH_ahead_47, bH_ahead_56, ln_ximages, ln_xthought, rg_xmain_0, rg_xmain_1, rg_xmain_10, rg_xmain_2, rg_xmain_3, rg_xmain_4, rg_xmain_5, rg_xmain_6, rg_xmain_7, ty_xaqueduct, ty_xdiary, ty_xforesight, ty_ximages, ty_xmain, ty_xnow, ty_xopinionReader, ty_xtape, ty_xtasters, ty_xthought, Option.toList_some, Option.toList_none, List.cons_append, List.nil_append, List.length_cons, List.length_nil, List.mem_cons, List.not_mem_nil, or_false, false_or, or_true, true_or, ↓reduceIte, true_and, and_true, Nat.reduceEqDiff, Nat.reduceAdd, Nat.reduceLeDiff, Nat.reduceLT, dl_i, dl_r, dl_n, dl_u, eq_self, not_true_eq_false, not_false_eq_true, n10, n01, nm0, n0m, imp_t, imp_f]
  refine call0 (x_needIn hin2 ?_)
  simp only [ixr_of, run_s, run_0, rH_ahead, rok_i, rok_z, bx_cons, bx_nil, eBP, eC0, eC1, eC3, eCV1, eCV2, eCV3, eGO, eGR, jIFne, eLA0, eLA4, eLI1, eLI2, eLI3, eRI, eSA4, eSUB, fH_ahead_0, fH_ahead_38, fH_ahead_47, fH_ahead_56, bH_ahead_0, bH_ahead_38, bH_ahead_47, bH_ahead_56, ln_ximages, ln_xthought, rg_xmain_0, rg_xmain_1, rg_xmain_10, rg_xmain_2, rg_xmain_3, rg_xmain_4, rg_xmain_5, rg_xmain_6, rg_xmain_7, ty_xaqueduct, ty_xdiary, ty_xforesight, ty_ximages, ty_xmain, ty_xnow, ty_xopinionReader, ty_xtape, ty_xtasters, ty_xthought, Option.toList_some, Option.toList_none, List.cons_append, List.nil_append, List.length_cons, List.length_nil, List.mem_cons, List.not_mem_nil, or_false, false_or, or_true, true_or, ↓reduceIte, true_and, and_true, Nat.reduceEqDiff, Nat.reduceAdd, Nat.reduceLeDiff, Nat.reduceLT, dl_i, dl_r, dl_n, dl_u, eq_self, not_true_eq_false, not_false_eq_true, n10, n01, nm0, n0m, imp_t, imp_f]
  have hn9 := r3.2.1
  refine call0 (x_after hG.1 r1.1 r3.1 (by omega) (fun K hX hDK => ?_))
  have ty48 : tyc shN E 48 = 3 := dyA_48.1
  have c0 : (nI u0 = nI 0) = (u0 = 0) := nIe (by omega) (by decide)
  have key : ∀ a, a = (if u0 = 0 then gR J S.1.1 S.1.2 (pmN J) (J 500124) k0 w else smI (fun k => gR J S.1.1 S.1.2 (pmN J) (J 500124) k0 (9 + 27 * w + 9 * (u0 - 1) + k)) 9) → MAns mM_ahead [.ref 500000, .int (nI w), .int (nI k0), .int (nI u0)] a 0 q z K E := by
    intro a ha Γ l d kr kx hk2
    have k40 : K 500004 0 = nI S.1.1 := by rw [hX.m (Or.inl rfl) 500004 (by omega) (by omega)]; exact h40
    refine c_ahead (hVS.t (hX.t (Or.inl rfl))) (fun c => absurd (vim k40 s9 hw rfl) c) (fun _ c => absurd ⟨hin, hin2⟩ c) (fun w' k' u' a' e b f g i L hL hz => ?_)
    rw [nI_eq (by omega) (by omega)] at e f i
    subst e; subst f; subst i
    rw [gN hS (Or.inl rfl) hX, ← ha]
    exact hk2 L (hG0.fm (Or.inl rfl) hX hL) hz
  simp only [ixr_of, run_s, run_0, rH_ahead, rok_i, rok_z, bx_cons, bx_nil, eBP, eC0, eC1, eC3, eCV1, eCV2, eCV3, eGO, eGR, jIFne, eLA0, eLA4, eLI1, eLI2, eLI3, eRI, eSA4, eSUB, fH_ahead_0, fH_ahead_38, fH_ahead_47, fH_ahead_56, bH_ahead_0, bH_ahead_38, bH_ahead_47, bH_ahead_56, ln_ximages, ln_xthought, rg_xmain_0, rg_xmain_1, rg_xmain_10, rg_xmain_2, rg_xmain_3, rg_xmain_4, rg_xmain_5, rg_xmain_6, rg_xmain_7, ty_xaqueduct, ty_xdiary, ty_xforesight, ty_ximages, ty_xmain, ty_xnow, ty_xopinionReader, ty_xtape, ty_xtasters, ty_xthought, Option.toList_some, Option.toList_none, List.cons_append, List.nil_append, List.length_cons, List.length_nil, List.mem_cons, List.not_mem_nil, or_false, false_or, or_true, true_or, ↓reduceIte, true_and, and_true, Nat.reduceEqDiff, Nat.reduceAdd, Nat.reduceLeDiff, Nat.reduceLT, dl_i, dl_r, dl_n, dl_u, eq_self, not_true_eq_false, not_false_eq_true, n10, n01, nm0, n0m, ty48, c0, imp_t, imp_f]
  refine ⟨fun zz => ?_, fun zz => ?_⟩
  · obtain ⟨u, rfl⟩ : ∃ u, u0 = u + 1 := ⟨u0 - 1, by omega⟩
    have e1 : nI (u + 1) - nI 1 = nI u := by rw [nI_sb (by omega)]; rfl
    rw [e1]
    refine call0 (x_herbIn dyA_48 hDK.1 hw (by omega) ?_)
    simp only [ixr_of, run_s, run_0, rH_ahead, rok_i, rok_z, bx_cons, bx_nil, eBP, eC0, eC1, eC3, eCV1, eCV2, eCV3, eGO, eGR, jIFne, eLA0, eLA4, eLI1, eLI2, eLI3, eRI, eSA4, eSUB, fH_ahead_0, fH_ahead_38, fH_ahead_47, fH_ahead_56, bH_ahead_0, bH_ahead_38, bH_ahead_47, bH_ahead_56, ln_ximages, ln_xthought, rg_xmain_0, rg_xmain_1, rg_xmain_10, rg_xmain_2, rg_xmain_3, rg_xmain_4, rg_xmain_5, rg_xmain_6, rg_xmain_7, ty_xaqueduct, ty_xdiary, ty_xforesight, ty_ximages, ty_xmain, ty_xnow, ty_xopinionReader, ty_xtape, ty_xtasters, ty_xthought, Option.toList_some, Option.toList_none, List.cons_append, List.nil_append, List.length_cons, List.length_nil, List.mem_cons, List.not_mem_nil, or_false, false_or, or_true, true_or, ↓reduceIte, true_and, and_true, Nat.reduceEqDiff, Nat.reduceAdd, Nat.reduceLeDiff, Nat.reduceLT, dl_i, dl_r, dl_n, dl_u, eq_self, not_true_eq_false, not_false_eq_true, n10, n01, nm0, n0m, imp_t, imp_f]
    refine hk _ K E (key _ ?_)
    rw [if_neg (by omega)]
    exact hbD_r hS hDK.2.2.2.1 (hDK.2.2.2.2.1.zr s9) hw (by omega)
  · subst zz
    refine call0 (x_waterIn dyA_48 hDK.1 hw ?_)
    simp only [ixr_of, run_s, run_0, rH_ahead, rok_i, rok_z, bx_cons, bx_nil, eBP, eC0, eC1, eC3, eCV1, eCV2, eCV3, eGO, eGR, jIFne, eLA0, eLA4, eLI1, eLI2, eLI3, eRI, eSA4, eSUB, fH_ahead_0, fH_ahead_38, fH_ahead_47, fH_ahead_56, bH_ahead_0, bH_ahead_38, bH_ahead_47, bH_ahead_56, ln_ximages, ln_xthought, rg_xmain_0, rg_xmain_1, rg_xmain_10, rg_xmain_2, rg_xmain_3, rg_xmain_4, rg_xmain_5, rg_xmain_6, rg_xmain_7, ty_xaqueduct, ty_xdiary, ty_xforesight, ty_ximages, ty_xmain, ty_xnow, ty_xopinionReader, ty_xtape, ty_xtasters, ty_xthought, Option.toList_some, Option.toList_none, List.cons_append, List.nil_append, List.length_cons, List.length_nil, List.mem_cons, List.not_mem_nil, or_false, false_or, or_true, true_or, ↓reduceIte, true_and, and_true, Nat.reduceEqDiff, Nat.reduceAdd, Nat.reduceLeDiff, Nat.reduceLT, dl_i, dl_r, dl_n, dl_u, eq_self, not_true_eq_false, not_false_eq_true, n10, n01, nm0, n0m, imp_t, imp_f]
    refine hk _ K E (key _ ?_)
    rw [if_pos rfl]
    exact hDK.2.2.2.1.1 w hw

theorem g_when {q z : Nat} {J : Iv} {E : Ev} {x : Int32} (h : GS q z J E) : StX1 mH_when mM_when [.int x] 1 q z J E := by
  have hG0 := h
  obtain ⟨S, PS, t, op, bk, kb, n, n0, p, c, mk, tp, im, nim, rw', r1, r2, r3, r4, r5, r6, r7, r8, r9⟩ := h
  have hS := r1.1.1.2.2.2.1
  have s9 := hS.1
  have hVS := r1.1.2.2.1
  have hq32 := r4.1.1
  obtain ⟨g3, hT, hXt, -⟩ := id r1.1.1
  have tT : tyc shN E t = 10 := (hT.A (b := true) (E := E)).1
  have v7 := hXt.1
  have h40 := hVS.1
  by_cases hin : nI 0 ≤ x ∧ x ≤ nI 7
  rotate_left
  · refine ⟨(1, 6), q, z, Cst.x, hq32, fun Γ l d kr kx hG _ hxI => ?_⟩
    refine ex_of (ls0 := [some (.ref 0), some (.int x)]) tH_when (by decide +kernel) kH_when rfl (Nat.le_of_ble_eq_true rfl) rfl ?_
    intro go hgo
    refine hgo 20 [] 0 _ _ _ _ _ ?_
    simp only [ixr_of, run_s, run_0, rH_when, rok_i, rok_z, bx_cons, bx_nil, eBP, eC0, eCV2, eCV3, eGR, eLA0, eLI1, eRI, fH_when_0, bH_when_0, ln_ximages, ln_xthought, rg_xmain_0, rg_xmain_1, rg_xmain_10, rg_xmain_2, rg_xmain_3, rg_xmain_4, rg_xmain_5, rg_xmain_6, rg_xmain_7, ty_xaqueduct, ty_xdiary, ty_xforesight, ty_ximages, ty_xmain, ty_xnow, ty_xopinionReader, ty_xtape, ty_xtasters, ty_xthought, Option.toList_some, Option.toList_none, List.cons_append, List.nil_append, List.length_cons, List.length_nil, List.mem_cons, List.not_mem_nil, or_false, false_or, or_true, true_or, ↓reduceIte, true_and, and_true, Nat.reduceEqDiff, Nat.reduceAdd, Nat.reduceLeDiff, Nat.reduceLT, dl_i, dl_r, dl_n, dl_u, eq_self, not_true_eq_false, not_false_eq_true, n10, n01, nm0, n0m, imp_t, imp_f]
    refine ⟨1, 6, fun _ => Nat.le_refl _, fun _ => Nat.le_refl _, x_needInX hG.1.1 hG.2.1 hG.2.2 hin (hxI _ _ (fun Γ l d kr kx hk => ?_))⟩
    exact c_when (hVS.t say0) (fun _ => hk _ (hG0.rf (rn := 1) (w := 1) (by decide)).1.un (hG0.rf (rn := 1) (w := 1) (by decide)).2) (fun c => absurd c hin) (fun c => absurd c hin)
  refine ⟨(0, 0), q, z, Cst.no, hq32, fun Γ l d kr kx hG hk _ => ?_⟩
  refine ex_of (ls0 := [some (.ref 0), some (.int x)]) tH_when (by decide +kernel) kH_when rfl (Nat.le_of_ble_eq_true rfl) rfl ?_
  intro go hgo
  refine hgo 20 [] 0 _ _ _ _ _ ?_
  simp only [ixr_of, run_s, run_0, rH_when, rok_i, rok_z, bx_cons, bx_nil, eBP, eC0, eCV2, eCV3, eGR, eLA0, eLI1, eRI, fH_when_0, bH_when_0, ln_ximages, ln_xthought, rg_xmain_0, rg_xmain_1, rg_xmain_10, rg_xmain_2, rg_xmain_3, rg_xmain_4, rg_xmain_5, rg_xmain_6, rg_xmain_7, ty_xaqueduct, ty_xdiary, ty_xforesight, ty_ximages, ty_xmain, ty_xnow, ty_xopinionReader, ty_xtape, ty_xtasters, ty_xthought, Option.toList_some, Option.toList_none, List.cons_append, List.nil_append, List.length_cons, List.length_nil, List.mem_cons, List.not_mem_nil, or_false, false_or, or_true, true_or, ↓reduceIte, true_and, and_true, Nat.reduceEqDiff, Nat.reduceAdd, Nat.reduceLeDiff, Nat.reduceLT, dl_i, dl_r, dl_n, dl_u, eq_self, not_true_eq_false, not_false_eq_true, n10, n01, nm0, n0m, imp_t, imp_f]
  refine call0 (x_needIn hin ?_)
  simp only [ixr_of, run_s, run_0, rH_when, rok_i, rok_z, bx_cons, bx_nil, eBP, eC0, eCV2, eCV3, eGR, eLA0, eLI1, eRI, fH_when_0, bH_when_0, ln_ximages, ln_xthought, rg_xmain_0, rg_xmain_1, rg_xmain_10, rg_xmain_2, rg_xmain_3, rg_xmain_4, rg_xmain_5, rg_xmain_6, rg_xmain_7, ty_xaqueduct, ty_xdiary, ty_xforesight, ty_ximages, ty_xmain, ty_xnow, ty_xopinionReader, ty_xtape, ty_xtasters, ty_xthought, Option.toList_some, Option.toList_none, List.cons_append, List.nil_append, List.length_cons, List.length_nil, List.mem_cons, List.not_mem_nil, or_false, false_or, or_true, true_or, ↓reduceIte, true_and, and_true, Nat.reduceEqDiff, Nat.reduceAdd, Nat.reduceLeDiff, Nat.reduceLT, dl_i, dl_r, dl_n, dl_u, eq_self, not_true_eq_false, not_false_eq_true, n10, n01, nm0, n0m, imp_t, imp_f]
  have hn9 := r3.2.1
  refine call0 (x_firstSeen hG.1 r1.1 r3.1 (by omega) (fun k a1 a2 a3 a4 K hX => ?_) (fun a3 K hX => ?_))
  · simp only [ixr_of, run_s, run_0, rH_when, rok_i, rok_z, bx_cons, bx_nil, eBP, eC0, eCV2, eCV3, eGR, eLA0, eLI1, eRI, fH_when_0, bH_when_0, ln_ximages, ln_xthought, rg_xmain_0, rg_xmain_1, rg_xmain_10, rg_xmain_2, rg_xmain_3, rg_xmain_4, rg_xmain_5, rg_xmain_6, rg_xmain_7, ty_xaqueduct, ty_xdiary, ty_xforesight, ty_ximages, ty_xmain, ty_xnow, ty_xopinionReader, ty_xtape, ty_xtasters, ty_xthought, Option.toList_some, Option.toList_none, List.cons_append, List.nil_append, List.length_cons, List.length_nil, List.mem_cons, List.not_mem_nil, or_false, false_or, or_true, true_or, ↓reduceIte, true_and, and_true, Nat.reduceEqDiff, Nat.reduceAdd, Nat.reduceLeDiff, Nat.reduceLT, dl_i, dl_r, dl_n, dl_u, eq_self, not_true_eq_false, not_false_eq_true, n10, n01, nm0, n0m, imp_t, imp_f]
    refine hk _ K E (fun Γ l d kr kx hk2 => c_when (hVS.t (hX.t (Or.inl rfl))) (fun c => absurd hin c) (fun _ m m1 m2 m3 m4 L hL => ?_) (fun _ m4 L hL => ?_))
    · have em : m = k := by
        rw [it_as hS, gN hS (Or.inl rfl) hX] at m3
        by_cases c1 : m < k
        · exact absurd m3 (a4 m m1 c1)
        · by_cases c2 : k < m
          · have := m4 k a1 c2
            rw [it_as hS, gN hS (Or.inl rfl) hX] at this
            exact absurd a3 this
          · omega
      rw [em]
      exact hk2 L (hG0.fm (Or.inl rfl) hX (Fr_mp hL).1) (Fr_mp hL).2
    · have := m4 k a1 a2
      rw [it_as hS, gN hS (Or.inl rfl) hX] at this
      exact absurd a3 this
  · simp only [ixr_of, run_s, run_0, rH_when, rok_i, rok_z, bx_cons, bx_nil, eBP, eC0, eCV2, eCV3, eGR, eLA0, eLI1, eRI, fH_when_0, bH_when_0, ln_ximages, ln_xthought, rg_xmain_0, rg_xmain_1, rg_xmain_10, rg_xmain_2, rg_xmain_3, rg_xmain_4, rg_xmain_5, rg_xmain_6, rg_xmain_7, ty_xaqueduct, ty_xdiary, ty_xforesight, ty_ximages, ty_xmain, ty_xnow, ty_xopinionReader, ty_xtape, ty_xtasters, ty_xthought, Option.toList_some, Option.toList_none, List.cons_append, List.nil_append, List.length_cons, List.length_nil, List.mem_cons, List.not_mem_nil, or_false, false_or, or_true, true_or, ↓reduceIte, true_and, and_true, Nat.reduceEqDiff, Nat.reduceAdd, Nat.reduceLeDiff, Nat.reduceLT, dl_i, dl_r, dl_n, dl_u, eq_self, not_true_eq_false, not_false_eq_true, n10, n01, nm0, n0m, imp_t, imp_f]
    refine hk _ K E (fun Γ l d kr kx hk2 => c_when (hVS.t (hX.t (Or.inl rfl))) (fun c => absurd hin c) (fun _ m m1 m2 m3 m4 L hL => ?_) (fun _ m4 L hL => ?_))
    · rw [it_as hS, gN hS (Or.inl rfl) hX] at m3
      exact absurd m3 (a3 m m1 m2)
    · exact hk2 L (hG0.fm (Or.inl rfl) hX (Fr_mp hL).1) (Fr_mp hL).2
