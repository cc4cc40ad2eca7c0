/-! public methods, 9: what changes -/

theorem g_grade {q z : Nat} {J : Iv} {E : Ev} {v x : Int32} (h : GS q z J E) : StX mH_grade mM_grade [.int v, .int x] 1 2 q z J E := by
  have hG0 := h
  obtain ⟨S, PS, t, op, bk, kb, n, n0, p, c, mk, tp, im, nim, rw', r1, r2, r3, r4, r5, r6, r7, r8, r9⟩ := h
  have hS := r1.1.1.2.2.2.1
  have s9 := hS.1
  have hVS := r1.1.2.2.1
  have hq32 := r4.1.1
  obtain ⟨g3, hT, hXt, -⟩ := id r1.1.1
  have tT : tyc shN E t = 10 := (hT.A (b := true) (E := E)).1
  have v7 := hXt.1
  have h40 := hVS.1
  have hD := r3.1.2.1
  have ty71 : tyc shN E 71 = 3 := dyA_71.1
  obtain ⟨-, ⟨y0, y1, y2, y3, y4, y5, y6⟩, ⟨b1, b2, b3, b4, b5, b6, b7⟩, l1, l2, l3, l4, l5, l6, l7⟩ := (dyA_71 (b := true) (E := E))
  have hm0 := (r4.1.2.1 0 (by have := r4.2.1; omega)).2.2
  obtain ⟨-, n9, a37, b37, a38, b38⟩ := id r3
  have en : J 71 9 = nI n := hD.2.1
  by_cases hv : ∃ w, w < S.1.1 ∧ v = nI w
  rotate_left
  · refine ⟨(1, 6), q, z, Cst.x, hq32, fun Γ l d kr kx hG _ hxN hxI => ?_⟩
    refine ex_of (ls0 := [some (.ref 0), some (.int v), some (.int x), none]) tH_grade (by decide +kernel) kH_grade rfl (Nat.le_of_ble_eq_true rfl) rfl ?_
    intro go hgo
    refine hgo 20 [] 0 _ _ _ _ _ ?_
    simp only [ixr_of, run_s, run_0, rH_grade, rok_i, rok_z, bx_cons, bx_nil, eC0, eC3, eCV1, eCV3, eGR, eIALD, eIAST, eLA0, eLI1, eLI2, eLI3, eRI, eSI3, fH_grade_0, bH_grade_0, ln_ximages, ln_xthought, rg_xmain_0, rg_xmain_1, rg_xmain_10, rg_xmain_2, rg_xmain_3, rg_xmain_4, rg_xmain_5, rg_xmain_6, rg_xmain_7, ty_xaqueduct, ty_xdiary, ty_xforesight, ty_ximages, ty_xmain, ty_xnow, ty_xopinionReader, ty_xtape, ty_xtasters, ty_xthought, Option.toList_some, Option.toList_none, List.cons_append, List.nil_append, List.length_cons, List.length_nil, List.mem_cons, List.not_mem_nil, or_false, false_or, or_true, true_or, ↓reduceIte, true_and, and_true, Nat.reduceEqDiff, Nat.reduceAdd, Nat.reduceLeDiff, Nat.reduceLT, dl_i, dl_r, dl_n, dl_u, eq_self, not_true_eq_false, not_false_eq_true, n10, n01, nm0, n0m, imp_t, imp_f]
    refine ⟨1, 6, fun _ => Nat.le_refl _, fun _ => Nat.le_refl _, x_needVillageX hG.1.1 hG.2.1 hG.2.2 g3 tT v7 (vin_n s9 hv) (hxN _ _ (fun Γ l d kr kx hk => ?_))⟩
    exact c_grade (by rw [up_n (by omega)]; exact h40) s9 (fun _ => hk _ (hG0.rf (rn := 0) (w := 1) (by decide)).1.un (hG0.rf (rn := 0) (w := 1) (by decide)).2) (fun c _ => absurd c (vim_n (by rw [up_n (by omega)]; exact h40) s9 hv)) (fun w k a e _ _ => absurd ⟨w, a, e⟩ hv)
  obtain ⟨w, hw, rfl⟩ := hv
  by_cases hin : nI 0 ≤ x ∧ x ≤ nI 3
  rotate_left
  · refine ⟨(1, 6), q, z, Cst.x, hq32, fun Γ l d kr kx hG _ hxN hxI => ?_⟩
    refine ex_of (ls0 := [some (.ref 0), some (.int (nI w)), some (.int x), none]) tH_grade (by decide +kernel) kH_grade rfl (Nat.le_of_ble_eq_true rfl) rfl ?_
    intro go hgo
    refine hgo 20 [] 0 _ _ _ _ _ ?_
    simp only [ixr_of, run_s, run_0, rH_grade, rok_i, rok_z, bx_cons, bx_nil, eC0, eC3, eCV1, eCV3, eGR, eIALD, eIAST, eLA0, eLI1, eLI2, eLI3, eRI, eSI3, fH_grade_0, bH_grade_0, ln_ximages, ln_xthought, rg_xmain_0, rg_xmain_1, rg_xmain_10, rg_xmain_2, rg_xmain_3, rg_xmain_4, rg_xmain_5, rg_xmain_6, rg_xmain_7, ty_xaqueduct, ty_xdiary, ty_xforesight, ty_ximages, ty_xmain, ty_xnow, ty_xopinionReader, ty_xtape, ty_xtasters, ty_xthought, Option.toList_some, Option.toList_none, List.cons_append, List.nil_append, List.length_cons, List.length_nil, List.mem_cons, List.not_mem_nil, or_false, false_or, or_true, true_or, ↓reduceIte, true_and, and_true, Nat.reduceEqDiff, Nat.reduceAdd, Nat.reduceLeDiff, Nat.reduceLT, dl_i, dl_r, dl_n, dl_u, eq_self, not_true_eq_false, not_false_eq_true, n10, n01, nm0, n0m, imp_t, imp_f]
    refine call0 (x_needVillage g3 tT v7 (vin rfl ⟨hw, s9⟩) ?_)
    simp only [ixr_of, run_s, run_0, rH_grade, rok_i, rok_z, bx_cons, bx_nil, eC0, eC3, eCV1, eCV3, eGR, eIALD, eIAST, eLA0, eLI1, eLI2, eLI3, eRI, eSI3, fH_grade_0, bH_grade_0, ln_ximages, ln_xthought, rg_xmain_0, rg_xmain_1, rg_xmain_10, rg_xmain_2, rg_xmain_3, rg_xmain_4, rg_xmain_5, rg_xmain_6, rg_xmain_7, ty_xaqueduct, ty_xdiary, ty_xforesight, ty_ximages, ty_xmain, ty_xnow, ty_xopinionReader, ty_xtape, ty_xtasters, ty_xthought, Option.toList_some, Option.toList_none, List.cons_append, List.nil_append, List.length_cons, List.length_nil, List.mem_cons, List.not_mem_nil, or_false, false_or, or_true, true_or, ↓reduceIte, true_and, and_true, Nat.reduceEqDiff, Nat.reduceAdd, Nat.reduceLeDiff, Nat.reduceLT, dl_i, dl_r, dl_n, dl_u, eq_self, not_true_eq_false, not_false_eq_true, n10, n01, nm0, n0m, imp_t, imp_f]
    refine ⟨1, 6, fun _ => Nat.le_refl _, fun _ => Nat.le_refl _, x_needInX hG.1.1 hG.2.1 hG.2.2 hin (hxI _ _ (fun Γ l d kr kx hk => ?_))⟩
    exact c_grade (by rw [up_n (by omega)]; exact h40) s9 (fun c => absurd (vim (by rw [up_n (by omega)]; exact h40) s9 hw rfl) c) (fun _ _ => hk _ (hG0.rf (rn := 1) (w := 2) (by decide)).1.un (hG0.rf (rn := 1) (w := 2) (by decide)).2) (fun w k a e b f => absurd (by rw [f]; exact rgI (by omega) (by omega) (by decide)) hin)
  obtain ⟨k0, hk3, rfl⟩ := rng (by decide) hin
  have i9 : w < 9 := by omega
  have ey : J 77 w = J 500123 w := (r3.1.2.2.2.2.1 w i9).1
  refine ⟨(0, 0), q, z, Cst.no, hq32, fun Γ l d kr kx hG hk _ _ => ?_⟩
  refine ex_of (ls0 := [some (.ref 0), some (.int (nI w)), some (.int (nI k0)), none]) tH_grade (by decide +kernel) kH_grade rfl (Nat.le_of_ble_eq_true rfl) rfl ?_
  intro go hgo
  refine hgo 20 [] 0 _ _ _ _ _ ?_
  simp only [ixr_of, run_s, run_0, rH_grade, rok_i, rok_z, bx_cons, bx_nil, eC0, eC3, eCV1, eCV3, eGR, eIALD, eIAST, eLA0, eLI1, eLI2, eLI3, eRI, eSI3, fH_grade_0, bH_grade_0, ln_ximages, ln_xthought, rg_xmain_0, rg_xmain_1, rg_xmain_10, rg_xmain_2, rg_xmain_3, rg_xmain_4, rg_xmain_5, rg_xmain_6, rg_xmain_7, ty_xaqueduct, ty_xdiary, ty_xforesight, ty_ximages, ty_xmain, ty_xnow, ty_xopinionReader, ty_xtape, ty_xtasters, ty_xthought, Option.toList_some, Option.toList_none, List.cons_append, List.nil_append, List.length_cons, List.length_nil, List.mem_cons, List.not_mem_nil, or_false, false_or, or_true, true_or, ↓reduceIte, true_and, and_true, Nat.reduceEqDiff, Nat.reduceAdd, Nat.reduceLeDiff, Nat.reduceLT, dl_i, dl_r, dl_n, dl_u, eq_self, not_true_eq_false, not_false_eq_true, n10, n01, nm0, n0m, ty71, y5, b6, l6, i9, ey, imp_t, imp_f]
  refine call0 (x_needVillage g3 tT v7 (vin rfl ⟨hw, s9⟩) ?_)
  simp only [ixr_of, run_s, run_0, rH_grade, rok_i, rok_z, bx_cons, bx_nil, eC0, eC3, eCV1, eCV3, eGR, eIALD, eIAST, eLA0, eLI1, eLI2, eLI3, eRI, eSI3, fH_grade_0, bH_grade_0, ln_ximages, ln_xthought, rg_xmain_0, rg_xmain_1, rg_xmain_10, rg_xmain_2, rg_xmain_3, rg_xmain_4, rg_xmain_5, rg_xmain_6, rg_xmain_7, ty_xaqueduct, ty_xdiary, ty_xforesight, ty_ximages, ty_xmain, ty_xnow, ty_xopinionReader, ty_xtape, ty_xtasters, ty_xthought, Option.toList_some, Option.toList_none, List.cons_append, List.nil_append, List.length_cons, List.length_nil, List.mem_cons, List.not_mem_nil, or_false, false_or, or_true, true_or, ↓reduceIte, true_and, and_true, Nat.reduceEqDiff, Nat.reduceAdd, Nat.reduceLeDiff, Nat.reduceLT, dl_i, dl_r, dl_n, dl_u, eq_self, not_true_eq_false, not_false_eq_true, n10, n01, nm0, n0m, imp_t, imp_f]
  refine call0 (x_needIn hin ?_)
  simp only [ixr_of, run_s, run_0, rH_grade, rok_i, rok_z, bx_cons, bx_nil, eC0, eC3, eCV1, eCV3, eGR, eIALD, eIAST, eLA0, eLI1, eLI2, eLI3, eRI, eSI3, fH_grade_0, bH_grade_0, ln_ximages, ln_xthought, rg_xmain_0, rg_xmain_1, rg_xmain_10, rg_xmain_2, rg_xmain_3, rg_xmain_4, rg_xmain_5, rg_xmain_6, rg_xmain_7, ty_xaqueduct, ty_xdiary, ty_xforesight, ty_ximages, ty_xmain, ty_xnow, ty_xopinionReader, ty_xtape, ty_xtasters, ty_xthought, Option.toList_some, Option.toList_none, List.cons_append, List.nil_append, List.length_cons, List.length_nil, List.mem_cons, List.not_mem_nil, or_false, false_or, or_true, true_or, ↓reduceIte, true_and, and_true, Nat.reduceEqDiff, Nat.reduceAdd, Nat.reduceLeDiff, Nat.reduceLT, dl_i, dl_r, dl_n, dl_u, eq_self, not_true_eq_false, not_false_eq_true, n10, n01, nm0, n0m, imp_t, imp_f]
  simp only [ixr_of, run_s, run_0, rH_grade, rok_i, rok_z, bx_cons, bx_nil, eC0, eC3, eCV1, eCV3, eGR, eIALD, eIAST, eLA0, eLI1, eLI2, eLI3, eRI, eSI3, fH_grade_0, bH_grade_0, ln_ximages, ln_xthought, rg_xmain_0, rg_xmain_1, rg_xmain_10, rg_xmain_2, rg_xmain_3, rg_xmain_4, rg_xmain_5, rg_xmain_6, rg_xmain_7, ty_xaqueduct, ty_xdiary, ty_xforesight, ty_ximages, ty_xmain, ty_xnow, ty_xopinionReader, ty_xtape, ty_xtasters, ty_xthought, Option.toList_some, Option.toList_none, List.cons_append, List.nil_append, List.length_cons, List.length_nil, List.mem_cons, List.not_mem_nil, or_false, false_or, or_true, true_or, ↓reduceIte, true_and, and_true, Nat.reduceEqDiff, Nat.reduceAdd, Nat.reduceLeDiff, Nat.reduceLT, dl_i, dl_r, dl_n, dl_u, eq_self, not_true_eq_false, not_false_eq_true, n10, n01, nm0, n0m, ty71, y5, b6, l6, i9, ey, imp_t, imp_f]
  have nq : NQ (up J 77 w (nI k0)) 71 S n (J 500124) (J 500000 37) (J 500000 38) (ru (J 500123) w (nI k0)) := r3.1.2.ugr s9 hk3
  have kf : ∀ i, i ≠ 77 → up J 77 w (nI k0) i = J i := fun i hi => by funext j; exact up_n (by omega)
  refine call0 (x_dibegin r4.1 (by rw [up_n (by omega)]; exact en) n9 r9.2.1 (fun e => absurd e (by have := r4.2.1; omega)) (fun _ K hK => ?_) (fun e => absurd e (by have := r4.2.1; omega)))
  simp only [ixr_of, run_s, run_0, rH_grade, rok_i, rok_z, bx_cons, bx_nil, eC0, eC3, eCV1, eCV3, eGR, eIALD, eIAST, eLA0, eLI1, eLI2, eLI3, eRI, eSI3, fH_grade_0, bH_grade_0, ln_ximages, ln_xthought, rg_xmain_0, rg_xmain_1, rg_xmain_10, rg_xmain_2, rg_xmain_3, rg_xmain_4, rg_xmain_5, rg_xmain_6, rg_xmain_7, ty_xaqueduct, ty_xdiary, ty_xforesight, ty_ximages, ty_xmain, ty_xnow, ty_xopinionReader, ty_xtape, ty_xtasters, ty_xthought, Option.toList_some, Option.toList_none, List.cons_append, List.nil_append, List.length_cons, List.length_nil, List.mem_cons, List.not_mem_nil, or_false, false_or, or_true, true_or, ↓reduceIte, true_and, and_true, Nat.reduceEqDiff, Nat.reduceAdd, Nat.reduceLeDiff, Nat.reduceLT, dl_i, dl_r, dl_n, dl_u, eq_self, not_true_eq_false, not_false_eq_true, n10, n01, nm0, n0m, imp_t, imp_f]
  have kk : ∀ i, i ≠ 77 → i ≠ 79 → i < 1000000 → K i = J i := fun i a c e => by
    rw [hK.1 i (by omega), ← kf i a]
    funext j
    exact up_n (by omega)
  have k40 : K 500004 0 = nI S.1.1 := by rw [kk 500004 (by omega) (by omega) (by omega)]; exact h40
  refine hk _ K E (fun Γ l d kr kx hk2 => c_grade k40 s9 (fun c => absurd (vim k40 s9 hw rfl) c) (fun _ c => absurd hin c) (fun w' k' a1 a2 a3 a4 => ?_))
  rw [nI_eq (by omega) (by omega)] at a2 a4
  subst a2; subst a4
  rw [kk 500123 (by omega) (by omega) (by omega)]
  obtain ⟨L, hL⟩ : ∃ L, L = up (sr (up (up K 500000 0 (nI 0)) 500123 w (nI k0)) 500125 (K 500124)) 500000 39 (nI 0) := ⟨_, rfl⟩
  rw [← hL]
  have lo : ∀ i, i ≠ 500000 → i ≠ 500125 → i ≠ 500123 → L i = K i := fun i a c e => by
    rw [hL]
    funext j
    rw [up_n (by omega), sr_n (by omega), up_n (by omega), up_n (by omega)]
  have lf : ∀ j, j ≠ 0 → j ≠ 39 → L 500000 j = J 500000 j := fun j a e => by
    rw [hL, up_n (by omega), sr_n (by omega), up_n (by omega), up_n (by omega), kk 500000 (by omega) (by omega) (by omega)]
  have e24 : L 500124 = J 500124 := by rw [lo 500124 (by omega) (by omega) (by omega), kk 500124 (by omega) (by omega) (by omega)]
  have e23 : L 500123 = ru (J 500123) w (nI k0) := by
    rw [hL]
    funext j
    rw [up_n (by omega), sr_n (by omega)]
    unfold ru
    by_cases e : j = w
    · rw [e, up_s, if_pos rfl]
    · rw [up_n (by omega), up_n (by omega), if_neg e, kk 500123 (by omega) (by omega) (by omega)]
  refine hk2 L (GS.m1 (p' := p) (c' := c) r1 r2 r4 r5 r6 r7 r8 r9 (fun i _ a _ => kf i (by omega)) hK (fun i a => lo i (by omega) (by omega) (by omega)) (fun i a1 a2 a3 a4 a5 a6 => lo i (by omega) (by omega) (by omega)) (fun j a c => by rw [lf j (by unfold scF at a; omega) (by omega), kk 500000 (by omega) (by omega) (by omega)]) (Nat.le_refl im) (by rw [kf 0 (by omega)]; exact r5.1) (by rw [lf 40 (by omega) (by omega)]; exact r5.2.2.1) ⟨by rw [kf 0 (by omega)], by rw [kf 0 (by omega)]⟩ ?_ n9 ⟨by rw [lf 37 (by omega) (by omega)]; exact a37, b37⟩ ⟨by rw [lf 38 (by omega) (by omega)]; exact a38, b38⟩ (by rw [hL, up_s]) ?_) ?_
  · rw [e24, e23, lf 37 (by omega) (by omega), lf 38 (by omega) (by omega)]
    exact nq
  · rw [e24, hL]
    funext j
    rw [up_n (by omega), sr_s, kk 500124 (by omega) (by omega) (by omega)]
  · rw [hL, up_n (by omega), sr_n (by omega), up_n (by omega), up_s]

theorem Ms.sr {J K : Iv} {r : Nat → Int32} (h : Ms J K) : Ms (sr J 500123 r) (sr K 500123 r) := fun i a b => by
  by_cases e : i = 500123
  · rw [e, sr_s, sr_s]
  · rw [sr_n e, sr_n e, h i a b]
theorem wvF_ms {S : Tn} {J K : Iv} {m : Nat} {c : Int32} {G : Nat → Int32} (h : Ms J K) (hS : TnV S) : ∀ v, wvF K S.1.1 S.1.2 m c G v = wvF J S.1.1 S.1.2 m c G v
  | 0 => rfl
  | v + 1 => by
    unfold wvF
    rw [wvF_ms h hS v, wsN_ms h.sr hS]
theorem grT_ms {S : Tn} {J K : Iv} {m : Nat} {c : Int32} (h : Ms J K) (hS : TnV S) : ∀ k, grT K S.1.1 S.1.2 m c k = grT J S.1.1 S.1.2 m c k
  | 0 => h 500123 (by omega) (by omega)
  | k + 1 => by
    unfold grT
    rw [grT_ms h hS k, wvF_ms h hS]
theorem RsP.ms {S : Tn} {J K : Iv} {m a : Nat} {c : Int32} {G : Nat → Int32} (hm : Ms J K) (hS : TnV S) (h : RsP K S.1.1 S.1.2 m c a G) : RsP J S.1.1 S.1.2 m c a G := by
  have e : grT K S.1.1 S.1.2 m c = grT J S.1.1 S.1.2 m c := by funext k; exact grT_ms hm hS k
  unfold RsP nRp at h ⊢
  rw [e] at h
  exact h

theorem g_rest {q z : Nat} {J : Iv} {E : Ev} {x y : Int32} (h : GS q z J E) : StX1 mH_rest mM_rest [.int x, .int y] 1 q z J E := by
  have hG0 := h
  obtain ⟨S, PS, t, op, bk, kb, n, n0, p, c, mk, tp, im, nim, rw', r1, r2, r3, r4, r5, r6, r7, r8, r9⟩ := h
  have hS := r1.1.1.2.2.2.1
  have s9 := hS.1
  have hVS := r1.1.2.2.1
  have hq32 := r4.1.1
  obtain ⟨g3, hT, hXt, -⟩ := id r1.1.1
  have tT : tyc shN E t = 10 := (hT.A (b := true) (E := E)).1
  have v7 := hXt.1
  have h40 := hVS.1
  have hD := r3.1.2.1
  have ty71 : tyc shN E 71 = 3 := dyA_71.1
  obtain ⟨-, ⟨y0, y1, y2, y3, y4, y5, y6⟩, ⟨b1, b2, b3, b4, b5, b6, b7⟩, l1, l2, l3, l4, l5, l6, l7⟩ := (dyA_71 (b := true) (E := E))
  have hm0 := (r4.1.2.1 0 (by have := r4.2.1; omega)).2.2
  obtain ⟨-, n9, a37, b37, a38, b38⟩ := id r3
  have en : J 71 9 = nI n := hD.2.1
  by_cases hg : (nI 1 ≤ x ∧ x ≤ nI 30) ∧ (nI 0 ≤ y ∧ y ≤ nI 99)
  rotate_left
  · refine ⟨(1, 6), q, z, Cst.x, hq32, fun Γ l d kr kx hG _ hxI => ?_⟩
    refine ex_of (ls0 := [some (.ref 0), some (.int x), some (.int y), none]) tH_rest (by decide +kernel) kH_rest rfl (Nat.le_of_ble_eq_true rfl) rfl ?_
    intro go hgo
    refine hgo 20 [] 0 _ _ _ _ _ ?_
    simp only [ixr_of, run_s, run_0, rH_rest, rok_i, rok_z, bx_cons, bx_nil, eCV1, eCV2, eCV3, eGR, eLA0, eLI1, eLI2, eLI3, eRI, eSI3, fH_rest_0, bH_rest_0, ln_ximages, ln_xthought, rg_xmain_0, rg_xmain_1, rg_xmain_10, rg_xmain_2, rg_xmain_3, rg_xmain_4, rg_xmain_5, rg_xmain_6, rg_xmain_7, ty_xaqueduct, ty_xdiary, ty_xforesight, ty_ximages, ty_xmain, ty_xnow, ty_xopinionReader, ty_xtape, ty_xtasters, ty_xthought, Option.toList_some, Option.toList_none, List.cons_append, List.nil_append, List.length_cons, List.length_nil, List.mem_cons, List.not_mem_nil, or_false, false_or, or_true, true_or, ↓reduceIte, true_and, and_true, Nat.reduceEqDiff, Nat.reduceAdd, Nat.reduceLeDiff, Nat.reduceLT, dl_i, dl_r, dl_n, dl_u, eq_self, not_true_eq_false, not_false_eq_true, n10, n01, nm0, n0m, imp_t, imp_f]
    refine ⟨1, 6, fun _ => Nat.le_refl _, fun _ => Nat.le_refl _, x_needGameX hG hg (hxI _ _ (fun Γ l d kr kx hk => ?_))⟩
    exact c_rest (hVS.t say0) (fun _ => hk _ (hG0.rf (rn := 1) (w := 1) (by decide)).1.un (hG0.rf (rn := 1) (w := 1) (by decide)).2) (fun k c a1 a2 a3 a4 a5 => absurd ⟨by rw [a3]; exact rgI (by omega) (by omega) (by decide), by rw [a5]; exact rgI (by omega) (by omega) (by decide)⟩ hg) (fun k c a1 a2 a3 a4 a5 => absurd ⟨by rw [a3]; exact rgI (by omega) (by omega) (by decide), by rw [a5]; exact rgI (by omega) (by omega) (by decide)⟩ hg) (fun k c a1 a2 a3 a4 a5 => absurd ⟨by rw [a3]; exact rgI (by omega) (by omega) (by decide), by rw [a5]; exact rgI (by omega) (by omega) (by decide)⟩ hg)
  obtain ⟨k0, hk1, hk3, rfl⟩ := rng1 (by decide) hg.1
  obtain ⟨c0, hc9, rfl⟩ := rng (by decide) hg.2
  refine ⟨(0, 0), q, z, Cst.no, hq32, fun Γ l d kr kx hG hk _ => ?_⟩
  refine ex_of (ls0 := [some (.ref 0), some (.int (nI k0)), some (.int (nI c0)), none]) tH_rest (by decide +kernel) kH_rest rfl (Nat.le_of_ble_eq_true rfl) rfl ?_
  intro go hgo
  refine hgo 20 [] 0 _ _ _ _ _ ?_
  simp only [ixr_of, run_s, run_0, rH_rest, rok_i, rok_z, bx_cons, bx_nil, eCV1, eCV2, eCV3, eGR, eLA0, eLI1, eLI2, eLI3, eRI, eSI3, fH_rest_0, bH_rest_0, ln_ximages, ln_xthought, rg_xmain_0, rg_xmain_1, rg_xmain_10, rg_xmain_2, rg_xmain_3, rg_xmain_4, rg_xmain_5, rg_xmain_6, rg_xmain_7, ty_xaqueduct, ty_xdiary, ty_xforesight, ty_ximages, ty_xmain, ty_xnow, ty_xopinionReader, ty_xtape, ty_xtasters, ty_xthought, Option.toList_some, Option.toList_none, List.cons_append, List.nil_append, List.length_cons, List.length_nil, List.mem_cons, List.not_mem_nil, or_false, false_or, or_true, true_or, ↓reduceIte, true_and, and_true, Nat.reduceEqDiff, Nat.reduceAdd, Nat.reduceLeDiff, Nat.reduceLT, dl_i, dl_r, dl_n, dl_u, eq_self, not_true_eq_false, not_false_eq_true, n10, n01, nm0, n0m, imp_t, imp_f]
  refine call0 (x_needGame hg.1 hg.2 ?_)
  simp only [ixr_of, run_s, run_0, rH_rest, rok_i, rok_z, bx_cons, bx_nil, eCV1, eCV2, eCV3, eGR, eLA0, eLI1, eLI2, eLI3, eRI, eSI3, fH_rest_0, bH_rest_0, ln_ximages, ln_xthought, rg_xmain_0, rg_xmain_1, rg_xmain_10, rg_xmain_2, rg_xmain_3, rg_xmain_4, rg_xmain_5, rg_xmain_6, rg_xmain_7, ty_xaqueduct, ty_xdiary, ty_xforesight, ty_ximages, ty_xmain, ty_xnow, ty_xopinionReader, ty_xtape, ty_xtasters, ty_xthought, Option.toList_some, Option.toList_none, List.cons_append, List.nil_append, List.length_cons, List.length_nil, List.mem_cons, List.not_mem_nil, or_false, false_or, or_true, true_or, ↓reduceIte, true_and, and_true, Nat.reduceEqDiff, Nat.reduceAdd, Nat.reduceLeDiff, Nat.reduceLT, dl_i, dl_r, dl_n, dl_u, eq_self, not_true_eq_false, not_false_eq_true, n10, n01, nm0, n0m, imp_t, imp_f]
  refine call0 (x_settle hG.1 r1.1 r3.1 (by omega) hk3 hc9 (fun a G K1 hR hX hN => ?_))
  simp only [ixr_of, run_s, run_0, rH_rest, rok_i, rok_z, bx_cons, bx_nil, eCV1, eCV2, eCV3, eGR, eLA0, eLI1, eLI2, eLI3, eRI, eSI3, fH_rest_0, bH_rest_0, ln_ximages, ln_xthought, rg_xmain_0, rg_xmain_1, rg_xmain_10, rg_xmain_2, rg_xmain_3, rg_xmain_4, rg_xmain_5, rg_xmain_6, rg_xmain_7, ty_xaqueduct, ty_xdiary, ty_xforesight, ty_ximages, ty_xmain, ty_xnow, ty_xopinionReader, ty_xtape, ty_xtasters, ty_xthought, Option.toList_some, Option.toList_none, List.cons_append, List.nil_append, List.length_cons, List.length_nil, List.mem_cons, List.not_mem_nil, or_false, false_or, or_true, true_or, ↓reduceIte, true_and, and_true, Nat.reduceEqDiff, Nat.reduceAdd, Nat.reduceLeDiff, Nat.reduceLT, dl_i, dl_r, dl_n, dl_u, eq_self, not_true_eq_false, not_false_eq_true, n10, n01, nm0, n0m, imp_t, imp_f]
  have nq : NQ K1 71 S n (J 500124) (J 500000 37) (J 500000 38) G := by
    have := hN.2
    rw [sr_n (by omega), sr_n (by omega), sr_s] at this
    exact this
  refine call0 (x_dibegin r4.1 nq.1.2.1 n9 r9.2.1 (fun e => absurd e (by have := r4.2.1; omega)) (fun _ K hK => ?_) (fun e => absurd e (by have := r4.2.1; omega)))
  simp only [ixr_of, run_s, run_0, rH_rest, rok_i, rok_z, bx_cons, bx_nil, eCV1, eCV2, eCV3, eGR, eLA0, eLI1, eLI2, eLI3, eRI, eSI3, fH_rest_0, bH_rest_0, ln_ximages, ln_xthought, rg_xmain_0, rg_xmain_1, rg_xmain_10, rg_xmain_2, rg_xmain_3, rg_xmain_4, rg_xmain_5, rg_xmain_6, rg_xmain_7, ty_xaqueduct, ty_xdiary, ty_xforesight, ty_ximages, ty_xmain, ty_xnow, ty_xopinionReader, ty_xtape, ty_xtasters, ty_xthought, Option.toList_some, Option.toList_none, List.cons_append, List.nil_append, List.length_cons, List.length_nil, List.mem_cons, List.not_mem_nil, or_false, false_or, or_true, true_or, ↓reduceIte, true_and, and_true, Nat.reduceEqDiff, Nat.reduceAdd, Nat.reduceLeDiff, Nat.reduceLT, dl_i, dl_r, dl_n, dl_u, eq_self, not_true_eq_false, not_false_eq_true, n10, n01, nm0, n0m, imp_t, imp_f]
  have kk : ∀ i, 500000 ≤ i → i < 1000000 → K i = J i := fun i a e => by
    rw [hK.1 i (by omega), ← hX i (by omega) (by omega) (by omega) (idV_n (by omega))]
    funext j
    exact up_n (by omega)
  have hm : Ms J K := kk
  have key : ∀ L G', RsP K S.1.1 S.1.2 k0 (nI c0) a G' → rsJ K G' L → GS q z L E ∧ L 500000 0 = nI 0 := by
    intro L G' hR' hL
    have eG := (hR.un (hR'.ms hm hS)).2
    subst eG
    obtain ⟨K', hM, hz, hL⟩ := hL
    have lo : ∀ i, i ≠ 500000 → i ≠ 500125 → i ≠ 500123 → ¬ scA i → L i = K i := fun i a c e f => by
      rw [hL]
      funext j
      rw [up_n (by omega), sr_n (by omega), hM.1 i a f, sr_n e]
    have lf : ∀ j, j ≠ 39 → ¬ scF j → L 500000 j = J 500000 j := fun j a e => by
      rw [hL, up_n (by omega), sr_n (by omega), hM.2 j e, sr_n (by omega), kk 500000 (by omega) (by omega)]
    have e24 : L 500124 = J 500124 := by rw [lo 500124 (by omega) (by omega) (by omega) (by unfold scA; omega), kk 500124 (by omega) (by omega)]
    have e23 : L 500123 = G := by
      rw [hL]
      funext j
      rw [up_n (by omega), sr_n (by omega), hM.1 500123 (by omega) (by unfold scA; omega), sr_s]
    have x0 : K1 0 = J 0 := hX 0 (by omega) (by omega) (by omega) (idV_n (by omega))
    refine ⟨GS.m1 (p' := p) (c' := c) r1 r2 r4 r5 r6 r7 r8 r9 (fun i a c e => hX i (fun z => a (Or.inl z)) (fun z => a (by unfold sX; omega)) (by omega) (fun z => a (Or.inr (Or.inl z)))) hK (fun i a => lo i (by omega) (by omega) (by omega) (scA_n a)) (fun i a1 a2 a3 a4 a5 a6 => lo i (by omega) (by omega) (by omega) a6) (fun j a c => by rw [lf j (by omega) a, kk 500000 (by omega) (by omega)]) (Nat.le_refl im) (by rw [x0]; exact r5.1) (by rw [lf 40 (by omega) (by unfold scF; omega)]; exact r5.2.2.1) ⟨by rw [x0], by rw [x0]⟩ ?_ n9 ⟨by rw [lf 37 (by omega) (by unfold scF; omega)]; exact a37, b37⟩ ⟨by rw [lf 38 (by omega) (by unfold scF; omega)]; exact a38, b38⟩ (by rw [hL, up_s]) ?_, ?_⟩
    · rw [e24, e23, lf 37 (by omega) (by unfold scF; omega), lf 38 (by omega) (by unfold scF; omega)]
      exact nq
    · rw [e24, hL]
      funext j
      rw [up_n (by omega), sr_s, kk 500124 (by omega) (by omega)]
    · rw [hL, up_n (by omega), sr_n (by omega)]
      exact hz
  have ka : ∀ a' G', RsP K S.1.1 S.1.2 k0 (nI c0) a' G' → a' = a := fun a' G' hR' => (hR.un (hR'.ms hm hS)).1.symm
  refine hk _ K E (fun Γ l d kr kx hk2 => c_rest (hVS.t hm.t) (fun c => absurd hg c) (fun k' c' a1 a2 a3 a4 a5 tt b1 b2 b3 L hL => ?_) (fun k' c' a1 a2 a3 a4 a5 tt kk' b1 b2 b3 b4 b5 L hL => ?_) (fun k' c' a1 a2 a3 a4 a5 b2 L hL => ?_))
  · rw [nI_eq (by omega) (by omega)] at a3
    subst a3
    have hP : RsP K S.1.1 S.1.2 k0 (nI c0) 1 (grT K S.1.1 S.1.2 k0 (nI c0) (tt + 1)) := Or.inl ⟨tt, b1, b2, b3, rfl, rfl⟩
    have ea := (ka _ _ hP).symm
    subst ea
    exact hk2 L (key L _ hP hL).1 (key L _ hP hL).2
  · rw [nI_eq (by omega) (by omega)] at a3
    subst a3
    have hP : RsP K S.1.1 S.1.2 k0 (nI c0) 0 (grT K S.1.1 S.1.2 k0 (nI c0) (tt + 1)) := Or.inr (Or.inl ⟨tt, kk', b1, b2, b3, b4, b5, rfl, rfl⟩)
    have ea := (ka _ _ hP).symm
    subst ea
    exact hk2 L (key L _ hP hL).1 (key L _ hP hL).2
  · rw [nI_eq (by omega) (by omega)] at a3
    subst a3
    have hP : RsP K S.1.1 S.1.2 k0 (nI c0) 0 (grT K S.1.1 S.1.2 k0 (nI c0) 20) := Or.inr (Or.inr ⟨b2, rfl, rfl⟩)
    have ea := (ka _ _ hP).symm
    subst ea
    exact hk2 L (key L _ hP hL).1 (key L _ hP hL).2
