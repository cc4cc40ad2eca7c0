/-! public methods, 7 -/
theorem thF_c {J : Iv} {v hb : Nat} {kn : Nat → Int32} : ∀ m, thF J v hb kn m = smI (fun p => if J (500070 + v) (4 * p) = nI hb then pvl J kn v p else nI 0) m
  | 0 => rfl
  | m + 1 => by
    show thF J v hb kn m + _ = smI _ m + _
    rw [thF_c m]
section XRi
variable {Γ : Gm} {l : Launch} {b : Bool} {d : Nat} {J : Iv} {E : Ev} {kr : Kr} {kx : Kxx} {t : Nat} {S : Tn} {PS : Nat → List Pt} {op : Nat → Nat}
theorem x_thinkOf {v : Nat} {dy pu : Int32} {kn : Nat → Int32} (hG : GX Γ) (hA : TwR b J E S PS t op) (hv : v < S.1.1) (k0 : J 19 3 = kn 0) (k1 : J 19 0 = kn 1) (k2 : J 19 1 = kn 2) (k3 : J 19 2 = kn 3) (k4 : dy = kn 4) (k5 : pu = kn 5) (k6 : nI (vz S v 1) = kn 6)
    (hk : ∀ K, (∀ i, i ≠ 19 → i ≠ op v + 2 → i ≠ 82 → K i = J i) → (∀ h, h < 3 → K 82 h = cuA (pkS S kn v) (PS v) (fun _ => nI 0) h) → kr none K E) : Ex Γ l (shB b) (d + 4) (0, 0) mAq_thinkOf [.ref 3, .int (nI v), .int dy, .int pu, .ref 82] J E kr kx := by
  refine ex_of (ls0 := [some (.ref 3), some (.int (nI v)), some (.int dy), some (.int pu), some (.ref 82)]) tAq_thinkOf (by decide +kernel) kAq_thinkOf rfl (Nat.le_of_ble_eq_true rfl) rfl ?_
  intro go hgo
  obtain ⟨hA1, hM, hVS, hMO⟩ := id hA
  obtain ⟨g3, hT, hXt, hS, hop, hid, -, ho⟩ := id hA1
  have s9 := hS.1
  have i9 : v < 9 := by omega
  have tT : tyc (shB b) E t = 10 := (hT.A (b := b) (E := E)).1
  have hTA := hT.A (b := b) (E := E)
  obtain ⟨p4, p4t, p4l⟩ := hTA.2 4 (by decide)
  have p4l' : len (shB b) E (t + 1 + 4) = 9 := p4l
  have rO := hop v i9
  have hO := (hid v (by omega)).A (b := b) (E := E)
  have tO := hO.1
  have hov := hid v (by omega)
  have hfrog : vz S v 4 ≤ 1 := by unfold vz; rw [if_pos hv]; exact (hS.2.2.2.2.2.2.2 v hv).2.2.2.1
  obtain ⟨x1, -, -, x4, -⟩ := hXt.2.2.2.2.2.2.1 v i9
  refine hgo 20 [] 0 _ _ _ _ _ ?_
  simp only [ixr_of, run_s, run_0, rAq_thinkOf, rok_i, rok_z, bx_cons, bx_nil, eAALD106, eC0, eC1, eCV3, eGO, eGR, eIALD, jICne, eLA0, eLA4, eLI1, eLI2, eLI3, eRV, fAq_thinkOf_0, fAq_thinkOf_30, fAq_thinkOf_34, fAq_thinkOf_35, bAq_thinkOf_0, bAq_thinkOf_30, bAq_thinkOf_34, bAq_thinkOf_35, ln_xaqueduct_change, ln_xaqueduct_decided, ln_xaqueduct_fresh, ln_xaqueduct_sight, ln_xopinions, rg_xaqueduct_1, rg_xaqueduct_2, rg_xaqueduct_3, rg_xaqueduct_4, rg_xaqueduct_5, ty_xaqueduct, ty_xaqueduct_change, ty_xaqueduct_decided, ty_xaqueduct_fresh, ty_xaqueduct_sight, ty_xopinions, Option.toList_some, Option.toList_none, List.cons_append, List.nil_append, List.length_cons, List.length_nil, List.mem_cons, List.not_mem_nil, or_false, false_or, or_true, true_or, ↓reduceIte, true_and, and_true, Nat.reduceEqDiff, Nat.reduceAdd, Nat.reduceLeDiff, Nat.reduceLT, dl_i, dl_r, dl_n, dl_u, eq_self, not_true_eq_false, not_false_eq_true, n10, n01, nm0, n0m, imp_t, imp_f]
  refine call0 (x_lookAround hG g3 hTA (by unfold idT at hT; omega) i9 ?_)
  obtain ⟨L, hL⟩ : ∃ L, L = loA J dy pu (J (t + 2) v) := ⟨_, rfl⟩
  rw [← hL]
  have eo : ∀ i, i ≠ 19 → L i = J i := fun i hi => by
    rw [hL]
    funext k
    unfold loA
    rw [up_n (by omega), up_n (by omega), up_n (by omega)]
  have e19 : ∀ k, k < 4 → L 19 k = J 19 k := fun k hk => by
    rw [hL]
    unfold loA
    rw [up_n (by omega), up_n (by omega), up_n (by omega)]
  have e4 : L 19 4 = dy := by rw [hL]; unfold loA; rw [up_n (by omega), up_n (by omega), up_s]
  have e5 : L 19 5 = pu := by rw [hL]; unfold loA; rw [up_n (by omega), up_s]
  have e6 : L 19 6 = nI (vz S v 1) := by rw [hL]; unfold loA; rw [up_s]; exact x1
  have ef : L (t + 1 + 4) v = nI (vz S v 4) := by rw [eo _ (by unfold idT at hT; omega)]; exact x4
  have hbi : (if nI (vz S v 4) = nI 1 then nI 1 else nI 0) = (if (decide (vz S v 4 = 1)) = true then nI 1 else nI 0) := by
    by_cases c : vz S v 4 = 1
    · rw [if_pos (by rw [c]), if_pos (decide_eq_true c)]
    · rw [if_neg (fun z => c ((nI_eq (by omega) (by decide)).mp z)), if_neg (by simpa using c)]
  have hq : XOq L (op v) (PS v) := (ho v i9).1.mv (eo _ (by unfold idO at hov; omega)) (eo _ (by unfold idO at hov; omega))
  have ty19 : tyc (shB b) E 19 = 101 := ty_xaqueduct_sight
  have ln19 : len (shB b) E 19 = 7 := ln_xaqueduct_sight
  have ty82 : tyc (shB b) E 82 = 101 := ty_xthought
  have ln82 : len (shB b) E 82 = 3 := ln_xthought
  have main : ∀ kr' : Kr, (∀ K, (∀ i, i ≠ 19 → i ≠ op v + 2 → i ≠ 82 → K i = J i) → (∀ h, h < 3 → K 82 h = cuA (pkS S kn v) (PS v) (fun _ => nI 0) h) → kr' none K E) → Ex Γ l (shB b) (d + 3) (0, 0) mOp_think [.ref (op v), .ref 19, .int (if (decide (vz S v 4 = 1)) = true then nI 1 else nI 0), .ref 82] L E kr' kx := by
    intro kr' hk'
    refine x_think (kn := kn) (pv := pkS S kn v) hO ty19 ln19 ty82 ln82 (by unfold idO at hov; omega) (by unfold idO at hov; omega) hq (fun k hk' => ?_) (pkS_h hM hS hMO kn v hv) (ho v i9).2.1 (fun K h1 h2 => hk' K (fun i a c e => by rw [h1 i c e, eo i a]) h2)
    rcases (show k = 0 ∨ k = 1 ∨ k = 2 ∨ k = 3 ∨ k = 4 ∨ k = 5 ∨ k = 6 by omega) with rfl | rfl | rfl | rfl | rfl | rfl | rfl
    · exact (e19 3 (by decide)).trans k0
    · exact (e19 0 (by decide)).trans k1
    · exact (e19 1 (by decide)).trans k2
    · exact (e19 2 (by decide)).trans k3
    · exact e4.trans k4
    · exact e5.trans k5
    · exact e6.trans k6
  simp only [ixr_of, run_s, run_0, rAq_thinkOf, rok_i, rok_z, bx_cons, bx_nil, eAALD106, eC0, eC1, eCV3, eGO, eGR, eIALD, jICne, eLA0, eLA4, eLI1, eLI2, eLI3, eRV, fAq_thinkOf_0, fAq_thinkOf_30, fAq_thinkOf_34, fAq_thinkOf_35, bAq_thinkOf_0, bAq_thinkOf_30, bAq_thinkOf_34, bAq_thinkOf_35, ln_xaqueduct_change, ln_xaqueduct_decided, ln_xaqueduct_fresh, ln_xaqueduct_sight, ln_xopinions, rg_xaqueduct_1, rg_xaqueduct_2, rg_xaqueduct_3, rg_xaqueduct_4, rg_xaqueduct_5, ty_xaqueduct, ty_xaqueduct_change, ty_xaqueduct_decided, ty_xaqueduct_fresh, ty_xaqueduct_sight, ty_xopinions, Option.toList_some, Option.toList_none, List.cons_append, List.nil_append, List.length_cons, List.length_nil, List.mem_cons, List.not_mem_nil, or_false, false_or, or_true, true_or, ↓reduceIte, true_and, and_true, Nat.reduceEqDiff, Nat.reduceAdd, Nat.reduceLeDiff, Nat.reduceLT, dl_i, dl_r, dl_n, dl_u, eq_self, not_true_eq_false, not_false_eq_true, n10, n01, nm0, n0m, g3, tT, p4, p4t, p4l', i9, rO, tO, ef, imp_t, imp_f]
  by_cases c : vz S v 4 = 1
  · have cc : nI (vz S v 4) = nI 1 := by rw [c]
    rw [if_pos (decide_eq_true c)] at main
    refine ⟨fun zz => absurd cc zz, fun _ => ?_⟩
    refine call0 (main _ (fun K h1 h2 => ?_))
    simp only [ixr_of, run_s, run_0, rAq_thinkOf, rok_i, rok_z, bx_cons, bx_nil, eAALD106, eC0, eC1, eCV3, eGO, eGR, eIALD, jICne, eLA0, eLA4, eLI1, eLI2, eLI3, eRV, fAq_thinkOf_0, fAq_thinkOf_30, fAq_thinkOf_34, fAq_thinkOf_35, bAq_thinkOf_0, bAq_thinkOf_30, bAq_thinkOf_34, bAq_thinkOf_35, ln_xaqueduct_change, ln_xaqueduct_decided, ln_xaqueduct_fresh, ln_xaqueduct_sight, ln_xopinions, rg_xaqueduct_1, rg_xaqueduct_2, rg_xaqueduct_3, rg_xaqueduct_4, rg_xaqueduct_5, ty_xaqueduct, ty_xaqueduct_change, ty_xaqueduct_decided, ty_xaqueduct_fresh, ty_xaqueduct_sight, ty_xopinions, Option.toList_some, Option.toList_none, List.cons_append, List.nil_append, List.length_cons, List.length_nil, List.mem_cons, List.not_mem_nil, or_false, false_or, or_true, true_or, ↓reduceIte, true_and, and_true, Nat.reduceEqDiff, Nat.reduceAdd, Nat.reduceLeDiff, Nat.reduceLT, dl_i, dl_r, dl_n, dl_u, eq_self, not_true_eq_false, not_false_eq_true, n10, n01, nm0, n0m, imp_t, imp_f]
    exact hk K h1 h2
  · have cc : ¬ nI (vz S v 4) = nI 1 := fun z => c ((nI_eq (by omega) (by decide)).mp z)
    rw [if_neg (by simpa using c)] at main
    refine ⟨fun _ => ?_, fun zz => absurd zz cc⟩
    refine call0 (main _ (fun K h1 h2 => ?_))
    simp only [ixr_of, run_s, run_0, rAq_thinkOf, rok_i, rok_z, bx_cons, bx_nil, eAALD106, eC0, eC1, eCV3, eGO, eGR, eIALD, jICne, eLA0, eLA4, eLI1, eLI2, eLI3, eRV, fAq_thinkOf_0, fAq_thinkOf_30, fAq_thinkOf_34, fAq_thinkOf_35, bAq_thinkOf_0, bAq_thinkOf_30, bAq_thinkOf_34, bAq_thinkOf_35, ln_xaqueduct_change, ln_xaqueduct_decided, ln_xaqueduct_fresh, ln_xaqueduct_sight, ln_xopinions, rg_xaqueduct_1, rg_xaqueduct_2, rg_xaqueduct_3, rg_xaqueduct_4, rg_xaqueduct_5, ty_xaqueduct, ty_xaqueduct_change, ty_xaqueduct_decided, ty_xaqueduct_fresh, ty_xaqueduct_sight, ty_xopinions, Option.toList_some, Option.toList_none, List.cons_append, List.nil_append, List.length_cons, List.length_nil, List.mem_cons, List.not_mem_nil, or_false, false_or, or_true, true_or, ↓reduceIte, true_and, and_true, Nat.reduceEqDiff, Nat.reduceAdd, Nat.reduceLeDiff, Nat.reduceLT, dl_i, dl_r, dl_n, dl_u, eq_self, not_true_eq_false, not_false_eq_true, n10, n01, nm0, n0m, imp_t, imp_f]
    exact hk K h1 h2
end XRi

theorem g_thinks {q z : Nat} {J : Iv} {E : Ev} {v x wa mi ru0 sa dy : Int32} (h : GS q z J E) : StX mH_thinks mM_thinks [.int v, .int x, .int wa, .int mi, .int ru0, .int sa, .int dy] 1 2 q z J E := by
  have hG0 := h
  obtain ⟨S, PS, t, op, bk, kb, n, n0, p, c, mk, tp, im, nim, rw', r1, r2, r3, r4, r5, r6, r7, r8, r9⟩ := h
  have hS := r1.1.1.2.2.2.1
  have s9 := hS.1
  have hVS := r1.1.2.2.1
  have hq32 := r4.1.1
  obtain ⟨g3, hT, hXt, -⟩ := id r1.1.1
  have tT : tyc shN E t = 10 := (hT.A (b := true) (E := E)).1
  have v7 := hXt.1
  have h40 := hVS.1
  by_cases hv : ∃ w, w < S.1.1 ∧ v = nI w
  rotate_left
  · refine ⟨(1, 6), q, z, Cst.x, hq32, fun Γ l d kr kx hG _ hxN hxI => ?_⟩
    refine ex_of (ls0 := [some (.ref 0), some (.int v), some (.int x), some (.int wa), some (.int mi), some (.int ru0), some (.int sa), some (.int dy)]) tH_thinks (by decide +kernel) kH_thinks rfl (Nat.le_of_ble_eq_true rfl) rfl ?_
    intro go hgo
    refine hgo 20 [] 0 _ _ _ _ _ ?_
    simp only [ixr_of, run_s, run_0, rH_thinks, rok_i, rok_z, bx_cons, bx_nil, eC0, eC2, eCV1, eCV3, eCV4, eGR, eIALD, eLA0, eLI1, eLI2, eLI3, eLI4, eLI5, eLI6, eLI7, eRI, eSP, fH_thinks_0, bH_thinks_0, ln_ximages, ln_xthought, rg_xmain_0, rg_xmain_1, rg_xmain_10, rg_xmain_2, rg_xmain_3, rg_xmain_4, rg_xmain_5, rg_xmain_6, rg_xmain_7, ty_xaqueduct, ty_xdiary, ty_xforesight, ty_ximages, ty_xmain, ty_xnow, ty_xopinionReader, ty_xtape, ty_xtasters, ty_xthought, Option.toList_some, Option.toList_none, List.cons_append, List.nil_append, List.length_cons, List.length_nil, List.mem_cons, List.not_mem_nil, or_false, false_or, or_true, true_or, ↓reduceIte, true_and, and_true, Nat.reduceEqDiff, Nat.reduceAdd, Nat.reduceLeDiff, Nat.reduceLT, dl_i, dl_r, dl_n, dl_u, eq_self, not_true_eq_false, not_false_eq_true, n10, n01, nm0, n0m, imp_t, imp_f]
    refine ⟨1, 6, fun _ => Nat.le_refl _, fun _ => Nat.le_refl _, x_needVillageX hG.1.1 hG.2.1 hG.2.2 g3 tT v7 (vin_n s9 hv) (hxN _ _ (fun Γ l d kr kx hk => ?_))⟩
    exact c_thinks (hVS.t say0) (fun _ => hk _ (hG0.rf (rn := 0) (w := 1) (by decide)).1.un (hG0.rf (rn := 0) (w := 1) (by decide)).2) (fun c _ => absurd c (vim_n (by rw [up_n (by omega)]; exact h40) s9 hv)) (fun w _ _ a e _ _ _ _ _ => absurd ⟨w, a, e⟩ hv)
  obtain ⟨w, hw, rfl⟩ := hv
  by_cases c1 : nI 0 ≤ x ∧ x ≤ nI 2
  rotate_left
  · refine ⟨(1, 6), q, z, Cst.x, hq32, fun Γ l d kr kx hG _ hxN hxI => ?_⟩
    refine ex_of (ls0 := [some (.ref 0), some (.int (nI w)), some (.int x), some (.int wa), some (.int mi), some (.int ru0), some (.int sa), some (.int dy)]) tH_thinks (by decide +kernel) kH_thinks rfl (Nat.le_of_ble_eq_true rfl) rfl ?_
    intro go hgo
    refine hgo 20 [] 0 _ _ _ _ _ ?_
    simp only [ixr_of, run_s, run_0, rH_thinks, rok_i, rok_z, bx_cons, bx_nil, eC0, eC2, eCV1, eCV3, eCV4, eGR, eIALD, eLA0, eLI1, eLI2, eLI3, eLI4, eLI5, eLI6, eLI7, eRI, eSP, fH_thinks_0, bH_thinks_0, ln_ximages, ln_xthought, rg_xmain_0, rg_xmain_1, rg_xmain_10, rg_xmain_2, rg_xmain_3, rg_xmain_4, rg_xmain_5, rg_xmain_6, rg_xmain_7, ty_xaqueduct, ty_xdiary, ty_xforesight, ty_ximages, ty_xmain, ty_xnow, ty_xopinionReader, ty_xtape, ty_xtasters, ty_xthought, Option.toList_some, Option.toList_none, List.cons_append, List.nil_append, List.length_cons, List.length_nil, List.mem_cons, List.not_mem_nil, or_false, false_or, or_true, true_or, ↓reduceIte, true_and, and_true, Nat.reduceEqDiff, Nat.reduceAdd, Nat.reduceLeDiff, Nat.reduceLT, dl_i, dl_r, dl_n, dl_u, eq_self, not_true_eq_false, not_false_eq_true, n10, n01, nm0, n0m, imp_t, imp_f]
    refine call0 (x_needVillage g3 tT v7 (vin rfl ⟨hw, s9⟩) ?_)
    simp only [ixr_of, run_s, run_0, rH_thinks, rok_i, rok_z, bx_cons, bx_nil, eC0, eC2, eCV1, eCV3, eCV4, eGR, eIALD, eLA0, eLI1, eLI2, eLI3, eLI4, eLI5, eLI6, eLI7, eRI, eSP, fH_thinks_0, bH_thinks_0, ln_ximages, ln_xthought, rg_xmain_0, rg_xmain_1, rg_xmain_10, rg_xmain_2, rg_xmain_3, rg_xmain_4, rg_xmain_5, rg_xmain_6, rg_xmain_7, ty_xaqueduct, ty_xdiary, ty_xforesight, ty_ximages, ty_xmain, ty_xnow, ty_xopinionReader, ty_xtape, ty_xtasters, ty_xthought, Option.toList_some, Option.toList_none, List.cons_append, List.nil_append, List.length_cons, List.length_nil, List.mem_cons, List.not_mem_nil, or_false, false_or, or_true, true_or, ↓reduceIte, true_and, and_true, Nat.reduceEqDiff, Nat.reduceAdd, Nat.reduceLeDiff, Nat.reduceLT, dl_i, dl_r, dl_n, dl_u, eq_self, not_true_eq_false, not_false_eq_true, n10, n01, nm0, n0m, imp_t, imp_f]
    refine ⟨1, 6, fun _ => Nat.le_refl _, fun _ => Nat.le_refl _, x_needInX hG.1.1 hG.2.1 hG.2.2 c1 (hxI _ _ (fun Γ l d kr kx hk => ?_))⟩
    exact c_thinks (hVS.t say0) (fun c => absurd (vim (by rw [up_n (by omega)]; exact h40) s9 hw rfl) c) (fun _ _ => hk _ (hG0.rf (rn := 1) (w := 2) (by decide)).1.un (hG0.rf (rn := 1) (w := 2) (by decide)).2) (fun w hb pm a1 a2 a3 a4 a5 _ _ => absurd (by rw [a4]; exact rgI (by omega) (by omega) (by decide)) c1)
  by_cases c2 : nI 0 ≤ wa ∧ wa ≤ nI 9999
  rotate_left
  · refine ⟨(1, 6), q, z, Cst.x, hq32, fun Γ l d kr kx hG _ hxN hxI => ?_⟩
    refine ex_of (ls0 := [some (.ref 0), some (.int (nI w)), some (.int x), some (.int wa), some (.int mi), some (.int ru0), some (.int sa), some (.int dy)]) tH_thinks (by decide +kernel) kH_thinks rfl (Nat.le_of_ble_eq_true rfl) rfl ?_
    intro go hgo
    refine hgo 20 [] 0 _ _ _ _ _ ?_
    simp only [ixr_of, run_s, run_0, rH_thinks, rok_i, rok_z, bx_cons, bx_nil, eC0, eC2, eCV1, eCV3, eCV4, eGR, eIALD, eLA0, eLI1, eLI2, eLI3, eLI4, eLI5, eLI6, eLI7, eRI, eSP, fH_thinks_0, bH_thinks_0, ln_ximages, ln_xthought, rg_xmain_0, rg_xmain_1, rg_xmain_10, rg_xmain_2, rg_xmain_3, rg_xmain_4, rg_xmain_5, rg_xmain_6, rg_xmain_7, ty_xaqueduct, ty_xdiary, ty_xforesight, ty_ximages, ty_xmain, ty_xnow, ty_xopinionReader, ty_xtape, ty_xtasters, ty_xthought, Option.toList_some, Option.toList_none, List.cons_append, List.nil_append, List.length_cons, List.length_nil, List.mem_cons, List.not_mem_nil, or_false, false_or, or_true, true_or, ↓reduceIte, true_and, and_true, Nat.reduceEqDiff, Nat.reduceAdd, Nat.reduceLeDiff, Nat.reduceLT, dl_i, dl_r, dl_n, dl_u, eq_self, not_true_eq_false, not_false_eq_true, n10, n01, nm0, n0m, imp_t, imp_f]
    refine call0 (x_needVillage g3 tT v7 (vin rfl ⟨hw, s9⟩) ?_)
    simp only [ixr_of, run_s, run_0, rH_thinks, rok_i, rok_z, bx_cons, bx_nil, eC0, eC2, eCV1, eCV3, eCV4, eGR, eIALD, eLA0, eLI1, eLI2, eLI3, eLI4, eLI5, eLI6, eLI7, eRI, eSP, fH_thinks_0, bH_thinks_0, ln_ximages, ln_xthought, rg_xmain_0, rg_xmain_1, rg_xmain_10, rg_xmain_2, rg_xmain_3, rg_xmain_4, rg_xmain_5, rg_xmain_6, rg_xmain_7, ty_xaqueduct, ty_xdiary, ty_xforesight, ty_ximages, ty_xmain, ty_xnow, ty_xopinionReader, ty_xtape, ty_xtasters, ty_xthought, Option.toList_some, Option.toList_none, List.cons_append, List.nil_append, List.length_cons, List.length_nil, List.mem_cons, List.not_mem_nil, or_false, false_or, or_true, true_or, ↓reduceIte, true_and, and_true, Nat.reduceEqDiff, Nat.reduceAdd, Nat.reduceLeDiff, Nat.reduceLT, dl_i, dl_r, dl_n, dl_u, eq_self, not_true_eq_false, not_false_eq_true, n10, n01, nm0, n0m, imp_t, imp_f]
    refine call0 (x_needIn c1 ?_)
    simp only [ixr_of, run_s, run_0, rH_thinks, rok_i, rok_z, bx_cons, bx_nil, eC0, eC2, eCV1, eCV3, eCV4, eGR, eIALD, eLA0, eLI1, eLI2, eLI3, eLI4, eLI5, eLI6, eLI7, eRI, eSP, fH_thinks_0, bH_thinks_0, ln_ximages, ln_xthought, rg_xmain_0, rg_xmain_1, rg_xmain_10, rg_xmain_2, rg_xmain_3, rg_xmain_4, rg_xmain_5, rg_xmain_6, rg_xmain_7, ty_xaqueduct, ty_xdiary, ty_xforesight, ty_ximages, ty_xmain, ty_xnow, ty_xopinionReader, ty_xtape, ty_xtasters, ty_xthought, Option.toList_some, Option.toList_none, List.cons_append, List.nil_append, List.length_cons, List.length_nil, List.mem_cons, List.not_mem_nil, or_false, false_or, or_true, true_or, ↓reduceIte, true_and, and_true, Nat.reduceEqDiff, Nat.reduceAdd, Nat.reduceLeDiff, Nat.reduceLT, dl_i, dl_r, dl_n, dl_u, eq_self, not_true_eq_false, not_false_eq_true, n10, n01, nm0, n0m, imp_t, imp_f]
    refine ⟨1, 6, fun _ => Nat.le_refl _, fun _ => Nat.le_refl _, x_needInX hG.1.1 hG.2.1 hG.2.2 c2 (hxI _ _ (fun Γ l d kr kx hk => ?_))⟩
    exact c_thinks (hVS.t say0) (fun c => absurd (vim (by rw [up_n (by omega)]; exact h40) s9 hw rfl) c) (fun _ _ => hk _ (hG0.rf (rn := 1) (w := 2) (by decide)).1.un (hG0.rf (rn := 1) (w := 2) (by decide)).2) (fun w hb pm a1 a2 a3 a4 a5 _ _ => absurd a5.1 c2)
  by_cases c3 : nI 0 ≤ mi ∧ mi ≤ nI 9999
  rotate_left
  · refine ⟨(1, 6), q, z, Cst.x, hq32, fun Γ l d kr kx hG _ hxN hxI => ?_⟩
    refine ex_of (ls0 := [some (.ref 0), some (.int (nI w)), some (.int x), some (.int wa), some (.int mi), some (.int ru0), some (.int sa), some (.int dy)]) tH_thinks (by decide +kernel) kH_thinks rfl (Nat.le_of_ble_eq_true rfl) rfl ?_
    intro go hgo
    refine hgo 20 [] 0 _ _ _ _ _ ?_
    simp only [ixr_of, run_s, run_0, rH_thinks, rok_i, rok_z, bx_cons, bx_nil, eC0, eC2, eCV1, eCV3, eCV4, eGR, eIALD, eLA0, eLI1, eLI2, eLI3, eLI4, eLI5, eLI6, eLI7, eRI, eSP, fH_thinks_0, bH_thinks_0, ln_ximages, ln_xthought, rg_xmain_0, rg_xmain_1, rg_xmain_10, rg_xmain_2, rg_xmain_3, rg_xmain_4, rg_xmain_5, rg_xmain_6, rg_xmain_7, ty_xaqueduct, ty_xdiary, ty_xforesight, ty_ximages, ty_xmain, ty_xnow, ty_xopinionReader, ty_xtape, ty_xtasters, ty_xthought, Option.toList_some, Option.toList_none, List.cons_append, List.nil_append, List.length_cons, List.length_nil, List.mem_cons, List.not_mem_nil, or_false, false_or, or_true, true_or, ↓reduceIte, true_and, and_true, Nat.reduceEqDiff, Nat.reduceAdd, Nat.reduceLeDiff, Nat.reduceLT, dl_i, dl_r, dl_n, dl_u, eq_self, not_true_eq_false, not_false_eq_true, n10, n01, nm0, n0m, imp_t, imp_f]
    refine call0 (x_needVillage g3 tT v7 (vin rfl ⟨hw, s9⟩) ?_)
    simp only [ixr_of, run_s, run_0, rH_thinks, rok_i, rok_z, bx_cons, bx_nil, eC0, eC2, eCV1, eCV3, eCV4, eGR, eIALD, eLA0, eLI1, eLI2, eLI3, eLI4, eLI5, eLI6, eLI7, eRI, eSP, fH_thinks_0, bH_thinks_0, ln_ximages, ln_xthought, rg_xmain_0, rg_xmain_1, rg_xmain_10, rg_xmain_2, rg_xmain_3, rg_xmain_4, rg_xmain_5, rg_xmain_6, rg_xmain_7, ty_xaqueduct, ty_xdiary, ty_xforesight, ty_ximages, ty_xmain, ty_xnow, ty_xopinionReader, ty_xtape, ty_xtasters, ty_xthought, Option.toList_some, Option.toList_none, List.cons_append, List.nil_append, List.length_cons, List.length_nil, List.mem_cons, List.not_mem_nil, or_false, false_or, or_true, true_or, ↓reduceIte, true_and, and_true, Nat.reduceEqDiff, Nat.reduceAdd, Nat.reduceLeDiff, Nat.reduceLT, dl_i, dl_r, dl_n, dl_u, eq_self, not_true_eq_false, not_false_eq_true, n10, n01, nm0, n0m, imp_t, imp_f]
    refine call0 (x_needIn c1 ?_)
    simp only [ixr_of, run_s, run_0, rH_thinks, rok_i, rok_z, bx_cons, bx_nil, eC0, eC2, eCV1, eCV3, eCV4, eGR, eIALD, eLA0, eLI1, eLI2, eLI3, eLI4, eLI5, eLI6, eLI7, eRI, eSP, fH_thinks_0, bH_thinks_0, ln_ximages, ln_xthought, rg_xmain_0, rg_xmain_1, rg_xmain_10, rg_xmain_2, rg_xmain_3, rg_xmain_4, rg_xmain_5, rg_xmain_6, rg_xmain_7, ty_xaqueduct, ty_xdiary, ty_xforesight, ty_ximages, ty_xmain, ty_xnow, ty_xopinionReader, ty_xtape, ty_xtasters, ty_xthought, Option.toList_some, Option.toList_none, List.cons_append, List.nil_append, List.length_cons, List.length_nil, List.mem_cons, List.not_mem_nil, or_false, false_or, or_true, true_or, ↓reduceIte, true_and, and_true, Nat.reduceEqDiff, Nat.reduceAdd, Nat.reduceLeDiff, Nat.reduceLT, dl_i, dl_r, dl_n, dl_u, eq_self, not_true_eq_false, not_false_eq_true, n10, n01, nm0, n0m, imp_t, imp_f]
    refine call0 (x_needIn c2 ?_)
    simp only [ixr_of, run_s, run_0, rH_thinks, rok_i, rok_z, bx_cons, bx_nil, eC0, eC2, eCV1, eCV3, eCV4, eGR, eIALD, eLA0, eLI1, eLI2, eLI3, eLI4, eLI5, eLI6, eLI7, eRI, eSP, fH_thinks_0, bH_thinks_0, ln_ximages, ln_xthought, rg_xmain_0, rg_xmain_1, rg_xmain_10, rg_xmain_2, rg_xmain_3, rg_xmain_4, rg_xmain_5, rg_xmain_6, rg_xmain_7, ty_xaqueduct, ty_xdiary, ty_xforesight, ty_ximages, ty_xmain, ty_xnow, ty_xopinionReader, ty_xtape, ty_xtasters, ty_xthought, Option.toList_some, Option.toList_none, List.cons_append, List.nil_append, List.length_cons, List.length_nil, List.mem_cons, List.not_mem_nil, or_false, false_or, or_true, true_or, ↓reduceIte, true_and, and_true, Nat.reduceEqDiff, Nat.reduceAdd, Nat.reduceLeDiff, Nat.reduceLT, dl_i, dl_r, dl_n, dl_u, eq_self, not_true_eq_false, not_false_eq_true, n10, n01, nm0, n0m, imp_t, imp_f]
    refine ⟨1, 6, fun _ => Nat.le_refl _, fun _ => Nat.le_refl _, x_needInX hG.1.1 hG.2.1 hG.2.2 c3 (hxI _ _ (fun Γ l d kr kx hk => ?_))⟩
    exact c_thinks (hVS.t say0) (fun c => absurd (vim (by rw [up_n (by omega)]; exact h40) s9 hw rfl) c) (fun _ _ => hk _ (hG0.rf (rn := 1) (w := 2) (by decide)).1.un (hG0.rf (rn := 1) (w := 2) (by decide)).2) (fun w hb pm a1 a2 a3 a4 a5 _ _ => absurd a5.2.1 c3)
  by_cases c4 : nI 0 ≤ ru0 ∧ ru0 ≤ nI 9999
  rotate_left
  · refine ⟨(1, 6), q, z, Cst.x, hq32, fun Γ l d kr kx hG _ hxN hxI => ?_⟩
    refine ex_of (ls0 := [some (.ref 0), some (.int (nI w)), some (.int x), some (.int wa), some (.int mi), some (.int ru0), some (.int sa), some (.int dy)]) tH_thinks (by decide +kernel) kH_thinks rfl (Nat.le_of_ble_eq_true rfl) rfl ?_
    intro go hgo
    refine hgo 20 [] 0 _ _ _ _ _ ?_
    simp only [ixr_of, run_s, run_0, rH_thinks, rok_i, rok_z, bx_cons, bx_nil, eC0, eC2, eCV1, eCV3, eCV4, eGR, eIALD, eLA0, eLI1, eLI2, eLI3, eLI4, eLI5, eLI6, eLI7, eRI, eSP, fH_thinks_0, bH_thinks_0, ln_ximages, ln_xthought, rg_xmain_0, rg_xmain_1, rg_xmain_10, rg_xmain_2, rg_xmain_3, rg_xmain_4, rg_xmain_5, rg_xmain_6, rg_xmain_7, ty_xaqueduct, ty_xdiary, ty_xforesight, ty_ximages, ty_xmain, ty_xnow, ty_xopinionReader, ty_xtape, ty_xtasters, ty_xthought, Option.toList_some, Option.toList_none, List.cons_append, List.nil_append, List.length_cons, List.length_nil, List.mem_cons, List.not_mem_nil, or_false, false_or, or_true, true_or, ↓reduceIte, true_and, and_true, Nat.reduceEqDiff, Nat.reduceAdd, Nat.reduceLeDiff, Nat.reduceLT, dl_i, dl_r, dl_n, dl_u, eq_self, not_true_eq_false, not_false_eq_true, n10, n01, nm0, n0m, imp_t, imp_f]
    refine call0 (x_needVillage g3 tT v7 (vin rfl ⟨hw, s9⟩) ?_)
    simp only [ixr_of, run_s, run_0, rH_thinks, rok_i, rok_z, bx_cons, bx_nil, eC0, eC2, eCV1, eCV3, eCV4, eGR, eIALD, eLA0, eLI1, eLI2, eLI3, eLI4, eLI5, eLI6, eLI7, eRI, eSP, fH_thinks_0, bH_thinks_0, ln_ximages, ln_xthought, rg_xmain_0, rg_xmain_1, rg_xmain_10, rg_xmain_2, rg_xmain_3, rg_xmain_4, rg_xmain_5, rg_xmain_6, rg_xmain_7, ty_xaqueduct, ty_xdiary, ty_xforesight, ty_ximages, ty_xmain, ty_xnow, ty_xopinionReader, ty_xtape, ty_xtasters, ty_xthought, Option.toList_some, Option.toList_none, List.cons_append, List.nil_append, List.length_cons, List.length_nil, List.mem_cons, List.not_mem_nil, or_false, false_or, or_true, true_or, ↓reduceIte, true_and, and_true, Nat.reduceEqDiff, Nat.reduceAdd, Nat.reduceLeDiff, Nat.reduceLT, dl_i, dl_r, dl_n, dl_u, eq_self, not_true_eq_false, not_false_eq_true, n10, n01, nm0, n0m, imp_t, imp_f]
    refine call0 (x_needIn c1 ?_)
    simp only [ixr_of, run_s, run_0, rH_thinks, rok_i, rok_z, bx_cons, bx_nil, eC0, eC2, eCV1, eCV3, eCV4, eGR, eIALD, eLA0, eLI1, eLI2, eLI3, eLI4, eLI5, eLI6, eLI7, eRI, eSP, fH_thinks_0, bH_thinks_0, ln_ximages, ln_xthought, rg_xmain_0, rg_xmain_1, rg_xmain_10, rg_xmain_2, rg_xmain_3, rg_xmain_4, rg_xmain_5, rg_xmain_6, rg_xmain_7, ty_xaqueduct, ty_xdiary, ty_xforesight, ty_ximages, ty_xmain, ty_xnow, ty_xopinionReader, ty_xtape, ty_xtasters, ty_xthought, Option.toList_some, Option.toList_none, List.cons_append, List.nil_append, List.length_cons, List.length_nil, List.mem_cons, List.not_mem_nil, or_false, false_or, or_true, true_or, ↓reduceIte, true_and, and_true, Nat.reduceEqDiff, Nat.reduceAdd, Nat.reduceLeDiff, Nat.reduceLT, dl_i, dl_r, dl_n, dl_u, eq_self, not_true_eq_false, not_false_eq_true, n10, n01, nm0, n0m, imp_t, imp_f]
    refine call0 (x_needIn c2 ?_)
    simp only [ixr_of, run_s, run_0, rH_thinks, rok_i, rok_z, bx_cons, bx_nil, eC0, eC2, eCV1, eCV3, eCV4, eGR, eIALD, eLA0, eLI1, eLI2, eLI3, eLI4, eLI5, eLI6, eLI7, eRI, eSP, fH_thinks_0, bH_thinks_0, ln_ximages, ln_xthought, rg_xmain_0, rg_xmain_1, rg_xmain_10, rg_xmain_2, rg_xmain_3, rg_xmain_4, rg_xmain_5, rg_xmain_6, rg_xmain_7, ty_xaqueduct, ty_xdiary, ty_xforesight, ty_ximages, ty_xmain, ty_xnow, ty_xopinionReader, ty_xtape, ty_xtasters, ty_xthought, Option.toList_some, Option.toList_none, List.cons_append, List.nil_append, List.length_cons, List.length_nil, List.mem_cons, List.not_mem_nil, or_false, false_or, or_true, true_or, ↓reduceIte, true_and, and_true, Nat.reduceEqDiff, Nat.reduceAdd, Nat.reduceLeDiff, Nat.reduceLT, dl_i, dl_r, dl_n, dl_u, eq_self, not_true_eq_false, not_false_eq_true, n10, n01, nm0, n0m, imp_t, imp_f]
    refine call0 (x_needIn c3 ?_)
    simp only [ixr_of, run_s, run_0, rH_thinks, rok_i, rok_z, bx_cons, bx_nil, eC0, eC2, eCV1, eCV3, eCV4, eGR, eIALD, eLA0, eLI1, eLI2, eLI3, eLI4, eLI5, eLI6, eLI7, eRI, eSP, fH_thinks_0, bH_thinks_0, ln_ximages, ln_xthought, rg_xmain_0, rg_xmain_1, rg_xmain_10, rg_xmain_2, rg_xmain_3, rg_xmain_4, rg_xmain_5, rg_xmain_6, rg_xmain_7, ty_xaqueduct, ty_xdiary, ty_xforesight, ty_ximages, ty_xmain, ty_xnow, ty_xopinionReader, ty_xtape, ty_xtasters, ty_xthought, Option.toList_some, Option.toList_none, List.cons_append, List.nil_append, List.length_cons, List.length_nil, List.mem_cons, List.not_mem_nil, or_false, false_or, or_true, true_or, ↓reduceIte, true_and, and_true, Nat.reduceEqDiff, Nat.reduceAdd, Nat.reduceLeDiff, Nat.reduceLT, dl_i, dl_r, dl_n, dl_u, eq_self, not_true_eq_false, not_false_eq_true, n10, n01, nm0, n0m, imp_t, imp_f]
    refine ⟨1, 6, fun _ => Nat.le_refl _, fun _ => Nat.le_refl _, x_needInX hG.1.1 hG.2.1 hG.2.2 c4 (hxI _ _ (fun Γ l d kr kx hk => ?_))⟩
    exact c_thinks (hVS.t say0) (fun c => absurd (vim (by rw [up_n (by omega)]; exact h40) s9 hw rfl) c) (fun _ _ => hk _ (hG0.rf (rn := 1) (w := 2) (by decide)).1.un (hG0.rf (rn := 1) (w := 2) (by decide)).2) (fun w hb pm a1 a2 a3 a4 a5 _ _ => absurd a5.2.2.1 c4)
  by_cases c5 : nI 0 ≤ sa ∧ sa ≤ nI 9999
  rotate_left
  · refine ⟨(1, 6), q, z, Cst.x, hq32, fun Γ l d kr kx hG _ hxN hxI => ?_⟩
    refine ex_of (ls0 := [some (.ref 0), some (.int (nI w)), some (.int x), some (.int wa), some (.int mi), some (.int ru0), some (.int sa), some (.int dy)]) tH_thinks (by decide +kernel) kH_thinks rfl (Nat.le_of_ble_eq_true rfl) rfl ?_
    intro go hgo
    refine hgo 20 [] 0 _ _ _ _ _ ?_
    simp only [ixr_of, run_s, run_0, rH_thinks, rok_i, rok_z, bx_cons, bx_nil, eC0, eC2, eCV1, eCV3, eCV4, eGR, eIALD, eLA0, eLI1, eLI2, eLI3, eLI4, eLI5, eLI6, eLI7, eRI, eSP, fH_thinks_0, bH_thinks_0, ln_ximages, ln_xthought, rg_xmain_0, rg_xmain_1, rg_xmain_10, rg_xmain_2, rg_xmain_3, rg_xmain_4, rg_xmain_5, rg_xmain_6, rg_xmain_7, ty_xaqueduct, ty_xdiary, ty_xforesight, ty_ximages, ty_xmain, ty_xnow, ty_xopinionReader, ty_xtape, ty_xtasters, ty_xthought, Option.toList_some, Option.toList_none, List.cons_append, List.nil_append, List.length_cons, List.length_nil, List.mem_cons, List.not_mem_nil, or_false, false_or, or_true, true_or, ↓reduceIte, true_and, and_true, Nat.reduceEqDiff, Nat.reduceAdd, Nat.reduceLeDiff, Nat.reduceLT, dl_i, dl_r, dl_n, dl_u, eq_self, not_true_eq_false, not_false_eq_true, n10, n01, nm0, n0m, imp_t, imp_f]
    refine call0 (x_needVillage g3 tT v7 (vin rfl ⟨hw, s9⟩) ?_)
    simp only [ixr_of, run_s, run_0, rH_thinks, rok_i, rok_z, bx_cons, bx_nil, eC0, eC2, eCV1, eCV3, eCV4, eGR, eIALD, eLA0, eLI1, eLI2, eLI3, eLI4, eLI5, eLI6, eLI7, eRI, eSP, fH_thinks_0, bH_thinks_0, ln_ximages, ln_xthought, rg_xmain_0, rg_xmain_1, rg_xmain_10, rg_xmain_2, rg_xmain_3, rg_xmain_4, rg_xmain_5, rg_xmain_6, rg_xmain_7, ty_xaqueduct, ty_xdiary, ty_xforesight, ty_ximages, ty_xmain, ty_xnow, ty_xopinionReader, ty_xtape, ty_xtasters, ty_xthought, Option.toList_some, Option.toList_none, List.cons_append, List.nil_append, List.length_cons, List.length_nil, List.mem_cons, List.not_mem_nil, or_false, false_or, or_true, true_or, ↓reduceIte, true_and, and_true, Nat.reduceEqDiff, Nat.reduceAdd, Nat.reduceLeDiff, Nat.reduceLT, dl_i, dl_r, dl_n, dl_u, eq_self, not_true_eq_false, not_false_eq_true, n10, n01, nm0, n0m, imp_t, imp_f]
    refine call0 (x_needIn c1 ?_)
    simp only [ixr_of, run_s, run_0, rH_thinks, rok_i, rok_z, bx_cons, bx_nil, eC0, eC2, eCV1, eCV3, eCV4, eGR, eIALD, eLA0, eLI1, eLI2, eLI3, eLI4, eLI5, eLI6, eLI7, eRI, eSP, fH_thinks_0, bH_thinks_0, ln_ximages, ln_xthought, rg_xmain_0, rg_xmain_1, rg_xmain_10, rg_xmain_2, rg_xmain_3, rg_xmain_4, rg_xmain_5, rg_xmain_6, rg_xmain_7, ty_xaqueduct, ty_xdiary, ty_xforesight, ty_ximages, ty_xmain, ty_xnow, ty_xopinionReader, ty_xtape, ty_xtasters, ty_xthought, Option.toList_some, Option.toList_none, List.cons_append, List.nil_append, List.length_cons, List.length_nil, List.mem_cons, List.not_mem_nil, or_false, false_or, or_true, true_or, ↓reduceIte, true_and, and_true, Nat.reduceEqDiff, Nat.reduceAdd, Nat.reduceLeDiff, Nat.reduceLT, dl_i, dl_r, dl_n, dl_u, eq_self, not_true_eq_false, not_false_eq_true, n10, n01, nm0, n0m, imp_t, imp_f]
    refine call0 (x_needIn c2 ?_)
    simp only [ixr_of, run_s, run_0, rH_thinks, rok_i, rok_z, bx_cons, bx_nil, eC0, eC2, eCV1, eCV3, eCV4, eGR, eIALD, eLA0, eLI1, eLI2, eLI3, eLI4, eLI5, eLI6, eLI7, eRI, eSP, fH_thinks_0, bH_thinks_0, ln_ximages, ln_xthought, rg_xmain_0, rg_xmain_1, rg_xmain_10, rg_xmain_2, rg_xmain_3, rg_xmain_4, rg_xmain_5, rg_xmain_6, rg_xmain_7, ty_xaqueduct, ty_xdiary, ty_xforesight, ty_ximages, ty_xmain, ty_xnow, ty_xopinionReader, ty_xtape, ty_xtasters, ty_xthought, Option.toList_some, Option.toList_none, List.cons_append, List.nil_append, List.length_cons, List.length_nil, List.mem_cons, List.not_mem_nil, or_false, false_or, or_true, true_or, ↓reduceIte, true_and, and_true, Nat.reduceEqDiff, Nat.reduceAdd, Nat.reduceLeDiff, Nat.reduceLT, dl_i, dl_r, dl_n, dl_u, eq_self, not_true_eq_false, not_false_eq_true, n10, n01, nm0, n0m, imp_t, imp_f]
    refine call0 (x_needIn c3 ?_)
    simp only [ixr_of, run_s, run_0, rH_thinks, rok_i, rok_z, bx_cons, bx_nil, eC0, eC2, eCV1, eCV3, eCV4, eGR, eIALD, eLA0, eLI1, eLI2, eLI3, eLI4, eLI5, eLI6, eLI7, eRI, eSP, fH_thinks_0, bH_thinks_0, ln_ximages, ln_xthought, rg_xmain_0, rg_xmain_1, rg_xmain_10, rg_xmain_2, rg_xmain_3, rg_xmain_4, rg_xmain_5, rg_xmain_6, rg_xmain_7, ty_xaqueduct, ty_xdiary, ty_xforesight, ty_ximages, ty_xmain, ty_xnow, ty_xopinionReader, ty_xtape, ty_xtasters, ty_xthought, Option.toList_some, Option.toList_none, List.cons_append, List.nil_append, List.length_cons, List.length_nil, List.mem_cons, List.not_mem_nil, or_false, false_or, or_true, true_or, ↓reduceIte, true_and, and_true, Nat.reduceEqDiff, Nat.reduceAdd, Nat.reduceLeDiff, Nat.reduceLT, dl_i, dl_r, dl_n, dl_u, eq_self, not_true_eq_false, not_false_eq_true, n10, n01, nm0, n0m, imp_t, imp_f]
    refine call0 (x_needIn c4 ?_)
    simp only [ixr_of, run_s, run_0, rH_thinks, rok_i, rok_z, bx_cons, bx_nil, eC0, eC2, eCV1, eCV3, eCV4, eGR, eIALD, eLA0, eLI1, eLI2, eLI3, eLI4, eLI5, eLI6, eLI7, eRI, eSP, fH_thinks_0, bH_thinks_0, ln_ximages, ln_xthought, rg_xmain_0, rg_xmain_1, rg_xmain_10, rg_xmain_2, rg_xmain_3, rg_xmain_4, rg_xmain_5, rg_xmain_6, rg_xmain_7, ty_xaqueduct, ty_xdiary, ty_xforesight, ty_ximages, ty_xmain, ty_xnow, ty_xopinionReader, ty_xtape, ty_xtasters, ty_xthought, Option.toList_some, Option.toList_none, List.cons_append, List.nil_append, List.length_cons, List.length_nil, List.mem_cons, List.not_mem_nil, or_false, false_or, or_true, true_or, ↓reduceIte, true_and, and_true, Nat.reduceEqDiff, Nat.reduceAdd, Nat.reduceLeDiff, Nat.reduceLT, dl_i, dl_r, dl_n, dl_u, eq_self, not_true_eq_false, not_false_eq_true, n10, n01, nm0, n0m, imp_t, imp_f]
    refine ⟨1, 6, fun _ => Nat.le_refl _, fun _ => Nat.le_refl _, x_needInX hG.1.1 hG.2.1 hG.2.2 c5 (hxI _ _ (fun Γ l d kr kx hk => ?_))⟩
    exact c_thinks (hVS.t say0) (fun c => absurd (vim (by rw [up_n (by omega)]; exact h40) s9 hw rfl) c) (fun _ _ => hk _ (hG0.rf (rn := 1) (w := 2) (by decide)).1.un (hG0.rf (rn := 1) (w := 2) (by decide)).2) (fun w hb pm a1 a2 a3 a4 a5 _ _ => absurd a5.2.2.2.1 c5)
  by_cases c6 : nI 0 ≤ dy ∧ dy ≤ nI 999
  rotate_left
  · refine ⟨(1, 6), q, z, Cst.x, hq32, fun Γ l d kr kx hG _ hxN hxI => ?_⟩
    refine ex_of (ls0 := [some (.ref 0), some (.int (nI w)), some (.int x), some (.int wa), some (.int mi), some (.int ru0), some (.int sa), some (.int dy)]) tH_thinks (by decide +kernel) kH_thinks rfl (Nat.le_of_ble_eq_true rfl) rfl ?_
    intro go hgo
    refine hgo 20 [] 0 _ _ _ _ _ ?_
    simp only [ixr_of, run_s, run_0, rH_thinks, rok_i, rok_z, bx_cons, bx_nil, eC0, eC2, eCV1, eCV3, eCV4, eGR, eIALD, eLA0, eLI1, eLI2, eLI3, eLI4, eLI5, eLI6, eLI7, eRI, eSP, fH_thinks_0, bH_thinks_0, ln_ximages, ln_xthought, rg_xmain_0, rg_xmain_1, rg_xmain_10, rg_xmain_2, rg_xmain_3, rg_xmain_4, rg_xmain_5, rg_xmain_6, rg_xmain_7, ty_xaqueduct, ty_xdiary, ty_xforesight, ty_ximages, ty_xmain, ty_xnow, ty_xopinionReader, ty_xtape, ty_xtasters, ty_xthought, Option.toList_some, Option.toList_none, List.cons_append, List.nil_append, List.length_cons, List.length_nil, List.mem_cons, List.not_mem_nil, or_false, false_or, or_true, true_or, ↓reduceIte, true_and, and_true, Nat.reduceEqDiff, Nat.reduceAdd, Nat.reduceLeDiff, Nat.reduceLT, dl_i, dl_r, dl_n, dl_u, eq_self, not_true_eq_false, not_false_eq_true, n10, n01, nm0, n0m, imp_t, imp_f]
    refine call0 (x_needVillage g3 tT v7 (vin rfl ⟨hw, s9⟩) ?_)
    simp only [ixr_of, run_s, run_0, rH_thinks, rok_i, rok_z, bx_cons, bx_nil, eC0, eC2, eCV1, eCV3, eCV4, eGR, eIALD, eLA0, eLI1, eLI2, eLI3, eLI4, eLI5, eLI6, eLI7, eRI, eSP, fH_thinks_0, bH_thinks_0, ln_ximages, ln_xthought, rg_xmain_0, rg_xmain_1, rg_xmain_10, rg_xmain_2, rg_xmain_3, rg_xmain_4, rg_xmain_5, rg_xmain_6, rg_xmain_7, ty_xaqueduct, ty_xdiary, ty_xforesight, ty_ximages, ty_xmain, ty_xnow, ty_xopinionReader, ty_xtape, ty_xtasters, ty_xthought, Option.toList_some, Option.toList_none, List.cons_append, List.nil_append, List.length_cons, List.length_nil, List.mem_cons, List.not_mem_nil, or_false, false_or, or_true, true_or, ↓reduceIte, true_and, and_true, Nat.reduceEqDiff, Nat.reduceAdd, Nat.reduceLeDiff, Nat.reduceLT, dl_i, dl_r, dl_n, dl_u, eq_self, not_true_eq_false, not_false_eq_true, n10, n01, nm0, n0m, imp_t, imp_f]
    refine call0 (x_needIn c1 ?_)
    simp only [ixr_of, run_s, run_0, rH_thinks, rok_i, rok_z, bx_cons, bx_nil, eC0, eC2, eCV1, eCV3, eCV4, eGR, eIALD, eLA0, eLI1, eLI2, eLI3, eLI4, eLI5, eLI6, eLI7, eRI, eSP, fH_thinks_0, bH_thinks_0, ln_ximages, ln_xthought, rg_xmain_0, rg_xmain_1, rg_xmain_10, rg_xmain_2, rg_xmain_3, rg_xmain_4, rg_xmain_5, rg_xmain_6, rg_xmain_7, ty_xaqueduct, ty_xdiary, ty_xforesight, ty_ximages, ty_xmain, ty_xnow, ty_xopinionReader, ty_xtape, ty_xtasters, ty_xthought, Option.toList_some, Option.toList_none, List.cons_append, List.nil_append, List.length_cons, List.length_nil, List.mem_cons, List.not_mem_nil, or_false, false_or, or_true, true_or, ↓reduceIte, true_and, and_true, Nat.reduceEqDiff, Nat.reduceAdd, Nat.reduceLeDiff, Nat.reduceLT, dl_i, dl_r, dl_n, dl_u, eq_self, not_true_eq_false, not_false_eq_true, n10, n01, nm0, n0m, imp_t, imp_f]
    refine call0 (x_needIn c2 ?_)
    simp only [ixr_of, run_s, run_0, rH_thinks, rok_i, rok_z, bx_cons, bx_nil, eC0, eC2, eCV1, eCV3, eCV4, eGR, eIALD, eLA0, eLI1, eLI2, eLI3, eLI4, eLI5, eLI6, eLI7, eRI, eSP, fH_thinks_0, bH_thinks_0, ln_ximages, ln_xthought, rg_xmain_0, rg_xmain_1, rg_xmain_10, rg_xmain_2, rg_xmain_3, rg_xmain_4, rg_xmain_5, rg_xmain_6, rg_xmain_7, ty_xaqueduct, ty_xdiary, ty_xforesight, ty_ximages, ty_xmain, ty_xnow, ty_xopinionReader, ty_xtape, ty_xtasters, ty_xthought, Option.toList_some, Option.toList_none, List.cons_append, List.nil_append, List.length_cons, List.length_nil, List.mem_cons, List.not_mem_nil, or_false, false_or, or_true, true_or, ↓reduceIte, true_and, and_true, Nat.reduceEqDiff, Nat.reduceAdd, Nat.reduceLeDiff, Nat.reduceLT, dl_i, dl_r, dl_n, dl_u, eq_self, not_true_eq_false, not_false_eq_true, n10, n01, nm0, n0m, imp_t, imp_f]
    refine call0 (x_needIn c3 ?_)
    simp only [ixr_of, run_s, run_0, rH_thinks, rok_i, rok_z, bx_cons, bx_nil, eC0, eC2, eCV1, eCV3, eCV4, eGR, eIALD, eLA0, eLI1, eLI2, eLI3, eLI4, eLI5, eLI6, eLI7, eRI, eSP, fH_thinks_0, bH_thinks_0, ln_ximages, ln_xthought, rg_xmain_0, rg_xmain_1, rg_xmain_10, rg_xmain_2, rg_xmain_3, rg_xmain_4, rg_xmain_5, rg_xmain_6, rg_xmain_7, ty_xaqueduct, ty_xdiary, ty_xforesight, ty_ximages, ty_xmain, ty_xnow, ty_xopinionReader, ty_xtape, ty_xtasters, ty_xthought, Option.toList_some, Option.toList_none, List.cons_append, List.nil_append, List.length_cons, List.length_nil, List.mem_cons, List.not_mem_nil, or_false, false_or, or_true, true_or, ↓reduceIte, true_and, and_true, Nat.reduceEqDiff, Nat.reduceAdd, Nat.reduceLeDiff, Nat.reduceLT, dl_i, dl_r, dl_n, dl_u, eq_self, not_true_eq_false, not_false_eq_true, n10, n01, nm0, n0m, imp_t, imp_f]
    refine call0 (x_needIn c4 ?_)
    simp only [ixr_of, run_s, run_0, rH_thinks, rok_i, rok_z, bx_cons, bx_nil, eC0, eC2, eCV1, eCV3, eCV4, eGR, eIALD, eLA0, eLI1, eLI2, eLI3, eLI4, eLI5, eLI6, eLI7, eRI, eSP, fH_thinks_0, bH_thinks_0, ln_ximages, ln_xthought, rg_xmain_0, rg_xmain_1, rg_xmain_10, rg_xmain_2, rg_xmain_3, rg_xmain_4, rg_xmain_5, rg_xmain_6, rg_xmain_7, ty_xaqueduct, ty_xdiary, ty_xforesight, ty_ximages, ty_xmain, ty_xnow, ty_xopinionReader, ty_xtape, ty_xtasters, ty_xthought, Option.toList_some, Option.toList_none, List.cons_append, List.nil_append, List.length_cons, List.length_nil, List.mem_cons, List.not_mem_nil, or_false, false_or, or_true, true_or, ↓reduceIte, true_and, and_true, Nat.reduceEqDiff, Nat.reduceAdd, Nat.reduceLeDiff, Nat.reduceLT, dl_i, dl_r, dl_n, dl_u, eq_self, not_true_eq_false, not_false_eq_true, n10, n01, nm0, n0m, imp_t, imp_f]
    refine call0 (x_needIn c5 ?_)
    simp only [ixr_of, run_s, run_0, rH_thinks, rok_i, rok_z, bx_cons, bx_nil, eC0, eC2, eCV1, eCV3, eCV4, eGR, eIALD, eLA0, eLI1, eLI2, eLI3, eLI4, eLI5, eLI6, eLI7, eRI, eSP, fH_thinks_0, bH_thinks_0, ln_ximages, ln_xthought, rg_xmain_0, rg_xmain_1, rg_xmain_10, rg_xmain_2, rg_xmain_3, rg_xmain_4, rg_xmain_5, rg_xmain_6, rg_xmain_7, ty_xaqueduct, ty_xdiary, ty_xforesight, ty_ximages, ty_xmain, ty_xnow, ty_xopinionReader, ty_xtape, ty_xtasters, ty_xthought, Option.toList_some, Option.toList_none, List.cons_append, List.nil_append, List.length_cons, List.length_nil, List.mem_cons, List.not_mem_nil, or_false, false_or, or_true, true_or, ↓reduceIte, true_and, and_true, Nat.reduceEqDiff, Nat.reduceAdd, Nat.reduceLeDiff, Nat.reduceLT, dl_i, dl_r, dl_n, dl_u, eq_self, not_true_eq_false, not_false_eq_true, n10, n01, nm0, n0m, imp_t, imp_f]
    refine ⟨1, 6, fun _ => Nat.le_refl _, fun _ => Nat.le_refl _, x_needInX hG.1.1 hG.2.1 hG.2.2 c6 (hxI _ _ (fun Γ l d kr kx hk => ?_))⟩
    exact c_thinks (hVS.t say0) (fun c => absurd (vim (by rw [up_n (by omega)]; exact h40) s9 hw rfl) c) (fun _ _ => hk _ (hG0.rf (rn := 1) (w := 2) (by decide)).1.un (hG0.rf (rn := 1) (w := 2) (by decide)).2) (fun w hb pm a1 a2 a3 a4 a5 _ _ => absurd a5.2.2.2.2 c6)
  obtain ⟨hb, hhb, rfl⟩ := rng (by decide) c1
  refine ⟨(0, 0), q, z, Cst.no, hq32, fun Γ l d kr kx hG hk _ _ => ?_⟩
  refine ex_of (ls0 := [some (.ref 0), some (.int (nI w)), some (.int (nI hb)), some (.int wa), some (.int mi), some (.int ru0), some (.int sa), some (.int dy)]) tH_thinks (by decide +kernel) kH_thinks rfl (Nat.le_of_ble_eq_true rfl) rfl ?_
  intro go hgo
  refine hgo 20 [] 0 _ _ _ _ _ ?_
  simp only [ixr_of, run_s, run_0, rH_thinks, rok_i, rok_z, bx_cons, bx_nil, eC0, eC2, eCV1, eCV3, eCV4, eGR, eIALD, eLA0, eLI1, eLI2, eLI3, eLI4, eLI5, eLI6, eLI7, eRI, eSP, fH_thinks_0, bH_thinks_0, ln_ximages, ln_xthought, rg_xmain_0, rg_xmain_1, rg_xmain_10, rg_xmain_2, rg_xmain_3, rg_xmain_4, rg_xmain_5, rg_xmain_6, rg_xmain_7, ty_xaqueduct, ty_xdiary, ty_xforesight, ty_ximages, ty_xmain, ty_xnow, ty_xopinionReader, ty_xtape, ty_xtasters, ty_xthought, Option.toList_some, Option.toList_none, List.cons_append, List.nil_append, List.length_cons, List.length_nil, List.mem_cons, List.not_mem_nil, or_false, false_or, or_true, true_or, ↓reduceIte, true_and, and_true, Nat.reduceEqDiff, Nat.reduceAdd, Nat.reduceLeDiff, Nat.reduceLT, dl_i, dl_r, dl_n, dl_u, eq_self, not_true_eq_false, not_false_eq_true, n10, n01, nm0, n0m, imp_t, imp_f]
  refine call0 (x_needVillage g3 tT v7 (vin rfl ⟨hw, s9⟩) ?_)
  simp only [ixr_of, run_s, run_0, rH_thinks, rok_i, rok_z, bx_cons, bx_nil, eC0, eC2, eCV1, eCV3, eCV4, eGR, eIALD, eLA0, eLI1, eLI2, eLI3, eLI4, eLI5, eLI6, eLI7, eRI, eSP, fH_thinks_0, bH_thinks_0, ln_ximages, ln_xthought, rg_xmain_0, rg_xmain_1, rg_xmain_10, rg_xmain_2, rg_xmain_3, rg_xmain_4, rg_xmain_5, rg_xmain_6, rg_xmain_7, ty_xaqueduct, ty_xdiary, ty_xforesight, ty_ximages, ty_xmain, ty_xnow, ty_xopinionReader, ty_xtape, ty_xtasters, ty_xthought, Option.toList_some, Option.toList_none, List.cons_append, List.nil_append, List.length_cons, List.length_nil, List.mem_cons, List.not_mem_nil, or_false, false_or, or_true, true_or, ↓reduceIte, true_and, and_true, Nat.reduceEqDiff, Nat.reduceAdd, Nat.reduceLeDiff, Nat.reduceLT, dl_i, dl_r, dl_n, dl_u, eq_self, not_true_eq_false, not_false_eq_true, n10, n01, nm0, n0m, imp_t, imp_f]
  refine call0 (x_needIn c1 ?_)
  simp only [ixr_of, run_s, run_0, rH_thinks, rok_i, rok_z, bx_cons, bx_nil, eC0, eC2, eCV1, eCV3, eCV4, eGR, eIALD, eLA0, eLI1, eLI2, eLI3, eLI4, eLI5, eLI6, eLI7, eRI, eSP, fH_thinks_0, bH_thinks_0, ln_ximages, ln_xthought, rg_xmain_0, rg_xmain_1, rg_xmain_10, rg_xmain_2, rg_xmain_3, rg_xmain_4, rg_xmain_5, rg_xmain_6, rg_xmain_7, ty_xaqueduct, ty_xdiary, ty_xforesight, ty_ximages, ty_xmain, ty_xnow, ty_xopinionReader, ty_xtape, ty_xtasters, ty_xthought, Option.toList_some, Option.toList_none, List.cons_append, List.nil_append, List.length_cons, List.length_nil, List.mem_cons, List.not_mem_nil, or_false, false_or, or_true, true_or, ↓reduceIte, true_and, and_true, Nat.reduceEqDiff, Nat.reduceAdd, Nat.reduceLeDiff, Nat.reduceLT, dl_i, dl_r, dl_n, dl_u, eq_self, not_true_eq_false, not_false_eq_true, n10, n01, nm0, n0m, imp_t, imp_f]
  refine call0 (x_needIn c2 ?_)
  simp only [ixr_of, run_s, run_0, rH_thinks, rok_i, rok_z, bx_cons, bx_nil, eC0, eC2, eCV1, eCV3, eCV4, eGR, eIALD, eLA0, eLI1, eLI2, eLI3, eLI4, eLI5, eLI6, eLI7, eRI, eSP, fH_thinks_0, bH_thinks_0, ln_ximages, ln_xthought, rg_xmain_0, rg_xmain_1, rg_xmain_10, rg_xmain_2, rg_xmain_3, rg_xmain_4, rg_xmain_5, rg_xmain_6, rg_xmain_7, ty_xaqueduct, ty_xdiary, ty_xforesight, ty_ximages, ty_xmain, ty_xnow, ty_xopinionReader, ty_xtape, ty_xtasters, ty_xthought, Option.toList_some, Option.toList_none, List.cons_append, List.nil_append, List.length_cons, List.length_nil, List.mem_cons, List.not_mem_nil, or_false, false_or, or_true, true_or, ↓reduceIte, true_and, and_true, Nat.reduceEqDiff, Nat.reduceAdd, Nat.reduceLeDiff, Nat.reduceLT, dl_i, dl_r, dl_n, dl_u, eq_self, not_true_eq_false, not_false_eq_true, n10, n01, nm0, n0m, imp_t, imp_f]
  refine call0 (x_needIn c3 ?_)
  simp only [ixr_of, run_s, run_0, rH_thinks, rok_i, rok_z, bx_cons, bx_nil, eC0, eC2, eCV1, eCV3, eCV4, eGR, eIALD, eLA0, eLI1, eLI2, eLI3, eLI4, eLI5, eLI6, eLI7, eRI, eSP, fH_thinks_0, bH_thinks_0, ln_ximages, ln_xthought, rg_xmain_0, rg_xmain_1, rg_xmain_10, rg_xmain_2, rg_xmain_3, rg_xmain_4, rg_xmain_5, rg_xmain_6, rg_xmain_7, ty_xaqueduct, ty_xdiary, ty_xforesight, ty_ximages, ty_xmain, ty_xnow, ty_xopinionReader, ty_xtape, ty_xtasters, ty_xthought, Option.toList_some, Option.toList_none, List.cons_append, List.nil_append, List.length_cons, List.length_nil, List.mem_cons, List.not_mem_nil, or_false, false_or, or_true, true_or, ↓reduceIte, true_and, and_true, Nat.reduceEqDiff, Nat.reduceAdd, Nat.reduceLeDiff, Nat.reduceLT, dl_i, dl_r, dl_n, dl_u, eq_self, not_true_eq_false, not_false_eq_true, n10, n01, nm0, n0m, imp_t, imp_f]
  refine call0 (x_needIn c4 ?_)
  simp only [ixr_of, run_s, run_0, rH_thinks, rok_i, rok_z, bx_cons, bx_nil, eC0, eC2, eCV1, eCV3, eCV4, eGR, eIALD, eLA0, eLI1, eLI2, eLI3, eLI4, eLI5, eLI6, eLI7, eRI, eSP, fH_thinks_0, bH_thinks_0, ln_ximages, ln_xthought, rg_xmain_0, rg_xmain_1, rg_xmain_10, rg_xmain_2, rg_xmain_3, rg_xmain_4, rg_xmain_5, rg_xmain_6, rg_xmain_7, ty_xaqueduct, ty_xdiary, ty_xforesight, ty_ximages, ty_xmain, ty_xnow, ty_xopinionReader, ty_xtape, ty_xtasters, ty_xthought, Option.toList_some, Option.toList_none, List.cons_append, List.nil_append, List.length_cons, List.length_nil, List.mem_cons, List.not_mem_nil, or_false, false_or, or_true, true_or, ↓reduceIte, true_and, and_true, Nat.reduceEqDiff, Nat.reduceAdd, Nat.reduceLeDiff, Nat.reduceLT, dl_i, dl_r, dl_n, dl_u, eq_self, not_true_eq_false, not_false_eq_true, n10, n01, nm0, n0m, imp_t, imp_f]
  refine call0 (x_needIn c5 ?_)
  simp only [ixr_of, run_s, run_0, rH_thinks, rok_i, rok_z, bx_cons, bx_nil, eC0, eC2, eCV1, eCV3, eCV4, eGR, eIALD, eLA0, eLI1, eLI2, eLI3, eLI4, eLI5, eLI6, eLI7, eRI, eSP, fH_thinks_0, bH_thinks_0, ln_ximages, ln_xthought, rg_xmain_0, rg_xmain_1, rg_xmain_10, rg_xmain_2, rg_xmain_3, rg_xmain_4, rg_xmain_5, rg_xmain_6, rg_xmain_7, ty_xaqueduct, ty_xdiary, ty_xforesight, ty_ximages, ty_xmain, ty_xnow, ty_xopinionReader, ty_xtape, ty_xtasters, ty_xthought, Option.toList_some, Option.toList_none, List.cons_append, List.nil_append, List.length_cons, List.length_nil, List.mem_cons, List.not_mem_nil, or_false, false_or, or_true, true_or, ↓reduceIte, true_and, and_true, Nat.reduceEqDiff, Nat.reduceAdd, Nat.reduceLeDiff, Nat.reduceLT, dl_i, dl_r, dl_n, dl_u, eq_self, not_true_eq_false, not_false_eq_true, n10, n01, nm0, n0m, imp_t, imp_f]
  refine call0 (x_needIn c6 ?_)
  simp only [ixr_of, run_s, run_0, rH_thinks, rok_i, rok_z, bx_cons, bx_nil, eC0, eC2, eCV1, eCV3, eCV4, eGR, eIALD, eLA0, eLI1, eLI2, eLI3, eLI4, eLI5, eLI6, eLI7, eRI, eSP, fH_thinks_0, bH_thinks_0, ln_ximages, ln_xthought, rg_xmain_0, rg_xmain_1, rg_xmain_10, rg_xmain_2, rg_xmain_3, rg_xmain_4, rg_xmain_5, rg_xmain_6, rg_xmain_7, ty_xaqueduct, ty_xdiary, ty_xforesight, ty_ximages, ty_xmain, ty_xnow, ty_xopinionReader, ty_xtape, ty_xtasters, ty_xthought, Option.toList_some, Option.toList_none, List.cons_append, List.nil_append, List.length_cons, List.length_nil, List.mem_cons, List.not_mem_nil, or_false, false_or, or_true, true_or, ↓reduceIte, true_and, and_true, Nat.reduceEqDiff, Nat.reduceAdd, Nat.reduceLeDiff, Nat.reduceLT, dl_i, dl_r, dl_n, dl_u, eq_self, not_true_eq_false, not_false_eq_true, n10, n01, nm0, n0m, imp_t, imp_f]
  refine call0 (x_lookInto hG.1 ?_)
  obtain ⟨L, hL⟩ : ∃ L, L = loI J mi ru0 sa wa := ⟨_, rfl⟩
  rw [← hL]
  have eo : ∀ i, i ≠ 19 → L i = J i := fun i hi => by
    rw [hL]
    funext k
    unfold loI
    rw [up_n (by omega), up_n (by omega), up_n (by omega), up_n (by omega)]
  have hLA : TwR true L E S PS t op := r1.1.mv (fun i hi => eo i (by
    rcases hi with hi | hi | ⟨o, ho, hi⟩
    · omega
    · omega
    · unfold idO at ho; omega)) (fun i hi => eo i (by unfold tw at hi; omega))
  have i9 : w < 9 := by omega
  have hov := r1.1.1.2.2.2.2.2.1 w (by omega)
  obtain ⟨kn, hkn⟩ : ∃ kn, kn = knT J w wa mi ru0 sa dy := ⟨_, rfl⟩
  have i3 : hb < 3 := by omega
  have ty82 : tyc shN E 82 = 101 := ty_xthought
  have ln82 : len shN E 82 = 3 := ln_xthought
  simp only [ixr_of, run_s, run_0, rH_thinks, rok_i, rok_z, bx_cons, bx_nil, eC0, eC2, eCV1, eCV3, eCV4, eGR, eIALD, eLA0, eLI1, eLI2, eLI3, eLI4, eLI5, eLI6, eLI7, eRI, eSP, fH_thinks_0, bH_thinks_0, ln_ximages, ln_xthought, rg_xmain_0, rg_xmain_1, rg_xmain_10, rg_xmain_2, rg_xmain_3, rg_xmain_4, rg_xmain_5, rg_xmain_6, rg_xmain_7, ty_xaqueduct, ty_xdiary, ty_xforesight, ty_ximages, ty_xmain, ty_xnow, ty_xopinionReader, ty_xtape, ty_xtasters, ty_xthought, Option.toList_some, Option.toList_none, List.cons_append, List.nil_append, List.length_cons, List.length_nil, List.mem_cons, List.not_mem_nil, or_false, false_or, or_true, true_or, ↓reduceIte, true_and, and_true, Nat.reduceEqDiff, Nat.reduceAdd, Nat.reduceLeDiff, Nat.reduceLT, dl_i, dl_r, dl_n, dl_u, eq_self, not_true_eq_false, not_false_eq_true, n10, n01, nm0, n0m, imp_t, imp_f]
  refine call0 (x_thinkOf (kn := kn) hG.1 hLA hw ?_ ?_ ?_ ?_ ?_ ?_ ?_ (fun K h1 h2 => ?_))
  · rw [hL, hkn]; unfold loI; rw [up_s]; rfl
  · rw [hL, hkn]; unfold loI; rw [up_n (by omega), up_n (by omega), up_n (by omega), up_s]; rfl
  · rw [hL, hkn]; unfold loI; rw [up_n (by omega), up_n (by omega), up_s]; rfl
  · rw [hL, hkn]; unfold loI; rw [up_n (by omega), up_s]; rfl
  · rw [hkn]; rfl
  · rw [hkn]; rfl
  · rw [hkn]
    show _ = J (500016 + w) 1
    rw [r1.1.2.1.2.2.2 w hw 1 (by decide)]
    unfold vz
    rw [if_pos hw]
  have eK := h2 hb i3
  simp only [ixr_of, run_s, run_0, rH_thinks, rok_i, rok_z, bx_cons, bx_nil, eC0, eC2, eCV1, eCV3, eCV4, eGR, eIALD, eLA0, eLI1, eLI2, eLI3, eLI4, eLI5, eLI6, eLI7, eRI, eSP, fH_thinks_0, bH_thinks_0, ln_ximages, ln_xthought, rg_xmain_0, rg_xmain_1, rg_xmain_10, rg_xmain_2, rg_xmain_3, rg_xmain_4, rg_xmain_5, rg_xmain_6, rg_xmain_7, ty_xaqueduct, ty_xdiary, ty_xforesight, ty_ximages, ty_xmain, ty_xnow, ty_xopinionReader, ty_xtape, ty_xtasters, ty_xthought, Option.toList_some, Option.toList_none, List.cons_append, List.nil_append, List.length_cons, List.length_nil, List.mem_cons, List.not_mem_nil, or_false, false_or, or_true, true_or, ↓reduceIte, true_and, and_true, Nat.reduceEqDiff, Nat.reduceAdd, Nat.reduceLeDiff, Nat.reduceLT, dl_i, dl_r, dl_n, dl_u, eq_self, not_true_eq_false, not_false_eq_true, n10, n01, nm0, n0m, ty82, ln82, i3, eK, imp_t, imp_f]
  have hms : Ms J K := fun i a c => by rw [h1 i (by omega) (by unfold idO at hov; omega) (by omega), eo i (by omega)]
  have hsq : SQ rw' J K ∧ K 0 = J 0 ∧ K 500002 = J 500002 := by
    refine ⟨⟨fun i _ _ c _ _ => ?_, fun j _ => by rw [hms 500000 (by omega) (by omega)], ?_⟩, ?_, hms 500002 (by omega) (by omega)⟩
    · rw [h1 i (fun e => c (Or.inl (by omega))) (fun e => c (Or.inr (Or.inl ⟨op w, hov, e⟩))) (fun e => c (by unfold sX; omega)), eo i (fun e => c (Or.inl (by omega)))]
    · rw [h1 0 (by omega) (by unfold idO at hov; omega) (by omega), eo 0 (by omega)]
    · rw [h1 0 (by omega) (by unfold idO at hov; omega) (by omega), eo 0 (by omega)]
  have k40 : K 500004 0 = nI S.1.1 := by rw [hms 500004 (by omega) (by omega)]; exact h40
  refine hk _ K E (fun Γ l d kr kx hk2 => c_thinks (hVS.t hms.t) (fun c => absurd (vim k40 s9 hw rfl) c) (fun _ c => absurd ⟨c1, c2, c3, c4, c5, c6⟩ c) (fun w' hb' pm a1 a2 a3 a4 a5 a6 a7 M hM hz => ?_))
  rw [nI_eq (by omega) (by omega)] at a2 a4
  subst a2; subst a4
  have hMO := r1.1.2.2.2
  obtain ⟨o1, -, -, -, -, o6⟩ := hMO w hw
  rw [hms 500067 (by omega) (by omega), o1, nI_eq (by omega) (by omega)] at a6
  have ekn : knT K w wa mi ru0 sa dy = kn := by rw [hkn]; unfold knT; rw [hms (500016 + w) (by omega) (by omega)]
  have ea : thF K w hb (knT K w wa mi ru0 sa dy) pm = cuA (pkS S kn w) (PS w) (fun _ => nI 0) hb := by
    rw [ekn, thF_c, cuA_c, ← a6, nI_zero, Int32.zero_add]
    refine smI_c _ (fun p' hp => ?_)
    obtain ⟨x', hx, hm', h3, ecl, hwf, -⟩ := hMO.h3 hw (by omega : p' < (PS w).length)
    rw [hx]
    show _ = if x'.1 = hb then pkS S kn w x' else nI 0
    have e7 := (hMO w hw).2.1 p' x' hx
    rw [hms (500070 + w) (by omega) (by omega), e7.1, pkS_x r1.1.2.1 hS hMO hw hx]
    have e8 : pvl K kn w p' = pvl J kn w p' := pvl_t hms.t i9
    rw [e8]
    by_cases c : x'.1 = hb
    · rw [if_pos c, if_pos (by rw [c])]
    · rw [if_neg c, if_neg (fun z => c ((nI_eq (by omega) (by omega)).mp z))]
      rfl
  rw [ea]
  exact hk2 M (hG0.sq r9.1 (hsq.1.tr hM.q) (by rw [hM.1 0 (by decide) (scA_n (by omega)), hsq.2.1]) (by rw [hM.1 500002 (by decide) (by unfold scA; omega), hsq.2.2])) hz

theorem XR.sq {rw' qq : Nat} {J K : Iv} (hq : 1000000 ≤ qq) (h : XR qq J K) (h5 : qq = rw' ∨ K qq = J qq) : SQ rw' J K ∧ K 0 = J 0 ∧ K 500002 = J 500002 := by
  refine ⟨⟨fun i _ _ c _ _ => ?_, fun j _ => by rw [h 500000 (by omega) (by omega) (idV_n (by omega)) (by omega)], by rw [h 0 (by omega) (by omega) (idV_n (by omega)) (by omega)]⟩, h 0 (by omega) (by omega) (idV_n (by omega)) (by omega), h 500002 (by omega) (by omega) (idV_n (by omega)) (by omega)⟩
  by_cases e : i = qq
  · rcases h5 with h5 | h5
    · exact absurd (show sX rw' i by unfold sX; omega) c
    · rw [e]; exact h5
  · exact h i (fun z => c (Or.inl z)) (fun z => c (by unfold sX; omega)) (fun z => c (Or.inr (Or.inl z))) e

theorem g_round {q z : Nat} {J : Iv} {E : Ev} {x : Int32} (h : GS q z J E) : StX1 mH_round mM_round [.int x] 1 q z J E := by
  have hG0 := h
  obtain ⟨S, PS, t, op, bk, kb, n, n0, p, c, mk, tp, im, nim, rw', r1, r2, r3, r4, r5, r6, r7, r8, r9⟩ := h
  have hS := r1.1.1.2.2.2.1
  have s9 := hS.1
  have hVS := r1.1.2.2.1
  have hq32 := r4.1.1
  obtain ⟨g3, hT, hXt, -⟩ := id r1.1.1
  have tT : tyc shN E t = 10 := (hT.A (b := true) (E := E)).1
  have v7 := hXt.1
  have h40 := hVS.1
  have hask : ∀ K, Ms J K → ∀ v, v < S.1.1 → K 500068 v = nI 0 ∨ K 500068 v = nI 1 := fun K hm v hv => by
    rw [hm 500068 (by omega) (by omega), r1.2.2.2.1 v hv]
    by_cases cc : 1004 ∈ stA (PS v)
    · exact Or.inr (bi_t cc)
    · exact Or.inl (bi_f cc)
  by_cases hin : nI 0 ≤ x ∧ x ≤ nI 1
  rotate_left
  · refine ⟨(1, 6), q, z, Cst.x, hq32, fun Γ l d kr kx hG _ hxI => ?_⟩
    refine ex_of (ls0 := [some (.ref 0), some (.int x)]) tH_round (by decide +kernel) kH_round rfl (Nat.le_of_ble_eq_true rfl) rfl ?_
    intro go hgo
    refine hgo 20 [] 0 _ _ _ _ _ ?_
    simp only [ixr_of, run_s, run_0, rH_round, rok_i, rok_z, bx_cons, bx_nil, eC0, eC1, eCV1, eCV3, eGI, eGO, eGR, jIFne, eLA0, eLI1, eRI, fH_round_0, fH_round_22, fH_round_32, fH_round_39, bH_round_0, bH_round_22, bH_round_32, bH_round_39, ln_ximages, ln_xthought, rg_xmain_0, rg_xmain_1, rg_xmain_10, rg_xmain_2, rg_xmain_3, rg_xmain_4, rg_xmain_5, rg_xmain_6, rg_xmain_7, ty_xaqueduct, ty_xdiary, ty_xforesight, ty_ximages, ty_xmain, ty_xnow, ty_xopinionReader, ty_xtape, ty_xtasters, ty_xthought, Option.toList_some, Option.toList_none, List.cons_append, List.nil_append, List.length_cons, List.length_nil, List.mem_cons, List.not_mem_nil, or_false, false_or, or_true, true_or, ↓reduceIte, true_and, and_true, Nat.reduceEqDiff, Nat.reduceAdd, Nat.reduceLeDiff, Nat.reduceLT, dl_i, dl_r, dl_n, dl_u, eq_self, not_true_eq_false, not_false_eq_true, n10, n01, nm0, n0m, imp_t, imp_f]
    refine ⟨1, 6, fun _ => Nat.le_refl _, fun _ => Nat.le_refl _, x_needInX hG.1.1 hG.2.1 hG.2.2 hin (hxI _ _ (fun Γ l d kr kx hk => ?_))⟩
    exact c_round (hVS.t say0) (hask _ (fun i a c => by funext j; exact up_n (by omega))) (fun _ => hk _ (hG0.rf (rn := 1) (w := 1) (by decide)).1.un (hG0.rf (rn := 1) (w := 1) (by decide)).2) (fun c _ => absurd c hin) (fun k a e => absurd (by rw [e]; exact rgI (by omega) (by omega) (by decide)) hin) (fun c _ => absurd c hin)
  obtain ⟨k0, hk1, rfl⟩ := rng (by decide) hin
  have hn9 := r3.2.1
  have c0' : (nI k0 = nI 0) = (k0 = 0) := nIe (by omega) (by decide)
  have hsz : ∀ K, Ms J K → ∀ v, v < S.1.1 → (K 500068 v = nI 0 ↔ ¬ 1004 ∈ stA (PS v)) := fun K hm v hv => by
    rw [hm 500068 (by omega) (by omega), r1.2.2.2.1 v hv]
    by_cases cc : 1004 ∈ stA (PS v)
    · rw [bi_t cc]; exact ⟨fun c => absurd c n10, fun c => absurd cc c⟩
    · rw [bi_f cc]; exact ⟨fun _ => cc, fun _ => rfl⟩
  by_cases ha : ∃ v, v < S.1.1 ∧ 1004 ∈ stA (PS v)
  · -- someone asks the day
    refine ⟨(0, 0), q, z, Cst.no, hq32, fun Γ l d kr kx hG hk _ => ?_⟩
    refine ex_of (ls0 := [some (.ref 0), some (.int (nI k0))]) tH_round (by decide +kernel) kH_round rfl (Nat.le_of_ble_eq_true rfl) rfl ?_
    intro go hgo
    refine hgo 20 [] 0 _ _ _ _ _ ?_
    simp only [ixr_of, run_s, run_0, rH_round, rok_i, rok_z, bx_cons, bx_nil, eC0, eC1, eCV1, eCV3, eGI, eGO, eGR, jIFne, eLA0, eLI1, eRI, fH_round_0, fH_round_22, fH_round_32, fH_round_39, bH_round_0, bH_round_22, bH_round_32, bH_round_39, ln_ximages, ln_xthought, rg_xmain_0, rg_xmain_1, rg_xmain_10, rg_xmain_2, rg_xmain_3, rg_xmain_4, rg_xmain_5, rg_xmain_6, rg_xmain_7, ty_xaqueduct, ty_xdiary, ty_xforesight, ty_ximages, ty_xmain, ty_xnow, ty_xopinionReader, ty_xtape, ty_xtasters, ty_xthought, Option.toList_some, Option.toList_none, List.cons_append, List.nil_append, List.length_cons, List.length_nil, List.mem_cons, List.not_mem_nil, or_false, false_or, or_true, true_or, ↓reduceIte, true_and, and_true, Nat.reduceEqDiff, Nat.reduceAdd, Nat.reduceLeDiff, Nat.reduceLT, dl_i, dl_r, dl_n, dl_u, eq_self, not_true_eq_false, not_false_eq_true, n10, n01, nm0, n0m, imp_t, imp_f]
    refine call0 (x_needIn hin ?_)
    simp only [ixr_of, run_s, run_0, rH_round, rok_i, rok_z, bx_cons, bx_nil, eC0, eC1, eCV1, eCV3, eGI, eGO, eGR, jIFne, eLA0, eLI1, eRI, fH_round_0, fH_round_22, fH_round_32, fH_round_39, bH_round_0, bH_round_22, bH_round_32, bH_round_39, ln_ximages, ln_xthought, rg_xmain_0, rg_xmain_1, rg_xmain_10, rg_xmain_2, rg_xmain_3, rg_xmain_4, rg_xmain_5, rg_xmain_6, rg_xmain_7, ty_xaqueduct, ty_xdiary, ty_xforesight, ty_ximages, ty_xmain, ty_xnow, ty_xopinionReader, ty_xtape, ty_xtasters, ty_xthought, Option.toList_some, Option.toList_none, List.cons_append, List.nil_append, List.length_cons, List.length_nil, List.mem_cons, List.not_mem_nil, or_false, false_or, or_true, true_or, ↓reduceIte, true_and, and_true, Nat.reduceEqDiff, Nat.reduceAdd, Nat.reduceLeDiff, Nat.reduceLT, dl_i, dl_r, dl_n, dl_u, eq_self, not_true_eq_false, not_false_eq_true, n10, n01, nm0, n0m, imp_t, imp_f]
    have fr : ∀ K, XR 1000000 J K → (∀ i, 1000000 ≤ i → K i = J i) → K 47 4 = -1 → K 47 5 = -1 → MAns mM_round [.ref 500000, .int (nI k0)] (-1) 0 q z K E := by
      intro K hX hb k4 k5 Γ l d kr kx hk2
      have hm : Ms J K := fun i a c => hX i (by omega) (by omega) (idV_n (by omega)) (by omega)
      refine c_round (hVS.t hm.t) (hask K hm) (fun c => absurd hin c) (fun _ _ => ?_) (fun w' a1 a2 a3 => ?_) (fun _ a3 => ?_)
      · obtain ⟨b1, b2, b3⟩ := hX.sq (rw' := rw') (Nat.le_refl _) (Or.inr (hb _ (Nat.le_refl _)))
        exact hk2 _ (hG0.sq r9.1 b1.th (by rw [← b2]; funext j; exact up_n (by omega)) (by rw [← b3]; funext j; exact up_n (by omega))) up_s
      · obtain ⟨v, hv, hs⟩ := ha
        exact absurd hs ((hsz K hm v hv).mp (a3 v hv))
      · obtain ⟨v, hv, hs⟩ := ha
        exact absurd hs ((hsz K hm v hv).mp (a3 v hv))
    refine call0 (x_findRound hG.1 r1.1 r3.1 (by omega) r9.1 (M := (0, 0)) (fun hno => absurd ha (fun ⟨v, hv, hs⟩ => hno v hv hs)) (fun _ K hX hb k4 k5 => ?_) (fun hno => absurd ha (fun ⟨v, hv, hs⟩ => hno v hv hs)) r9.2.1)
    simp only [ixr_of, run_s, run_0, rH_round, rok_i, rok_z, bx_cons, bx_nil, eC0, eC1, eCV1, eCV3, eGI, eGO, eGR, jIFne, eLA0, eLI1, eRI, fH_round_0, fH_round_22, fH_round_32, fH_round_39, bH_round_0, bH_round_22, bH_round_32, bH_round_39, ln_ximages, ln_xthought, rg_xmain_0, rg_xmain_1, rg_xmain_10, rg_xmain_2, rg_xmain_3, rg_xmain_4, rg_xmain_5, rg_xmain_6, rg_xmain_7, ty_xaqueduct, ty_xdiary, ty_xforesight, ty_ximages, ty_xmain, ty_xnow, ty_xopinionReader, ty_xtape, ty_xtasters, ty_xthought, Option.toList_some, Option.toList_none, List.cons_append, List.nil_append, List.length_cons, List.length_nil, List.mem_cons, List.not_mem_nil, or_false, false_or, or_true, true_or, ↓reduceIte, true_and, and_true, Nat.reduceEqDiff, Nat.reduceAdd, Nat.reduceLeDiff, Nat.reduceLT, dl_i, dl_r, dl_n, dl_u, eq_self, not_true_eq_false, not_false_eq_true, n10, n01, nm0, n0m, c0', k4, k5, imp_t, imp_f]
    exact ⟨fun _ => hk _ K E (fr K hX hb k4 k5), fun _ => hk _ K E (fr K hX hb k4 k5)⟩
  · have hno : ∀ v, v < S.1.1 → ¬ 1004 ∈ stA (PS v) := fun v hv hs => ha ⟨v, hv, hs⟩
    have hz1 : z ≤ 1 := by rw [r9.2.2]; split <;> omega
    refine ⟨(z, 81405 * z), q, 0, by unfold Cst; dsimp only; omega, hq32, fun Γ l d kr kx hG hk _ => ?_⟩
    refine ex_of (ls0 := [some (.ref 0), some (.int (nI k0))]) tH_round (by decide +kernel) kH_round rfl (Nat.le_of_ble_eq_true rfl) rfl ?_
    intro go hgo
    refine hgo 20 [] 0 _ _ _ _ _ ?_
    simp only [ixr_of, run_s, run_0, rH_round, rok_i, rok_z, bx_cons, bx_nil, eC0, eC1, eCV1, eCV3, eGI, eGO, eGR, jIFne, eLA0, eLI1, eRI, fH_round_0, fH_round_22, fH_round_32, fH_round_39, bH_round_0, bH_round_22, bH_round_32, bH_round_39, ln_ximages, ln_xthought, rg_xmain_0, rg_xmain_1, rg_xmain_10, rg_xmain_2, rg_xmain_3, rg_xmain_4, rg_xmain_5, rg_xmain_6, rg_xmain_7, ty_xaqueduct, ty_xdiary, ty_xforesight, ty_ximages, ty_xmain, ty_xnow, ty_xopinionReader, ty_xtape, ty_xtasters, ty_xthought, Option.toList_some, Option.toList_none, List.cons_append, List.nil_append, List.length_cons, List.length_nil, List.mem_cons, List.not_mem_nil, or_false, false_or, or_true, true_or, ↓reduceIte, true_and, and_true, Nat.reduceEqDiff, Nat.reduceAdd, Nat.reduceLeDiff, Nat.reduceLT, dl_i, dl_r, dl_n, dl_u, eq_self, not_true_eq_false, not_false_eq_true, n10, n01, nm0, n0m, imp_t, imp_f]
    refine call0 (x_needIn hin ?_)
    simp only [ixr_of, run_s, run_0, rH_round, rok_i, rok_z, bx_cons, bx_nil, eC0, eC1, eCV1, eCV3, eGI, eGO, eGR, jIFne, eLA0, eLI1, eRI, fH_round_0, fH_round_22, fH_round_32, fH_round_39, bH_round_0, bH_round_22, bH_round_32, bH_round_39, ln_ximages, ln_xthought, rg_xmain_0, rg_xmain_1, rg_xmain_10, rg_xmain_2, rg_xmain_3, rg_xmain_4, rg_xmain_5, rg_xmain_6, rg_xmain_7, ty_xaqueduct, ty_xdiary, ty_xforesight, ty_ximages, ty_xmain, ty_xnow, ty_xopinionReader, ty_xtape, ty_xtasters, ty_xthought, Option.toList_some, Option.toList_none, List.cons_append, List.nil_append, List.length_cons, List.length_nil, List.mem_cons, List.not_mem_nil, or_false, false_or, or_true, true_or, ↓reduceIte, true_and, and_true, Nat.reduceEqDiff, Nat.reduceAdd, Nat.reduceLeDiff, Nat.reduceLT, dl_i, dl_r, dl_n, dl_u, eq_self, not_true_eq_false, not_false_eq_true, n10, n01, nm0, n0m, imp_t, imp_f]
    refine ⟨z, 81405 * z, fun _ => by show 0 + z ≤ z; omega, fun _ => by show 0 + 81405 * z ≤ 81405 * z; omega, x_findRound hG.1 r1.1 r3.1 (by omega) r9.1 (fun _ e => ?_) (fun hs => absurd hs ha) (fun _ K E' qq hX hR hqq _ hE h9' hP => ?_) r9.2.1⟩
    · have : z = 1 := by rw [r9.2.2, if_pos e]
      subst this
      exact ⟨Nat.le_refl _, Nat.le_refl _⟩
    · have hm : Ms J K := fun i a c => hX i (by omega) (by omega) (idV_n (by omega)) (by omega)
      obtain ⟨b1, b2, b3⟩ := hX.sq (rw' := qq) hqq (Or.inl rfl)
      have hG1 : GS q 0 J E' := ⟨S, PS, t, op, bk, kb, n, n0, p, c, mk, tp, im, nim, qq, r1.ex hE (by omega) (fun _ _ => by omega) (by omega) (by omega), r2.ex hE (by omega) (by omega), r3, r4.ex hE (fun _ => by omega) (fun _ _ _ => by omega), r5, r6, r7, r8, ⟨hR, h9', by rw [if_neg (by omega)]⟩⟩
      have hGL : ∀ L, MP K L → GS q 0 L E' := fun L hL => hG1.sq hR (b1.tr hL.q) (by rw [hL.1 0 (by decide) (scA_n (by omega)), b2]) (by rw [hL.1 500002 (by decide) (by unfold scA; omega), b3])
      have eg : ∀ m, gR K S.1.1 S.1.2 (pmN K) (K 500124) m = gR J S.1.1 S.1.2 (pmN J) (J 500124) m := fun m => by rw [hm 500124 (by omega) (by omega), hm.g hS (pmX_N s9 hm)]
      have key : ∀ a, a = (if k0 = 0 then K 47 4 else K 47 5) → MAns mM_round [.ref 500000, .int (nI k0)] a 0 q 0 K E' := by
        intro a ea Γ l d kr kx hk2
        refine c_round (hVS.t hm.t) (hask K hm) (fun c => absurd hin c) (fun _ ⟨v, hv, hs⟩ => absurd ((hsz K hm v hv).mpr (hno v hv)) hs) (fun w' a1 a2 a3 nn mm n1 n2 n3 n4 n5 L hL hz => ?_) (fun _ a3 n5 L hL hz => ?_)
        · rw [nI_eq (by omega) (by omega)] at a2
          subst a2
          simp only [eg, asP_mp s9 hm.t] at n3 n4 n5
          have : a = (if k0 = 0 then nI nn else nI (nn - mm)) := by
            rcases hP with ⟨n', m', p1, p2, p3, p4, p5, p6, p7⟩ | ⟨p1, p6, p7⟩
            · have en : n' = nn := by
                by_cases z1 : n' < nn
                · exact absurd p3 (n5 n' m' z1 p2)
                · by_cases z2 : nn < n'
                  · exact absurd n3 (p5 nn mm z2 n2)
                  · omega
              subst en
              have em : m' = mm := by
                by_cases z1 : m' < mm
                · exact absurd p3 (n4 m' z1)
                · by_cases z2 : mm < m'
                  · exact absurd n3 (p4 mm z2)
                  · omega
              subst em
              rw [ea, p6, p7]
            · exact absurd n3 (p1 nn mm n1 n2)
          rw [← this]
          exact hk2 L (hGL L hL) hz
        · simp only [eg, asP_mp s9 hm.t] at n5
          have : a = -1 := by
            rcases hP with ⟨n', m', p1, p2, p3, p4, p5, p6, p7⟩ | ⟨p1, p6, p7⟩
            · exact absurd p3 (n5 n' m' p1 p2)
            · rw [ea, p6, p7, ite_self]
          rw [← this]
          exact hk2 L (hGL L hL) hz
      simp only [ixr_of, run_s, run_0, rH_round, rok_i, rok_z, bx_cons, bx_nil, eC0, eC1, eCV1, eCV3, eGI, eGO, eGR, jIFne, eLA0, eLI1, eRI, fH_round_0, fH_round_22, fH_round_32, fH_round_39, bH_round_0, bH_round_22, bH_round_32, bH_round_39, ln_ximages, ln_xthought, rg_xmain_0, rg_xmain_1, rg_xmain_10, rg_xmain_2, rg_xmain_3, rg_xmain_4, rg_xmain_5, rg_xmain_6, rg_xmain_7, ty_xaqueduct, ty_xdiary, ty_xforesight, ty_ximages, ty_xmain, ty_xnow, ty_xopinionReader, ty_xtape, ty_xtasters, ty_xthought, Option.toList_some, Option.toList_none, List.cons_append, List.nil_append, List.length_cons, List.length_nil, List.mem_cons, List.not_mem_nil, or_false, false_or, or_true, true_or, ↓reduceIte, true_and, and_true, Nat.reduceEqDiff, Nat.reduceAdd, Nat.reduceLeDiff, Nat.reduceLT, dl_i, dl_r, dl_n, dl_u, eq_self, not_true_eq_false, not_false_eq_true, n10, n01, nm0, n0m, c0', imp_t, imp_f]
      refine ⟨fun zz => ?_, fun zz => ?_⟩
      · exact hk _ K E' (key _ (by rw [if_neg zz]))
      · exact hk _ K E' (key _ (by rw [if_pos zz]))
