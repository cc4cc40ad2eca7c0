/-! public methods, 3 -/
section Mcg
variable {J K : Iv} {S : Tn}
/-- the same model -/
def Ms (J K : Iv) : Prop := ∀ i, 500000 ≤ i → i < 1000000 → K i = J i
theorem Ms.t (h : Ms J K) : SayT J K := fun i hi => h i (by unfold tw at hi; omega) (by unfold tw at hi; omega)
theorem Ms.g {P R : Pm} {r : Nat → Int32} {m : Nat} (h : Ms J K) (hS : TnV S) (hP : Pe S.1.1 P R) : gR K S.1.1 S.1.2 P r m = gR J S.1.1 S.1.2 R r m := by
  unfold gR
  rw [it2_t h.t hS.1 hS.2.1, it2_pe hP]
theorem Ms.pw {x : Int32} (h : Ms J K) (s9 : S.1.1 ≤ 9) : Pe S.1.1 (pmW K x) (pmW J x) := by
  have := pmX_N (S := S) s9 h
  refine ⟨fun v hv => ⟨rfl, (this.1 v hv).2.1, (this.1 v hv).2.2⟩, rfl⟩
theorem wB_ms {m : Nat} (h : Ms J K) (hS : TnV S) : ∀ k, wB K S.1.1 S.1.2 m k = wB J S.1.1 S.1.2 m k
  | 0 => rfl
  | k + 1 => by
    unfold wB
    rw [wB_ms h hS k, h 500000 (by omega) (by omega), h 500124 (by omega) (by omega), h.g hS (h.pw hS.1)]
theorem Ms.pf {w hb : Nat} {c : Int32} (h : Ms J K) (s9 : S.1.1 ≤ 9) : Pe S.1.1 (plS (K 500000 37), coS (K 500000 38), snM K w hb c, nI 0) (plS (J 500000 37), coS (J 500000 38), snM J w hb c, nI 0) := by
  have := pmX_N (S := S) s9 h
  refine ⟨fun v hv => ⟨(this.1 v hv).1, (this.1 v hv).2.1, fun k hk => ?_⟩, rfl⟩
  show snM K w hb c v k = snM J w hb c v k
  unfold snM
  rw [show snG K v k = snG J v k from (this.1 v hv).2.2 k hk]
theorem lsF_ms {v m : Nat} {c : Int32} (h : Ms J K) (hS : TnV S) : ∀ k, lsF K S.1.1 S.1.2 v m c k = lsF J S.1.1 S.1.2 v m c k
  | 0 => by
    show c * K 500123 v * nI m = c * J 500123 v * nI m
    rw [h 500123 (by omega) (by omega)]
  | k + 1 => by
    show lsF K S.1.1 S.1.2 v m c k + _ = lsF J S.1.1 S.1.2 v m c k + _
    rw [lsF_ms h hS k, h 500124 (by omega) (by omega), h.g hS (pmX_N hS.1 h)]
theorem Ms.gi {v g : Nat} (h : Ms J K) : Ms (gI J v g) (gI K v g) := fun i a b => by
  funext j
  unfold gI
  by_cases e : i = 500123 ∧ j = v
  · rw [e.1, e.2, up_s, up_s]
  · rw [up_n e, up_n e, h i a b]
theorem wsN_ms {v m : Nat} {c : Int32} (h : Ms J K) (hS : TnV S) : ∀ k, wsN K S.1.1 S.1.2 v m c k = wsN J S.1.1 S.1.2 v m c k
  | 0 => rfl
  | k + 1 => by
    unfold wsN
    rw [wsN_ms h hS k, lsF_ms h.gi hS]
theorem Ms.pd {x : Int32} (h : Ms J K) (s9 : S.1.1 ≤ 9) : Pe S.1.1 (pmD K x) (pmD J x) := by
  have := pmX_N (S := S) s9 h
  refine ⟨fun v hv => ⟨(this.1 v hv).1, (this.1 v hv).2.1, (this.1 v hv).2.2⟩, rfl⟩
theorem Ms.xf {y : Nat} (hy : y = 48 ∨ y = 59) (h : XF y J K) : Ms J K := h.m hy
theorem dw_ms {x : Int32} {qq : Int32} {m : Nat} (h : Ms J K) (hS : TnV S) : dwS K S.1.1 S.1.2 (pmD K qq) (K 500124, x) m = dwS J S.1.1 S.1.2 (pmD J qq) (J 500124, x) m ∧ (it2 K S.1.1 S.1.2 (pmD K qq) (K 500124, x) m).1 = (it2 J S.1.1 S.1.2 (pmD J qq) (J 500124, x) m).1 := by
  rw [h 500124 (by omega) (by omega)]
  refine ⟨dwS_c hS.1 hS.2.1 h.t (h.pd hS.1) m, ?_⟩
  rw [it2_t h.t hS.1 hS.2.1, it2_pe (h.pd hS.1)]
end Mcg

theorem g_whom {q z : Nat} {J : Iv} {E : Ev} {x : Int32} (h : GS q z J E) : StX1 mH_whom mM_whom [.int x] 1 q z J E := by
  have hG0 := h
  obtain ⟨S, PS, t, op, bk, kb, n, n0, p, c, mk, tp, im, nim, rw', r1, r2, r3, r4, r5, r6, r7, r8, r9⟩ := h
  have hS := r1.1.1.2.2.2.1
  have s9 := hS.1
  have hVS := r1.1.2.2.1
  have hq32 := r4.1.1
  obtain ⟨g3, hT, hXt, -⟩ := id r1.1.1
  have tT : tyc shN E t = 10 := (hT.A (b := true) (E := E)).1
  have v7 := hXt.1
  have h40 := hVS.1
  by_cases hin : nI 1 ≤ x ∧ x ≤ nI 60
  rotate_left
  · refine ⟨(1, 6), q, z, Cst.x, hq32, fun Γ l d kr kx hG _ hxI => ?_⟩
    refine ex_of (ls0 := [some (.ref 0), some (.int x)]) tH_whom (by decide +kernel) kH_whom rfl (Nat.le_of_ble_eq_true rfl) rfl ?_
    intro go hgo
    refine hgo 20 [] 0 _ _ _ _ _ ?_
    simp only [ixr_of, run_s, run_0, rH_whom, rok_i, rok_z, bx_cons, bx_nil, eBP, eC1, eCV2, eCV3, eGR, eLA0, eLI1, eRI, fH_whom_0, bH_whom_0, ln_ximages, ln_xthought, rg_xmain_0, rg_xmain_1, rg_xmain_10, rg_xmain_2, rg_xmain_3, rg_xmain_4, rg_xmain_5, rg_xmain_6, rg_xmain_7, ty_xaqueduct, ty_xdiary, ty_xforesight, ty_ximages, ty_xmain, ty_xnow, ty_xopinionReader, ty_xtape, ty_xtasters, ty_xthought, Option.toList_some, Option.toList_none, List.cons_append, List.nil_append, List.length_cons, List.length_nil, List.mem_cons, List.not_mem_nil, or_false, false_or, or_true, true_or, ↓reduceIte, true_and, and_true, Nat.reduceEqDiff, Nat.reduceAdd, Nat.reduceLeDiff, Nat.reduceLT, dl_i, dl_r, dl_n, dl_u, eq_self, not_true_eq_false, not_false_eq_true, n10, n01, nm0, n0m, imp_t, imp_f]
    refine ⟨1, 6, fun _ => Nat.le_refl _, fun _ => Nat.le_refl _, x_needInX hG.1.1 hG.2.1 hG.2.2 hin (hxI _ _ (fun Γ l d kr kx hk => ?_))⟩
    exact c_whom (hVS.t say0) (fun _ => hk _ (hG0.rf (rn := 1) (w := 1) (by decide)).1.un (hG0.rf (rn := 1) (w := 1) (by decide)).2) (fun k a b e => absurd (by rw [e]; exact rgI (by omega) (by omega) (by decide)) hin)
  obtain ⟨k0, hk1, hk9, rfl⟩ := rng1 (by decide) hin
  refine ⟨(0, 0), q, z, Cst.no, hq32, fun Γ l d kr kx hG hk _ => ?_⟩
  refine ex_of (ls0 := [some (.ref 0), some (.int (nI k0))]) tH_whom (by decide +kernel) kH_whom rfl (Nat.le_of_ble_eq_true rfl) rfl ?_
  intro go hgo
  refine hgo 20 [] 0 _ _ _ _ _ ?_
  simp only [ixr_of, run_s, run_0, rH_whom, rok_i, rok_z, bx_cons, bx_nil, eBP, eC1, eCV2, eCV3, eGR, eLA0, eLI1, eRI, fH_whom_0, bH_whom_0, ln_ximages, ln_xthought, rg_xmain_0, rg_xmain_1, rg_xmain_10, rg_xmain_2, rg_xmain_3, rg_xmain_4, rg_xmain_5, rg_xmain_6, rg_xmain_7, ty_xaqueduct, ty_xdiary, ty_xforesight, ty_ximages, ty_xmain, ty_xnow, ty_xopinionReader, ty_xtape, ty_xtasters, ty_xthought, Option.toList_some, Option.toList_none, List.cons_append, List.nil_append, List.length_cons, List.length_nil, List.mem_cons, List.not_mem_nil, or_false, false_or, or_true, true_or, ↓reduceIte, true_and, and_true, Nat.reduceEqDiff, Nat.reduceAdd, Nat.reduceLeDiff, Nat.reduceLT, dl_i, dl_r, dl_n, dl_u, eq_self, not_true_eq_false, not_false_eq_true, n10, n01, nm0, n0m, imp_t, imp_f]
  refine call0 (x_needIn hin ?_)
  simp only [ixr_of, run_s, run_0, rH_whom, rok_i, rok_z, bx_cons, bx_nil, eBP, eC1, eCV2, eCV3, eGR, eLA0, eLI1, eRI, fH_whom_0, bH_whom_0, ln_ximages, ln_xthought, rg_xmain_0, rg_xmain_1, rg_xmain_10, rg_xmain_2, rg_xmain_3, rg_xmain_4, rg_xmain_5, rg_xmain_6, rg_xmain_7, ty_xaqueduct, ty_xdiary, ty_xforesight, ty_ximages, ty_xmain, ty_xnow, ty_xopinionReader, ty_xtape, ty_xtasters, ty_xthought, Option.toList_some, Option.toList_none, List.cons_append, List.nil_append, List.length_cons, List.length_nil, List.mem_cons, List.not_mem_nil, or_false, false_or, or_true, true_or, ↓reduceIte, true_and, and_true, Nat.reduceEqDiff, Nat.reduceAdd, Nat.reduceLeDiff, Nat.reduceLT, dl_i, dl_r, dl_n, dl_u, eq_self, not_true_eq_false, not_false_eq_true, n10, n01, nm0, n0m, imp_t, imp_f]
  have hn9 := r3.2.1
  refine call0 (x_leastPleased hG.1 r1.1 r3.1 (by omega) r3.2.2.1 r3.2.2.2.1 (fun K hX => ?_))
  simp only [ixr_of, run_s, run_0, rH_whom, rok_i, rok_z, bx_cons, bx_nil, eBP, eC1, eCV2, eCV3, eGR, eLA0, eLI1, eRI, fH_whom_0, bH_whom_0, ln_ximages, ln_xthought, rg_xmain_0, rg_xmain_1, rg_xmain_10, rg_xmain_2, rg_xmain_3, rg_xmain_4, rg_xmain_5, rg_xmain_6, rg_xmain_7, ty_xaqueduct, ty_xdiary, ty_xforesight, ty_ximages, ty_xmain, ty_xnow, ty_xopinionReader, ty_xtape, ty_xtasters, ty_xthought, Option.toList_some, Option.toList_none, List.cons_append, List.nil_append, List.length_cons, List.length_nil, List.mem_cons, List.not_mem_nil, or_false, false_or, or_true, true_or, ↓reduceIte, true_and, and_true, Nat.reduceEqDiff, Nat.reduceAdd, Nat.reduceLeDiff, Nat.reduceLT, dl_i, dl_r, dl_n, dl_u, eq_self, not_true_eq_false, not_false_eq_true, n10, n01, nm0, n0m, imp_t, imp_f]
  have hm := Ms.xf (Or.inl rfl) hX
  refine hk _ K E (fun Γ l d kr kx hk2 => c_whom (hVS.t hm.t) (fun c => absurd hin c) (fun m m1 m2 e L hL hz => ?_))
  rw [nI_eq (by omega) (by omega)] at e
  subst e
  rw [wB_ms hm hS]
  exact hk2 L (hG0.fm (Or.inl rfl) hX hL) hz

theorem g_feast {q z : Nat} {J : Iv} {E : Ev} (h : GS q z J E) : StX0 mH_feast mM_feast [] q z J E := by
  have hG0 := h
  obtain ⟨S, PS, t, op, bk, kb, n, n0, p, c, mk, tp, im, nim, rw', r1, r2, r3, r4, r5, r6, r7, r8, r9⟩ := h
  have hS := r1.1.1.2.2.2.1
  have s9 := hS.1
  have hVS := r1.1.2.2.1
  have hq32 := r4.1.1
  obtain ⟨g3, hT, hXt, -⟩ := id r1.1.1
  have tT : tyc shN E t = 10 := (hT.A (b := true) (E := E)).1
  have v7 := hXt.1
  have h40 := hVS.1
  have hD := r3.1.2.1
  have ty71 : tyc shN E 71 = 3 := dyA_71.1
  obtain ⟨-, ⟨y0, y1, y2, y3, y4, y5, y6⟩, ⟨b1, b2, b3, b4, b5, b6, b7⟩, l1, l2, l3, l4, l5, l6, l7⟩ := (dyA_71 (b := true) (E := E))
  have hn9 := r3.2.1
  have X14 := hXt.2.2.2.2.1
  have e9 : J 71 9 = nI n := hD.2.1
  have hf60 := hS.2.2.2.2.1
  have key0 : ¬ (nI 1 ≤ nI S.2.1.2.2 - nI n ∧ nI S.2.1.2.2 - nI n ≤ nI 60) → MAns mM_feast [.ref 500000] (-1) 0 q z J E := fun hn Γ l d kr kx hk2 => c_feast hVS (fun _ => hk2 _ hG0.th up_s) (fun m a b e => by
    exfalso
    rw [r1.2.2.2.2.1, hD.2.2.1] at e
    exact hn (by rw [e]; exact rgI a b (by decide)))
  refine ⟨(0, 0), q, z, Cst.no, hq32, fun Γ l d kr kx hG hk => ?_⟩
  refine ex_of (ls0 := [some (.ref 0), none]) tH_feast (by decide +kernel) kH_feast rfl (Nat.le_of_ble_eq_true rfl) rfl ?_
  intro go hgo
  refine hgo 20 [34] 0 _ _ _ _ _ ?_
  simp only [ixr_of, run_s, run_0, rH_feast, rok_i, rok_z, bx_cons, bx_nil, eBP, eC1, eCV2, eCm1, eGI, eGO, eGR, jICle, jIClt, eLA0, eLI1, eRI, eSI1, eSUB, fH_feast_0, fH_feast_24, fH_feast_30, fH_feast_34, fH_feast_46, bH_feast_0, bH_feast_24, bH_feast_30, bH_feast_34, bH_feast_46, ln_ximages, ln_xthought, rg_xmain_0, rg_xmain_1, rg_xmain_10, rg_xmain_2, rg_xmain_3, rg_xmain_4, rg_xmain_5, rg_xmain_6, rg_xmain_7, ty_xaqueduct, ty_xdiary, ty_xforesight, ty_ximages, ty_xmain, ty_xnow, ty_xopinionReader, ty_xtape, ty_xtasters, ty_xthought, Option.toList_some, Option.toList_none, List.cons_append, List.nil_append, List.length_cons, List.length_nil, List.mem_cons, List.not_mem_nil, or_false, false_or, or_true, true_or, ↓reduceIte, true_and, and_true, Nat.reduceEqDiff, Nat.reduceAdd, Nat.reduceLeDiff, Nat.reduceLT, dl_i, dl_r, dl_n, dl_u, eq_self, not_true_eq_false, not_false_eq_true, n10, n01, nm0, n0m, g3, tT, X14, ty71, e9, imp_t, imp_f]
  refine ⟨fun z1 => ?_, fun z1 => ⟨fun z2 => ?_, fun z2 => ?_⟩⟩
  · exact hk _ J E (key0 (fun c => absurd c.1 (Int32.not_le.mpr z1)))
  · obtain ⟨m, m1, m2, em⟩ := rng1 (n := 60) (by decide) ⟨Int32.not_lt.mp z1, z2⟩
    rw [em]
    refine hgo 20 [] 34 _ _ _ _ _ ?_
    simp only [ixr_of, run_s, run_0, rH_feast, rok_i, rok_z, bx_cons, bx_nil, eBP, eC1, eCV2, eCm1, eGI, eGO, eGR, jICle, jIClt, eLA0, eLI1, eRI, eSI1, eSUB, fH_feast_0, fH_feast_24, fH_feast_30, fH_feast_34, fH_feast_46, bH_feast_0, bH_feast_24, bH_feast_30, bH_feast_34, bH_feast_46, ln_ximages, ln_xthought, rg_xmain_0, rg_xmain_1, rg_xmain_10, rg_xmain_2, rg_xmain_3, rg_xmain_4, rg_xmain_5, rg_xmain_6, rg_xmain_7, ty_xaqueduct, ty_xdiary, ty_xforesight, ty_ximages, ty_xmain, ty_xnow, ty_xopinionReader, ty_xtape, ty_xtasters, ty_xthought, Option.toList_some, Option.toList_none, List.cons_append, List.nil_append, List.length_cons, List.length_nil, List.mem_cons, List.not_mem_nil, or_false, false_or, or_true, true_or, ↓reduceIte, true_and, and_true, Nat.reduceEqDiff, Nat.reduceAdd, Nat.reduceLeDiff, Nat.reduceLT, dl_i, dl_r, dl_n, dl_u, eq_self, not_true_eq_false, not_false_eq_true, n10, n01, nm0, n0m, imp_t, imp_f]
    refine call0 (x_leastPleased hG.1 r1.1 r3.1 (by omega) r3.2.2.1 r3.2.2.2.1 (fun K hX => ?_))
    simp only [ixr_of, run_s, run_0, rH_feast, rok_i, rok_z, bx_cons, bx_nil, eBP, eC1, eCV2, eCm1, eGI, eGO, eGR, jICle, jIClt, eLA0, eLI1, eRI, eSI1, eSUB, fH_feast_0, fH_feast_24, fH_feast_30, fH_feast_34, fH_feast_46, bH_feast_0, bH_feast_24, bH_feast_30, bH_feast_34, bH_feast_46, ln_ximages, ln_xthought, rg_xmain_0, rg_xmain_1, rg_xmain_10, rg_xmain_2, rg_xmain_3, rg_xmain_4, rg_xmain_5, rg_xmain_6, rg_xmain_7, ty_xaqueduct, ty_xdiary, ty_xforesight, ty_ximages, ty_xmain, ty_xnow, ty_xopinionReader, ty_xtape, ty_xtasters, ty_xthought, Option.toList_some, Option.toList_none, List.cons_append, List.nil_append, List.length_cons, List.length_nil, List.mem_cons, List.not_mem_nil, or_false, false_or, or_true, true_or, ↓reduceIte, true_and, and_true, Nat.reduceEqDiff, Nat.reduceAdd, Nat.reduceLeDiff, Nat.reduceLT, dl_i, dl_r, dl_n, dl_u, eq_self, not_true_eq_false, not_false_eq_true, n10, n01, nm0, n0m, imp_t, imp_f]
    have hm := Ms.xf (Or.inl rfl) hX
    have k4 : K 500004 4 - K 500124 501 = nI m := by rw [hm 500004 (by omega) (by omega), hm 500124 (by omega) (by omega), r1.2.2.2.2.1, hD.2.2.1]; exact em
    refine hk _ K E (fun Γ l d kr kx hk2 => c_feast (hVS.t hm.t) (fun c => absurd (by rw [k4]; exact rgI m1 m2 (by decide)) c) (fun m' a b e L hL hz => ?_))
    rw [k4, nI_eq (by omega) (by omega)] at e
    subst e
    rw [wB_ms hm hS]
    exact hk2 L (hG0.fm (Or.inl rfl) hX hL) hz
  · exact hk _ J E (key0 (fun c => z2 c.2))

theorem g_filters {q z : Nat} {J : Iv} {E : Ev} {v x y : Int32} (h : GS q z J E) : StX mH_filters mM_filters [.int v, .int x, .int y] 1 2 q z J E := by
  have hG0 := h
  obtain ⟨S, PS, t, op, bk, kb, n, n0, p, c, mk, tp, im, nim, rw', r1, r2, r3, r4, r5, r6, r7, r8, r9⟩ := h
  have hS := r1.1.1.2.2.2.1
  have s9 := hS.1
  have hVS := r1.1.2.2.1
  have hq32 := r4.1.1
  obtain ⟨g3, hT, hXt, -⟩ := id r1.1.1
  have tT : tyc shN E t = 10 := (hT.A (b := true) (E := E)).1
  have v7 := hXt.1
  have h40 := hVS.1
  by_cases hv : ∃ w, w < S.1.1 ∧ v = nI w
  rotate_left
  · refine ⟨(1, 6), q, z, Cst.x, hq32, fun Γ l d kr kx hG _ hxN hxI => ?_⟩
    refine ex_of (ls0 := [some (.ref 0), some (.int v), some (.int x), some (.int y)]) tH_filters (by decide +kernel) kH_filters rfl (Nat.le_of_ble_eq_true rfl) rfl ?_
    intro go hgo
    refine hgo 20 [] 0 _ _ _ _ _ ?_
    simp only [ixr_of, run_s, run_0, rH_filters, rok_i, rok_z, bx_cons, bx_nil, eBP, eC0, eC1, eC2, eCV1, eCV3, eCV4, eGR, eLA0, eLI1, eLI2, eLI3, eRI, fH_filters_0, bH_filters_0, ln_ximages, ln_xthought, rg_xmain_0, rg_xmain_1, rg_xmain_10, rg_xmain_2, rg_xmain_3, rg_xmain_4, rg_xmain_5, rg_xmain_6, rg_xmain_7, ty_xaqueduct, ty_xdiary, ty_xforesight, ty_ximages, ty_xmain, ty_xnow, ty_xopinionReader, ty_xtape, ty_xtasters, ty_xthought, Option.toList_some, Option.toList_none, List.cons_append, List.nil_append, List.length_cons, List.length_nil, List.mem_cons, List.not_mem_nil, or_false, false_or, or_true, true_or, ↓reduceIte, true_and, and_true, Nat.reduceEqDiff, Nat.reduceAdd, Nat.reduceLeDiff, Nat.reduceLT, dl_i, dl_r, dl_n, dl_u, eq_self, not_true_eq_false, not_false_eq_true, n10, n01, nm0, n0m, imp_t, imp_f]
    refine ⟨1, 6, fun _ => Nat.le_refl _, fun _ => Nat.le_refl _, x_needVillageX hG.1.1 hG.2.1 hG.2.2 g3 tT v7 (vin_n s9 hv) (hxN _ _ (fun Γ l d kr kx hk => ?_))⟩
    exact c_filters (hVS.t say0) (fun _ => hk _ (hG0.rf (rn := 0) (w := 1) (by decide)).1.un (hG0.rf (rn := 0) (w := 1) (by decide)).2) (fun c _ => absurd c (vim_n (by rw [up_n (by omega)]; exact h40) s9 hv)) (fun w _ _ _ a e _ _ _ _ _ _ => absurd ⟨w, a, e⟩ hv) (fun w _ _ a e _ _ _ _ _ _ => absurd ⟨w, a, e⟩ hv)
  obtain ⟨w, hw, rfl⟩ := hv
  by_cases hin : nI 0 ≤ x ∧ x ≤ nI 2
  rotate_left
  · refine ⟨(1, 6), q, z, Cst.x, hq32, fun Γ l d kr kx hG _ hxN hxI => ?_⟩
    refine ex_of (ls0 := [some (.ref 0), some (.int (nI w)), some (.int x), some (.int y)]) tH_filters (by decide +kernel) kH_filters rfl (Nat.le_of_ble_eq_true rfl) rfl ?_
    intro go hgo
    refine hgo 20 [] 0 _ _ _ _ _ ?_
    simp only [ixr_of, run_s, run_0, rH_filters, rok_i, rok_z, bx_cons, bx_nil, eBP, eC0, eC1, eC2, eCV1, eCV3, eCV4, eGR, eLA0, eLI1, eLI2, eLI3, eRI, fH_filters_0, bH_filters_0, ln_ximages, ln_xthought, rg_xmain_0, rg_xmain_1, rg_xmain_10, rg_xmain_2, rg_xmain_3, rg_xmain_4, rg_xmain_5, rg_xmain_6, rg_xmain_7, ty_xaqueduct, ty_xdiary, ty_xforesight, ty_ximages, ty_xmain, ty_xnow, ty_xopinionReader, ty_xtape, ty_xtasters, ty_xthought, Option.toList_some, Option.toList_none, List.cons_append, List.nil_append, List.length_cons, List.length_nil, List.mem_cons, List.not_mem_nil, or_false, false_or, or_true, true_or, ↓reduceIte, true_and, and_true, Nat.reduceEqDiff, Nat.reduceAdd, Nat.reduceLeDiff, Nat.reduceLT, dl_i, dl_r, dl_n, dl_u, eq_self, not_true_eq_false, not_false_eq_true, n10, n01, nm0, n0m, imp_t, imp_f]
    refine call0 (x_needVillage g3 tT v7 (vin rfl ⟨hw, s9⟩) ?_)
    simp only [ixr_of, run_s, run_0, rH_filters, rok_i, rok_z, bx_cons, bx_nil, eBP, eC0, eC1, eC2, eCV1, eCV3, eCV4, eGR, eLA0, eLI1, eLI2, eLI3, eRI, fH_filters_0, bH_filters_0, ln_ximages, ln_xthought, rg_xmain_0, rg_xmain_1, rg_xmain_10, rg_xmain_2, rg_xmain_3, rg_xmain_4, rg_xmain_5, rg_xmain_6, rg_xmain_7, ty_xaqueduct, ty_xdiary, ty_xforesight, ty_ximages, ty_xmain, ty_xnow, ty_xopinionReader, ty_xtape, ty_xtasters, ty_xthought, Option.toList_some, Option.toList_none, List.cons_append, List.nil_append, List.length_cons, List.length_nil, List.mem_cons, List.not_mem_nil, or_false, false_or, or_true, true_or, ↓reduceIte, true_and, and_true, Nat.reduceEqDiff, Nat.reduceAdd, Nat.reduceLeDiff, Nat.reduceLT, dl_i, dl_r, dl_n, dl_u, eq_self, not_true_eq_false, not_false_eq_true, n10, n01, nm0, n0m, imp_t, imp_f]
    refine ⟨1, 6, fun _ => Nat.le_refl _, fun _ => Nat.le_refl _, x_needInX hG.1.1 hG.2.1 hG.2.2 hin (hxI _ _ (fun Γ l d kr kx hk => ?_))⟩
    exact c_filters (hVS.t say0) (fun c => absurd (vim (by rw [up_n (by omega)]; exact h40) s9 hw rfl) c) (fun _ _ => hk _ (hG0.rf (rn := 1) (w := 2) (by decide)).1.un (hG0.rf (rn := 1) (w := 2) (by decide)).2) (fun w hb k c a e b f g i j o => by first | exact absurd (by rw [f]; exact rgI (by omega) (by omega) (by decide)) hin | exact absurd (by rw [j]; exact rgI (by omega) (by omega) (by decide)) hin2) (fun w hb k a e b f g i j => by first | exact absurd (by rw [f]; exact rgI (by omega) (by omega) (by decide)) hin | exact absurd (by rw [j]; exact rgI (by omega) (by omega) (by decide)) hin2)
  by_cases hin2 : nI 1 ≤ y ∧ y ≤ nI 60
  rotate_left
  · refine ⟨(1, 6), q, z, Cst.x, hq32, fun Γ l d kr kx hG _ hxN hxI => ?_⟩
    refine ex_of (ls0 := [some (.ref 0), some (.int (nI w)), some (.int x), some (.int y)]) tH_filters (by decide +kernel) kH_filters rfl (Nat.le_of_ble_eq_true rfl) rfl ?_
    intro go hgo
    refine hgo 20 [] 0 _ _ _ _ _ ?_
    simp only [ixr_of, run_s, run_0, rH_filters, rok_i, rok_z, bx_cons, bx_nil, eBP, eC0, eC1, eC2, eCV1, eCV3, eCV4, eGR, eLA0, eLI1, eLI2, eLI3, eRI, fH_filters_0, bH_filters_0, ln_ximages, ln_xthought, rg_xmain_0, rg_xmain_1, rg_xmain_10, rg_xmain_2, rg_xmain_3, rg_xmain_4, rg_xmain_5, rg_xmain_6, rg_xmain_7, ty_xaqueduct, ty_xdiary, ty_xforesight, ty_ximages, ty_xmain, ty_xnow, ty_xopinionReader, ty_xtape, ty_xtasters, ty_xthought, Option.toList_some, Option.toList_none, List.cons_append, List.nil_append, List.length_cons, List.length_nil, List.mem_cons, List.not_mem_nil, or_false, false_or, or_true, true_or, ↓reduceIte, true_and, and_true, Nat.reduceEqDiff, Nat.reduceAdd, Nat.reduceLeDiff, Nat.reduceLT, dl_i, dl_r, dl_n, dl_u, eq_self, not_true_eq_false, not_false_eq_true, n10, n01, nm0, n0m, imp_t, imp_f]
    refine call0 (x_needVillage g3 tT v7 (vin rfl ⟨hw, s9⟩) ?_)
    simp only [ixr_of, run_s, run_0, rH_filters, rok_i, rok_z, bx_cons, bx_nil, eBP, eC0, eC1, eC2, eCV1, eCV3, eCV4, eGR, eLA0, eLI1, eLI2, eLI3, eRI, fH_filters_0, bH_filters_0, ln_ximages, ln_xthought, rg_xmain_0, rg_xmain_1, rg_xmain_10, rg_xmain_2, rg_xmain_3, rg_xmain_4, rg_xmain_5, rg_xmain_6, rg_xmain_7, ty_xaqueduct, ty_xdiary, ty_xforesight, ty_ximages, ty_xmain, ty_xnow, ty_xopinionReader, ty_xtape, ty_xtasters, ty_xthought, Option.toList_some, Option.toList_none, List.cons_append, List.nil_append, List.length_cons, List.length_nil, List.mem_cons, List.not_mem_nil, or_false, false_or, or_true, true_or, ↓reduceIte, true_and, and_true, Nat.reduceEqDiff, Nat.reduceAdd, Nat.reduceLeDiff, Nat.reduceLT, dl_i, dl_r, dl_n, dl_u, eq_self, not_true_eq_false, not_false_eq_true, n10, n01, nm0, n0m, imp_t, imp_f]
    refine call0 (x_needIn hin ?_)
    simp only [ixr_of, run_s, run_0, rH_filters, rok_i, rok_z, bx_cons, bx_nil, eBP, eC0, eC1, eC2, eCV1, eCV3, eCV4, eGR, eLA0, eLI1, eLI2, eLI3, eRI, fH_filters_0, bH_filters_0, ln_ximages, ln_xthought, rg_xmain_0, rg_xmain_1, rg_xmain_10, rg_xmain_2, rg_xmain_3, rg_xmain_4, rg_xmain_5, rg_xmain_6, rg_xmain_7, ty_xaqueduct, ty_xdiary, ty_xforesight, ty_ximages, ty_xmain, ty_xnow, ty_xopinionReader, ty_xtape, ty_xtasters, ty_xthought, Option.toList_some, Option.toList_none, List.cons_append, List.nil_append, List.length_cons, List.length_nil, List.mem_cons, List.not_mem_nil, or_false, false_or, or_true, true_or, ↓reduceIte, true_and, and_true, Nat.reduceEqDiff, Nat.reduceAdd, Nat.reduceLeDiff, Nat.reduceLT, dl_i, dl_r, dl_n, dl_u, eq_self, not_true_eq_false, not_false_eq_true, n10, n01, nm0, n0m, imp_t, imp_f]
    refine ⟨1, 6, fun _ => Nat.le_refl _, fun _ => Nat.le_refl _, x_needInX hG.1.1 hG.2.1 hG.2.2 hin2 (hxI _ _ (fun Γ l d kr kx hk => ?_))⟩
    exact c_filters (hVS.t say0) (fun c => absurd (vim (by rw [up_n (by omega)]; exact h40) s9 hw rfl) c) (fun _ _ => hk _ (hG0.rf (rn := 1) (w := 2) (by decide)).1.un (hG0.rf (rn := 1) (w := 2) (by decide)).2) (fun w hb k c a e b f g i j o => by first | exact absurd (by rw [f]; exact rgI (by omega) (by omega) (by decide)) hin | exact absurd (by rw [j]; exact rgI (by omega) (by omega) (by decide)) hin2) (fun w hb k a e b f g i j => by first | exact absurd (by rw [f]; exact rgI (by omega) (by omega) (by decide)) hin | exact absurd (by rw [j]; exact rgI (by omega) (by omega) (by decide)) hin2)
  obtain ⟨hb, hhb, rfl⟩ := rng (by decide) hin
  obtain ⟨k0, hk1, hk9, rfl⟩ := rng1 (by decide) hin2
  refine ⟨(0, 0), q, z, Cst.no, hq32, fun Γ l d kr kx hG hk _ _ => ?_⟩
  refine ex_of (ls0 := [some (.ref 0), some (.int (nI w)), some (.int (nI hb)), some (.int (nI k0))]) tH_filters (by decide +kernel) kH_filters rfl (Nat.le_of_ble_eq_true rfl) rfl ?_
  intro go hgo
  refine hgo 20 [] 0 _ _ _ _ _ ?_
  simp only [ixr_of, run_s, run_0, rH_filters, rok_i, rok_z, bx_cons, bx_nil, eBP, eC0, eC1, eC2, eCV1, eCV3, eCV4, eGR, eLA0, eLI1, eLI2, eLI3, eRI, fH_filters_0, bH_filters_0, ln_ximages, ln_xthought, rg_xmain_0, rg_xmain_1, rg_xmain_10, rg_xmain_2, rg_xmain_3, rg_xmain_4, rg_xmain_5, rg_xmain_6, rg_xmain_7, ty_xaqueduct, ty_xdiary, ty_xforesight, ty_ximages, ty_xmain, ty_xnow, ty_xopinionReader, ty_xtape, ty_xtasters, ty_xthought, Option.toList_some, Option.toList_none, List.cons_append, List.nil_append, List.length_cons, List.length_nil, List.mem_cons, List.not_mem_nil, or_false, false_or, or_true, true_or, ↓reduceIte, true_and, and_true, Nat.reduceEqDiff, Nat.reduceAdd, Nat.reduceLeDiff, Nat.reduceLT, dl_i, dl_r, dl_n, dl_u, eq_self, not_true_eq_false, not_false_eq_true, n10, n01, nm0, n0m, imp_t, imp_f]
  refine call0 (x_needVillage g3 tT v7 (vin rfl ⟨hw, s9⟩) ?_)
  simp only [ixr_of, run_s, run_0, rH_filters, rok_i, rok_z, bx_cons, bx_nil, eBP, eC0, eC1, eC2, eCV1, eCV3, eCV4, eGR, eLA0, eLI1, eLI2, eLI3, eRI, fH_filters_0, bH_filters_0, ln_ximages, ln_xthought, rg_xmain_0, rg_xmain_1, rg_xmain_10, rg_xmain_2, rg_xmain_3, rg_xmain_4, rg_xmain_5, rg_xmain_6, rg_xmain_7, ty_xaqueduct, ty_xdiary, ty_xforesight, ty_ximages, ty_xmain, ty_xnow, ty_xopinionReader, ty_xtape, ty_xtasters, ty_xthought, Option.toList_some, Option.toList_none, List.cons_append, List.nil_append, List.length_cons, List.length_nil, List.mem_cons, List.not_mem_nil, or_false, false_or, or_true, true_or, ↓reduceIte, true_and, and_true, Nat.reduceEqDiff, Nat.reduceAdd, Nat.reduceLeDiff, Nat.reduceLT, dl_i, dl_r, dl_n, dl_u, eq_self, not_true_eq_false, not_false_eq_true, n10, n01, nm0, n0m, imp_t, imp_f]
  refine call0 (x_needIn hin ?_)
  simp only [ixr_of, run_s, run_0, rH_filters, rok_i, rok_z, bx_cons, bx_nil, eBP, eC0, eC1, eC2, eCV1, eCV3, eCV4, eGR, eLA0, eLI1, eLI2, eLI3, eRI, fH_filters_0, bH_filters_0, ln_ximages, ln_xthought, rg_xmain_0, rg_xmain_1, rg_xmain_10, rg_xmain_2, rg_xmain_3, rg_xmain_4, rg_xmain_5, rg_xmain_6, rg_xmain_7, ty_xaqueduct, ty_xdiary, ty_xforesight, ty_ximages, ty_xmain, ty_xnow, ty_xopinionReader, ty_xtape, ty_xtasters, ty_xthought, Option.toList_some, Option.toList_none, List.cons_append, List.nil_append, List.length_cons, List.length_nil, List.mem_cons, List.not_mem_nil, or_false, false_or, or_true, true_or, ↓reduceIte, true_and, and_true, Nat.reduceEqDiff, Nat.reduceAdd, Nat.reduceLeDiff, Nat.reduceLT, dl_i, dl_r, dl_n, dl_u, eq_self, not_true_eq_false, not_false_eq_true, n10, n01, nm0, n0m, imp_t, imp_f]
  refine call0 (x_needIn hin2 ?_)
  simp only [ixr_of, run_s, run_0, rH_filters, rok_i, rok_z, bx_cons, bx_nil, eBP, eC0, eC1, eC2, eCV1, eCV3, eCV4, eGR, eLA0, eLI1, eLI2, eLI3, eRI, fH_filters_0, bH_filters_0, ln_ximages, ln_xthought, rg_xmain_0, rg_xmain_1, rg_xmain_10, rg_xmain_2, rg_xmain_3, rg_xmain_4, rg_xmain_5, rg_xmain_6, rg_xmain_7, ty_xaqueduct, ty_xdiary, ty_xforesight, ty_ximages, ty_xmain, ty_xnow, ty_xopinionReader, ty_xtape, ty_xtasters, ty_xthought, Option.toList_some, Option.toList_none, List.cons_append, List.nil_append, List.length_cons, List.length_nil, List.mem_cons, List.not_mem_nil, or_false, false_or, or_true, true_or, ↓reduceIte, true_and, and_true, Nat.reduceEqDiff, Nat.reduceAdd, Nat.reduceLeDiff, Nat.reduceLT, dl_i, dl_r, dl_n, dl_u, eq_self, not_true_eq_false, not_false_eq_true, n10, n01, nm0, n0m, imp_t, imp_f]
  have hn9 := r3.2.1
  refine call0 (x_leastFilter hG.1 r1.1 r3.1 (by omega) hw (by omega) (fun cc a1 a2 a3 K hX => ?_) (fun a3 K hX => ?_))
  · simp only [ixr_of, run_s, run_0, rH_filters, rok_i, rok_z, bx_cons, bx_nil, eBP, eC0, eC1, eC2, eCV1, eCV3, eCV4, eGR, eLA0, eLI1, eLI2, eLI3, eRI, fH_filters_0, bH_filters_0, ln_ximages, ln_xthought, rg_xmain_0, rg_xmain_1, rg_xmain_10, rg_xmain_2, rg_xmain_3, rg_xmain_4, rg_xmain_5, rg_xmain_6, rg_xmain_7, ty_xaqueduct, ty_xdiary, ty_xforesight, ty_ximages, ty_xmain, ty_xnow, ty_xopinionReader, ty_xtape, ty_xtasters, ty_xthought, Option.toList_some, Option.toList_none, List.cons_append, List.nil_append, List.length_cons, List.length_nil, List.mem_cons, List.not_mem_nil, or_false, false_or, or_true, true_or, ↓reduceIte, true_and, and_true, Nat.reduceEqDiff, Nat.reduceAdd, Nat.reduceLeDiff, Nat.reduceLT, dl_i, dl_r, dl_n, dl_u, eq_self, not_true_eq_false, not_false_eq_true, n10, n01, nm0, n0m, imp_t, imp_f]
    have hm := Ms.xf (Or.inl rfl) hX
    have k40 : K 500004 0 = nI S.1.1 := by rw [hm 500004 (by omega) (by omega)]; exact h40
    refine hk _ K E (fun Γ l d kr kx hk2 => c_filters (hVS.t hm.t) (fun c => absurd (vim k40 s9 hw rfl) c) (fun _ c => absurd ⟨hin, hin2⟩ c) (fun w' hb' k' c' a e b f g i j o o2 o3 L hL hz => ?_) (fun w' hb' k' a e b f g i j o L hL hz => ?_))
    · rw [nI_eq (by omega) (by omega)] at e f j
      subst e; subst f; subst j
      have em : c' = cc := by
        rw [hm 500124 (by omega) (by omega), hm.g hS (hm.pf s9)] at o2
        by_cases c1 : c' < cc
        · exact absurd o2 (a3 c' c1)
        · by_cases c2 : cc < c'
          · have := o3 cc c2
            rw [hm 500124 (by omega) (by omega), hm.g hS (hm.pf s9)] at this
            exact absurd a2 this
          · omega
      rw [em]
      exact hk2 L (hG0.fm (Or.inl rfl) hX hL) hz
    · rw [nI_eq (by omega) (by omega)] at e f j
      subst e; subst f; subst j
      have := o cc a1
      rw [hm 500124 (by omega) (by omega), hm.g hS (hm.pf s9)] at this
      exact absurd a2 this
  · simp only [ixr_of, run_s, run_0, rH_filters, rok_i, rok_z, bx_cons, bx_nil, eBP, eC0, eC1, eC2, eCV1, eCV3, eCV4, eGR, eLA0, eLI1, eLI2, eLI3, eRI, fH_filters_0, bH_filters_0, ln_ximages, ln_xthought, rg_xmain_0, rg_xmain_1, rg_xmain_10, rg_xmain_2, rg_xmain_3, rg_xmain_4, rg_xmain_5, rg_xmain_6, rg_xmain_7, ty_xaqueduct, ty_xdiary, ty_xforesight, ty_ximages, ty_xmain, ty_xnow, ty_xopinionReader, ty_xtape, ty_xtasters, ty_xthought, Option.toList_some, Option.toList_none, List.cons_append, List.nil_append, List.length_cons, List.length_nil, List.mem_cons, List.not_mem_nil, or_false, false_or, or_true, true_or, ↓reduceIte, true_and, and_true, Nat.reduceEqDiff, Nat.reduceAdd, Nat.reduceLeDiff, Nat.reduceLT, dl_i, dl_r, dl_n, dl_u, eq_self, not_true_eq_false, not_false_eq_true, n10, n01, nm0, n0m, imp_t, imp_f]
    have hm := Ms.xf (Or.inl rfl) hX
    have k40 : K 500004 0 = nI S.1.1 := by rw [hm 500004 (by omega) (by omega)]; exact h40
    refine hk _ K E (fun Γ l d kr kx hk2 => c_filters (hVS.t hm.t) (fun c => absurd (vim k40 s9 hw rfl) c) (fun _ c => absurd ⟨hin, hin2⟩ c) (fun w' hb' k' c' a e b f g i j o o2 o3 L hL hz => ?_) (fun w' hb' k' a e b f g i j o L hL hz => ?_))
    · rw [nI_eq (by omega) (by omega)] at e f j
      subst e; subst f; subst j
      rw [hm 500124 (by omega) (by omega), hm.g hS (hm.pf s9)] at o2
      exact absurd o2 (a3 c' o)
    · exact hk2 L (hG0.fm (Or.inl rfl) hX hL) hz
