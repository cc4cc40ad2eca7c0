/-! public methods, 1 -/
theorem say0 {J : Iv} {k : Nat} {x : Int32} : SayT J (up J 0 k x) := fun i hi => by
  funext j
  exact up_n (by unfold tw at hi; omega)
theorem rgI {lo n hi : Nat} (h1 : lo ≤ n) (h2 : n ≤ hi) (h : hi < 2147483648) : nI lo ≤ nI n ∧ nI n ≤ nI hi := ⟨nI_le h1 (by omega), nI_le h2 h⟩
theorem vin {v : Int32} {w nV : Nat} (e : v = nI w) (h : w < nV ∧ nV ≤ 9) : nI 0 ≤ v ∧ v < nI nV := by
  rw [e]
  exact ⟨nI_nn (by omega), nI_lt h.1 (by omega)⟩
theorem vin_n {v : Int32} {nV : Nat} (h9 : nV ≤ 9) (h : ¬ ∃ w, w < nV ∧ v = nI w) : ¬ (nI 0 ≤ v ∧ v < nI nV) := by
  rintro ⟨a, b⟩
  obtain ⟨k, hk, e⟩ := nn_ex a
  rw [e, nI_ltI hk (by omega)] at b
  exact h ⟨k, b, e⟩
theorem vim_n {I : Iv} {v : Int32} {nV : Nat} (h0 : I 500004 0 = nI nV) (h9 : nV ≤ 9) (h : ¬ ∃ w, w < nV ∧ v = nI w) : ¬ (nI 0 ≤ v ∧ v ≤ I 500004 0 - nI 1) := fun c => h (isV_n h0 h9 c)
theorem vim {I : Iv} {v : Int32} {w nV : Nat} (h0 : I 500004 0 = nI nV) (h9 : nV ≤ 9) (hw : w < nV) (e : v = nI w) : nI 0 ≤ v ∧ v ≤ I 500004 0 - nI 1 := by
  rw [e, h0, nI_sb (by omega)]
  exact rgI (Nat.zero_le _) (by omega) (by omega)
theorem SQ.th {rw' : Nat} {J K : Iv} (h : SQ rw' J K) : SQ rw' J (up K 500000 0 (nI 0)) := ⟨fun i a b c d e => by rw [← h.1 i a b c d e]; funext j; exact up_n (by omega), fun j hj => by rw [up_n (by intro c; exact hj (by rw [c.2]; unfold scF; omega))]; exact h.2.1 j hj, by rw [up_n (by omega)]; exact h.2.2⟩
/-- asked, and only thrown is set -/
theorem GS.th {q z : Nat} {J : Iv} {E : Ev} (h : GS q z J E) : GS q z (up J 500000 0 (nI 0)) E := by
  have h' := h
  obtain ⟨S, PS, t, op, bk, kb, n, n0, p, c, mk, tp, im, nim, rw', r1, r2, r3, r4, r5, r6, r7, r8, r9⟩ := h'
  exact h.sq r9.1 SQ.rf.th (by funext j; exact up_n (by omega)) (by funext j; exact up_n (by omega))

theorem g_fault {q z : Nat} {J : Iv} {E : Ev} (h : GS q z J E) : StX0 mH_fault mM_fault [] q z J E := by
  have hG0 := h
  obtain ⟨S, PS, t, op, bk, kb, n, n0, p, c, mk, tp, im, nim, rw', r1, r2, r3, r4, r5, r6, r7, r8, r9⟩ := h
  have hS := r1.1.1.2.2.2.1
  have s9 := hS.1
  have hVS := r1.1.2.2.1
  have hq32 := r4.1.1
  obtain ⟨g3, hT, hXt, -⟩ := id r1.1.1
  have tT : tyc shN E t = 10 := (hT.A (b := true) (E := E)).1
  have v7 := hXt.1
  have h40 := hVS.1
  refine ⟨(0, 0), q, z, Cst.no, hq32, fun Γ l d kr kx hG hk => ?_⟩
  refine ex_of (ls0 := [some (.ref 0)]) tH_fault (by decide +kernel) kH_fault rfl (Nat.le_of_ble_eq_true rfl) rfl ?_
  intro go hgo
  refine hgo 20 [] 0 _ _ _ _ _ ?_
  simp only [ixr_of, run_s, run_0, rH_fault, rok_i, rok_z, bx_cons, bx_nil, eGI, eGR, eLA0, eRI, fH_fault_0, bH_fault_0, ln_ximages, ln_xthought, rg_xmain_0, rg_xmain_1, rg_xmain_10, rg_xmain_2, rg_xmain_3, rg_xmain_4, rg_xmain_5, rg_xmain_6, rg_xmain_7, ty_xaqueduct, ty_xdiary, ty_xforesight, ty_ximages, ty_xmain, ty_xnow, ty_xopinionReader, ty_xtape, ty_xtasters, ty_xthought, Option.toList_some, Option.toList_none, List.cons_append, List.nil_append, List.length_cons, List.length_nil, List.mem_cons, List.not_mem_nil, or_false, false_or, or_true, true_or, ↓reduceIte, true_and, and_true, Nat.reduceEqDiff, Nat.reduceAdd, Nat.reduceLeDiff, Nat.reduceLT, dl_i, dl_r, dl_n, dl_u, eq_self, not_true_eq_false, not_false_eq_true, n10, n01, nm0, n0m, imp_t, imp_f]
  refine hk _ J E (fun Γ l d kr kx hk2 => c_fault ?_)
  rw [← r6.2.2.2.2.2]
  exact hk2 _ hG0.th up_s

theorem g_status {q z : Nat} {J : Iv} {E : Ev} {x : Int32} (h : GS q z J E) : StX0 mH_status mM_status [.int x] q z J E := by
  have hG0 := h
  obtain ⟨S, PS, t, op, bk, kb, n, n0, p, c, mk, tp, im, nim, rw', r1, r2, r3, r4, r5, r6, r7, r8, r9⟩ := h
  have hS := r1.1.1.2.2.2.1
  have s9 := hS.1
  have hVS := r1.1.2.2.1
  have hq32 := r4.1.1
  obtain ⟨g3, hT, hXt, -⟩ := id r1.1.1
  have tT : tyc shN E t = 10 := (hT.A (b := true) (E := E)).1
  have v7 := hXt.1
  have h40 := hVS.1
  refine ⟨(0, 0), q, z, Cst.no, hq32, fun Γ l d kr kx hG hk => ?_⟩
  refine ex_of (ls0 := [some (.ref 0), some (.int x)]) tH_status (by decide +kernel) kH_status rfl (Nat.le_of_ble_eq_true rfl) rfl ?_
  intro go hgo
  refine hgo 20 [] 0 _ _ _ _ _ ?_
  simp only [ixr_of, run_s, run_0, rH_status, rok_i, rok_z, bx_cons, bx_nil, eC1, eCm1, eGI, eGO, jICne, jIFne, eLA0, eLI1, eRI, fH_status_0, fH_status_4, fH_status_11, fH_status_16, fH_status_23, fH_status_24, bH_status_0, bH_status_4, bH_status_11, bH_status_16, bH_status_23, bH_status_24, ln_ximages, ln_xthought, rg_xmain_0, rg_xmain_1, rg_xmain_10, rg_xmain_2, rg_xmain_3, rg_xmain_4, rg_xmain_5, rg_xmain_6, rg_xmain_7, ty_xaqueduct, ty_xdiary, ty_xforesight, ty_ximages, ty_xmain, ty_xnow, ty_xopinionReader, ty_xtape, ty_xtasters, ty_xthought, Option.toList_some, Option.toList_none, List.cons_append, List.nil_append, List.length_cons, List.length_nil, List.mem_cons, List.not_mem_nil, or_false, false_or, or_true, true_or, ↓reduceIte, true_and, and_true, Nat.reduceEqDiff, Nat.reduceAdd, Nat.reduceLeDiff, Nat.reduceLT, dl_i, dl_r, dl_n, dl_u, eq_self, not_true_eq_false, not_false_eq_true, n10, n01, nm0, n0m, imp_t, imp_f]
  have key : ∀ a, a = (if x = nI 0 then J 0 13 else if x = nI 1 then J 0 14 else -1) → MAns mM_status [.ref 500000, .int x] a 0 q z J E := by
    intro a ha Γ l d kr kx hk2
    refine c_status (fun hin => ?_) (fun k hk' e => ?_)
    · have : a = -1 := by
        rw [ha, if_neg (fun e => hin (by rw [e]; decide)), if_neg (fun e => hin (by rw [e]; decide))]
      rw [← this]
      exact hk2 _ hG0.th up_s
    · have : a = J 500002 k := by
        rw [ha, e]
        rcases (show k = 0 ∨ k = 1 by omega) with rfl | rfl
        · rw [if_pos rfl]; exact r7.1
        · rw [if_neg (by decide), if_pos rfl]; exact r7.2
      rw [← this]
      exact hk2 _ hG0.th up_s
  refine ⟨fun q1 => ⟨fun q2 => ?_, fun q2 => ?_⟩, fun q1 => ?_⟩
  · exact hk _ J E (key _ (by rw [if_neg q1, if_neg q2]))
  · exact hk _ J E (key _ (by rw [if_neg q1, if_pos q2]))
  · exact hk _ J E (key _ (by rw [if_pos q1]))

theorem g_tap {q z : Nat} {J : Iv} {E : Ev} {x : Int32} (h : GS q z J E) : StX1 mH_tap mM_tap [.int x] 1 q z J E := by
  have hG0 := h
  obtain ⟨S, PS, t, op, bk, kb, n, n0, p, c, mk, tp, im, nim, rw', r1, r2, r3, r4, r5, r6, r7, r8, r9⟩ := h
  have hS := r1.1.1.2.2.2.1
  have s9 := hS.1
  have hVS := r1.1.2.2.1
  have hq32 := r4.1.1
  obtain ⟨g3, hT, hXt, -⟩ := id r1.1.1
  have tT : tyc shN E t = 10 := (hT.A (b := true) (E := E)).1
  have v7 := hXt.1
  have h40 := hVS.1
  by_cases hin : nI 0 ≤ x ∧ x ≤ nI 4
  rotate_left
  · refine ⟨(1, 6), q, z, Cst.x, hq32, fun Γ l d kr kx hG _ hxI => ?_⟩
    refine ex_of (ls0 := [some (.ref 0), some (.int x)]) tH_tap (by decide +kernel) kH_tap rfl (Nat.le_of_ble_eq_true rfl) rfl ?_
    intro go hgo
    refine hgo 20 [] 0 _ _ _ _ _ ?_
    simp only [ixr_of, run_s, run_0, rH_tap, rok_i, rok_z, bx_cons, bx_nil, eC0, eC4, eCV0, eCV3, eGO, eGR, eIALD, jICne, eLA0, eLI1, eRI, fH_tap_0, fH_tap_12, fH_tap_22, fH_tap_31, bH_tap_0, bH_tap_12, bH_tap_22, bH_tap_31, ln_ximages, ln_xthought, rg_xmain_0, rg_xmain_1, rg_xmain_10, rg_xmain_2, rg_xmain_3, rg_xmain_4, rg_xmain_5, rg_xmain_6, rg_xmain_7, ty_xaqueduct, ty_xdiary, ty_xforesight, ty_ximages, ty_xmain, ty_xnow, ty_xopinionReader, ty_xtape, ty_xtasters, ty_xthought, Option.toList_some, Option.toList_none, List.cons_append, List.nil_append, List.length_cons, List.length_nil, List.mem_cons, List.not_mem_nil, or_false, false_or, or_true, true_or, ↓reduceIte, true_and, and_true, Nat.reduceEqDiff, Nat.reduceAdd, Nat.reduceLeDiff, Nat.reduceLT, dl_i, dl_r, dl_n, dl_u, eq_self, not_true_eq_false, not_false_eq_true, n10, n01, nm0, n0m, imp_t, imp_f]
    refine ⟨1, 6, fun _ => Nat.le_refl _, fun _ => Nat.le_refl _, x_needInX hG.1.1 hG.2.1 hG.2.2 hin (hxI _ _ (fun Γ l d kr kx hk => ?_))⟩
    exact c_tap (fun _ => hk _ (hG0.rf (rn := 1) (w := 1) (by decide)).1.un (hG0.rf (rn := 1) (w := 1) (by decide)).2) (fun k hk e => absurd (by rw [e]; exact rgI (by omega) (by omega) (by decide)) hin) (fun e => absurd (by rw [e]; decide) hin)
  obtain ⟨k, hk4, rfl⟩ := rng (by decide) hin
  have hD := r3.1.2.1
  have ty71 : tyc shN E 71 = 3 := dyA_71.1
  have rg71 : rget shN E 71 6 = .ref 78 := dyA_71.2.1.2.2.2.2.2.2
  have ty78 : tyc shN E 78 = 101 := dyA_71.2.2.1.2.2.2.2.2.2
  have ln78 : len shN E 78 = 4 := dyA_71.2.2.2.2.2.2.2.2.2
  refine ⟨(0, 0), q, z, Cst.no, hq32, fun Γ l d kr kx hG hk _ => ?_⟩
  refine ex_of (ls0 := [some (.ref 0), some (.int (nI k))]) tH_tap (by decide +kernel) kH_tap rfl (Nat.le_of_ble_eq_true rfl) rfl ?_
  intro go hgo
  refine hgo 20 [] 0 _ _ _ _ _ ?_
  simp only [ixr_of, run_s, run_0, rH_tap, rok_i, rok_z, bx_cons, bx_nil, eC0, eC4, eCV0, eCV3, eGO, eGR, eIALD, jICne, eLA0, eLI1, eRI, fH_tap_0, fH_tap_12, fH_tap_22, fH_tap_31, bH_tap_0, bH_tap_12, bH_tap_22, bH_tap_31, ln_ximages, ln_xthought, rg_xmain_0, rg_xmain_1, rg_xmain_10, rg_xmain_2, rg_xmain_3, rg_xmain_4, rg_xmain_5, rg_xmain_6, rg_xmain_7, ty_xaqueduct, ty_xdiary, ty_xforesight, ty_ximages, ty_xmain, ty_xnow, ty_xopinionReader, ty_xtape, ty_xtasters, ty_xthought, Option.toList_some, Option.toList_none, List.cons_append, List.nil_append, List.length_cons, List.length_nil, List.mem_cons, List.not_mem_nil, or_false, false_or, or_true, true_or, ↓reduceIte, true_and, and_true, Nat.reduceEqDiff, Nat.reduceAdd, Nat.reduceLeDiff, Nat.reduceLT, dl_i, dl_r, dl_n, dl_u, eq_self, not_true_eq_false, not_false_eq_true, n10, n01, nm0, n0m, imp_t, imp_f]
  refine call0 (x_needIn hin ?_)
  simp only [ixr_of, run_s, run_0, rH_tap, rok_i, rok_z, bx_cons, bx_nil, eC0, eC4, eCV0, eCV3, eGO, eGR, eIALD, jICne, eLA0, eLI1, eRI, fH_tap_0, fH_tap_12, fH_tap_22, fH_tap_31, bH_tap_0, bH_tap_12, bH_tap_22, bH_tap_31, ln_ximages, ln_xthought, rg_xmain_0, rg_xmain_1, rg_xmain_10, rg_xmain_2, rg_xmain_3, rg_xmain_4, rg_xmain_5, rg_xmain_6, rg_xmain_7, ty_xaqueduct, ty_xdiary, ty_xforesight, ty_ximages, ty_xmain, ty_xnow, ty_xopinionReader, ty_xtape, ty_xtasters, ty_xthought, Option.toList_some, Option.toList_none, List.cons_append, List.nil_append, List.length_cons, List.length_nil, List.mem_cons, List.not_mem_nil, or_false, false_or, or_true, true_or, ↓reduceIte, true_and, and_true, Nat.reduceEqDiff, Nat.reduceAdd, Nat.reduceLeDiff, Nat.reduceLT, dl_i, dl_r, dl_n, dl_u, eq_self, not_true_eq_false, not_false_eq_true, n10, n01, nm0, n0m, imp_t, imp_f]
  have c4 : (nI k = nI 4) = (k = 4) := nIe (by omega) (by decide)
  rw [c4]
  refine ⟨fun z4 => ?_, fun z4 => ?_⟩
  · have i4 : k < 4 := by omega
    simp only [ixr_of, run_s, run_0, rH_tap, rok_i, rok_z, bx_cons, bx_nil, eC0, eC4, eCV0, eCV3, eGO, eGR, eIALD, jICne, eLA0, eLI1, eRI, fH_tap_0, fH_tap_12, fH_tap_22, fH_tap_31, bH_tap_0, bH_tap_12, bH_tap_22, bH_tap_31, ln_ximages, ln_xthought, rg_xmain_0, rg_xmain_1, rg_xmain_10, rg_xmain_2, rg_xmain_3, rg_xmain_4, rg_xmain_5, rg_xmain_6, rg_xmain_7, ty_xaqueduct, ty_xdiary, ty_xforesight, ty_ximages, ty_xmain, ty_xnow, ty_xopinionReader, ty_xtape, ty_xtasters, ty_xthought, Option.toList_some, Option.toList_none, List.cons_append, List.nil_append, List.length_cons, List.length_nil, List.mem_cons, List.not_mem_nil, or_false, false_or, or_true, true_or, ↓reduceIte, true_and, and_true, Nat.reduceEqDiff, Nat.reduceAdd, Nat.reduceLeDiff, Nat.reduceLT, dl_i, dl_r, dl_n, dl_u, eq_self, not_true_eq_false, not_false_eq_true, n10, n01, nm0, n0m, ty71, rg71, ty78, ln78, i4, imp_t, imp_f]
    refine hk _ J E (fun Γ l d kr kx hk2 => c_tap (fun c => absurd hin c) (fun m hm e => ?_) (fun e => absurd e (by rw [c4]; exact z4)))
    rw [nI_eq (by omega) (by omega)] at e
    subst e
    have := hD.2.2.2.2.2.2.2.2.2.2.1 k hm
    rw [← this]
    exact hk2 _ hG0.th up_s
  · subst z4
    refine call0 (x_seen dyA_71 ?_)
    rw [vw_dr hD]
    simp only [ixr_of, run_s, run_0, rH_tap, rok_i, rok_z, bx_cons, bx_nil, eC0, eC4, eCV0, eCV3, eGO, eGR, eIALD, jICne, eLA0, eLI1, eRI, fH_tap_0, fH_tap_12, fH_tap_22, fH_tap_31, bH_tap_0, bH_tap_12, bH_tap_22, bH_tap_31, ln_ximages, ln_xthought, rg_xmain_0, rg_xmain_1, rg_xmain_10, rg_xmain_2, rg_xmain_3, rg_xmain_4, rg_xmain_5, rg_xmain_6, rg_xmain_7, ty_xaqueduct, ty_xdiary, ty_xforesight, ty_ximages, ty_xmain, ty_xnow, ty_xopinionReader, ty_xtape, ty_xtasters, ty_xthought, Option.toList_some, Option.toList_none, List.cons_append, List.nil_append, List.length_cons, List.length_nil, List.mem_cons, List.not_mem_nil, or_false, false_or, or_true, true_or, ↓reduceIte, true_and, and_true, Nat.reduceEqDiff, Nat.reduceAdd, Nat.reduceLeDiff, Nat.reduceLT, dl_i, dl_r, dl_n, dl_u, eq_self, not_true_eq_false, not_false_eq_true, n10, n01, nm0, n0m, imp_t, imp_f]
    refine hk _ J E (fun Γ l d kr kx hk2 => c_tap (fun c => absurd hin c) (fun m hm e => absurd e (by rw [nIe (by decide) (by omega)]; omega)) (fun e => ?_))
    exact hk2 _ hG0.th up_s

theorem g_put {q z : Nat} {J : Iv} {E : Ev} {v x : Int32} (h : GS q z J E) : StX mH_put mM_put [.int v, .int x] 1 2 q z J E := by
  have hG0 := h
  obtain ⟨S, PS, t, op, bk, kb, n, n0, p, c, mk, tp, im, nim, rw', r1, r2, r3, r4, r5, r6, r7, r8, r9⟩ := h
  have hS := r1.1.1.2.2.2.1
  have s9 := hS.1
  have hVS := r1.1.2.2.1
  have hq32 := r4.1.1
  obtain ⟨g3, hT, hXt, -⟩ := id r1.1.1
  have tT : tyc shN E t = 10 := (hT.A (b := true) (E := E)).1
  have v7 := hXt.1
  have h40 := hVS.1
  have hD := r3.1.2.1
  have ty71 : tyc shN E 71 = 3 := dyA_71.1
  obtain ⟨-, ⟨y0, y1, y2, y3, y4, y5, y6⟩, ⟨b1, b2, b3, b4, b5, b6, b7⟩, l1, l2, l3, l4, l5, l6, l7⟩ := (dyA_71 (b := true) (E := E))
  by_cases hv : ∃ w, w < S.1.1 ∧ v = nI w
  rotate_left
  · refine ⟨(1, 6), q, z, Cst.x, hq32, fun Γ l d kr kx hG _ hxN hxI => ?_⟩
    refine ex_of (ls0 := [some (.ref 0), some (.int v), some (.int x)]) tH_put (by decide +kernel) kH_put rfl (Nat.le_of_ble_eq_true rfl) rfl ?_
    intro go hgo
    refine hgo 20 [] 0 _ _ _ _ _ ?_
    simp only [ixr_of, run_s, run_0, rH_put, rok_i, rok_z, bx_cons, bx_nil, eADD, eC0, eC3, eC5, eCV1, eCV3, eGR, eIALD, jICge, eLA0, eLI1, eLI2, eMUL, eRI, eSUB, fH_put_0, fH_put_17, fH_put_31, bH_put_0, bH_put_17, bH_put_31, ln_ximages, ln_xthought, rg_xmain_0, rg_xmain_1, rg_xmain_10, rg_xmain_2, rg_xmain_3, rg_xmain_4, rg_xmain_5, rg_xmain_6, rg_xmain_7, ty_xaqueduct, ty_xdiary, ty_xforesight, ty_ximages, ty_xmain, ty_xnow, ty_xopinionReader, ty_xtape, ty_xtasters, ty_xthought, Option.toList_some, Option.toList_none, List.cons_append, List.nil_append, List.length_cons, List.length_nil, List.mem_cons, List.not_mem_nil, or_false, false_or, or_true, true_or, ↓reduceIte, true_and, and_true, Nat.reduceEqDiff, Nat.reduceAdd, Nat.reduceLeDiff, Nat.reduceLT, dl_i, dl_r, dl_n, dl_u, eq_self, not_true_eq_false, not_false_eq_true, n10, n01, nm0, n0m, imp_t, imp_f]
    refine ⟨1, 6, fun _ => Nat.le_refl _, fun _ => Nat.le_refl _, x_needVillageX hG.1.1 hG.2.1 hG.2.2 g3 tT v7 (vin_n s9 hv) (hxN _ _ (fun Γ l d kr kx hk => ?_))⟩
    exact c_put (by rw [up_n (by omega)]; exact h40) s9 (fun _ => hk _ (hG0.rf (rn := 0) (w := 1) (by decide)).1.un (hG0.rf (rn := 0) (w := 1) (by decide)).2) (fun c _ => absurd c (vim_n (by rw [up_n (by omega)]; exact h40) s9 hv)) (fun w k a e _ _ => absurd ⟨w, a, e⟩ hv) (fun w k a e _ _ => absurd ⟨w, a, e⟩ hv)
  obtain ⟨w, hw, rfl⟩ := hv
  by_cases hin : nI 0 ≤ x ∧ x ≤ nI 5
  rotate_left
  · refine ⟨(1, 6), q, z, Cst.x, hq32, fun Γ l d kr kx hG _ hxN hxI => ?_⟩
    refine ex_of (ls0 := [some (.ref 0), some (.int (nI w)), some (.int x)]) tH_put (by decide +kernel) kH_put rfl (Nat.le_of_ble_eq_true rfl) rfl ?_
    intro go hgo
    refine hgo 20 [] 0 _ _ _ _ _ ?_
    simp only [ixr_of, run_s, run_0, rH_put, rok_i, rok_z, bx_cons, bx_nil, eADD, eC0, eC3, eC5, eCV1, eCV3, eGR, eIALD, jICge, eLA0, eLI1, eLI2, eMUL, eRI, eSUB, fH_put_0, fH_put_17, fH_put_31, bH_put_0, bH_put_17, bH_put_31, ln_ximages, ln_xthought, rg_xmain_0, rg_xmain_1, rg_xmain_10, rg_xmain_2, rg_xmain_3, rg_xmain_4, rg_xmain_5, rg_xmain_6, rg_xmain_7, ty_xaqueduct, ty_xdiary, ty_xforesight, ty_ximages, ty_xmain, ty_xnow, ty_xopinionReader, ty_xtape, ty_xtasters, ty_xthought, Option.toList_some, Option.toList_none, List.cons_append, List.nil_append, List.length_cons, List.length_nil, List.mem_cons, List.not_mem_nil, or_false, false_or, or_true, true_or, ↓reduceIte, true_and, and_true, Nat.reduceEqDiff, Nat.reduceAdd, Nat.reduceLeDiff, Nat.reduceLT, dl_i, dl_r, dl_n, dl_u, eq_self, not_true_eq_false, not_false_eq_true, n10, n01, nm0, n0m, imp_t, imp_f]
    refine call0 (x_needVillage g3 tT v7 (vin rfl ⟨hw, s9⟩) ?_)
    simp only [ixr_of, run_s, run_0, rH_put, rok_i, rok_z, bx_cons, bx_nil, eADD, eC0, eC3, eC5, eCV1, eCV3, eGR, eIALD, jICge, eLA0, eLI1, eLI2, eMUL, eRI, eSUB, fH_put_0, fH_put_17, fH_put_31, bH_put_0, bH_put_17, bH_put_31, ln_ximages, ln_xthought, rg_xmain_0, rg_xmain_1, rg_xmain_10, rg_xmain_2, rg_xmain_3, rg_xmain_4, rg_xmain_5, rg_xmain_6, rg_xmain_7, ty_xaqueduct, ty_xdiary, ty_xforesight, ty_ximages, ty_xmain, ty_xnow, ty_xopinionReader, ty_xtape, ty_xtasters, ty_xthought, Option.toList_some, Option.toList_none, List.cons_append, List.nil_append, List.length_cons, List.length_nil, List.mem_cons, List.not_mem_nil, or_false, false_or, or_true, true_or, ↓reduceIte, true_and, and_true, Nat.reduceEqDiff, Nat.reduceAdd, Nat.reduceLeDiff, Nat.reduceLT, dl_i, dl_r, dl_n, dl_u, eq_self, not_true_eq_false, not_false_eq_true, n10, n01, nm0, n0m, imp_t, imp_f]
    refine ⟨1, 6, fun _ => Nat.le_refl _, fun _ => Nat.le_refl _, x_needInX hG.1.1 hG.2.1 hG.2.2 hin (hxI _ _ (fun Γ l d kr kx hk => ?_))⟩
    exact c_put (by rw [up_n (by omega)]; exact h40) s9 (fun c => absurd (vim (by rw [up_n (by omega)]; exact h40) s9 hw rfl) c) (fun _ _ => hk _ (hG0.rf (rn := 1) (w := 2) (by decide)).1.un (hG0.rf (rn := 1) (w := 2) (by decide)).2) (fun w k a e b f => absurd (by rw [f]; exact rgI (by omega) (by omega) (by decide)) hin) (fun w k a e b f => absurd (by rw [f]; exact rgI (by omega) (by omega) (by decide)) hin)
  obtain ⟨k, hk5, rfl⟩ := rng (by decide) hin
  refine ⟨(0, 0), q, z, Cst.no, hq32, fun Γ l d kr kx hG hk _ _ => ?_⟩
  refine ex_of (ls0 := [some (.ref 0), some (.int (nI w)), some (.int (nI k))]) tH_put (by decide +kernel) kH_put rfl (Nat.le_of_ble_eq_true rfl) rfl ?_
  intro go hgo
  refine hgo 20 [] 0 _ _ _ _ _ ?_
  simp only [ixr_of, run_s, run_0, rH_put, rok_i, rok_z, bx_cons, bx_nil, eADD, eC0, eC3, eC5, eCV1, eCV3, eGR, eIALD, jICge, eLA0, eLI1, eLI2, eMUL, eRI, eSUB, fH_put_0, fH_put_17, fH_put_31, bH_put_0, bH_put_17, bH_put_31, ln_ximages, ln_xthought, rg_xmain_0, rg_xmain_1, rg_xmain_10, rg_xmain_2, rg_xmain_3, rg_xmain_4, rg_xmain_5, rg_xmain_6, rg_xmain_7, ty_xaqueduct, ty_xdiary, ty_xforesight, ty_ximages, ty_xmain, ty_xnow, ty_xopinionReader, ty_xtape, ty_xtasters, ty_xthought, Option.toList_some, Option.toList_none, List.cons_append, List.nil_append, List.length_cons, List.length_nil, List.mem_cons, List.not_mem_nil, or_false, false_or, or_true, true_or, ↓reduceIte, true_and, and_true, Nat.reduceEqDiff, Nat.reduceAdd, Nat.reduceLeDiff, Nat.reduceLT, dl_i, dl_r, dl_n, dl_u, eq_self, not_true_eq_false, not_false_eq_true, n10, n01, nm0, n0m, imp_t, imp_f]
  refine call0 (x_needVillage g3 tT v7 (vin rfl ⟨hw, s9⟩) ?_)
  simp only [ixr_of, run_s, run_0, rH_put, rok_i, rok_z, bx_cons, bx_nil, eADD, eC0, eC3, eC5, eCV1, eCV3, eGR, eIALD, jICge, eLA0, eLI1, eLI2, eMUL, eRI, eSUB, fH_put_0, fH_put_17, fH_put_31, bH_put_0, bH_put_17, bH_put_31, ln_ximages, ln_xthought, rg_xmain_0, rg_xmain_1, rg_xmain_10, rg_xmain_2, rg_xmain_3, rg_xmain_4, rg_xmain_5, rg_xmain_6, rg_xmain_7, ty_xaqueduct, ty_xdiary, ty_xforesight, ty_ximages, ty_xmain, ty_xnow, ty_xopinionReader, ty_xtape, ty_xtasters, ty_xthought, Option.toList_some, Option.toList_none, List.cons_append, List.nil_append, List.length_cons, List.length_nil, List.mem_cons, List.not_mem_nil, or_false, false_or, or_true, true_or, ↓reduceIte, true_and, and_true, Nat.reduceEqDiff, Nat.reduceAdd, Nat.reduceLeDiff, Nat.reduceLT, dl_i, dl_r, dl_n, dl_u, eq_self, not_true_eq_false, not_false_eq_true, n10, n01, nm0, n0m, imp_t, imp_f]
  refine call0 (x_needIn hin ?_)
  simp only [ixr_of, run_s, run_0, rH_put, rok_i, rok_z, bx_cons, bx_nil, eADD, eC0, eC3, eC5, eCV1, eCV3, eGR, eIALD, jICge, eLA0, eLI1, eLI2, eMUL, eRI, eSUB, fH_put_0, fH_put_17, fH_put_31, bH_put_0, bH_put_17, bH_put_31, ln_ximages, ln_xthought, rg_xmain_0, rg_xmain_1, rg_xmain_10, rg_xmain_2, rg_xmain_3, rg_xmain_4, rg_xmain_5, rg_xmain_6, rg_xmain_7, ty_xaqueduct, ty_xdiary, ty_xforesight, ty_ximages, ty_xmain, ty_xnow, ty_xopinionReader, ty_xtape, ty_xtasters, ty_xthought, Option.toList_some, Option.toList_none, List.cons_append, List.nil_append, List.length_cons, List.length_nil, List.mem_cons, List.not_mem_nil, or_false, false_or, or_true, true_or, ↓reduceIte, true_and, and_true, Nat.reduceEqDiff, Nat.reduceAdd, Nat.reduceLeDiff, Nat.reduceLT, dl_i, dl_r, dl_n, dl_u, eq_self, not_true_eq_false, not_false_eq_true, n10, n01, nm0, n0m, imp_t, imp_f]
  have c3 : (nI 3 ≤ nI k) = (3 ≤ k) := nIl (by decide) (by omega)
  rw [c3]
  refine ⟨fun z4 => ?_, fun z4 => ?_⟩
  · obtain ⟨m, rfl⟩ : ∃ m, k = m + 3 := ⟨k - 3, by omega⟩
    have e1 : nI (w * 3 + (m + 3)) - nI 3 = nI (w * 3 + m) := by rw [nI_sb (by omega)]; congr 1
    have i1 : w * 3 + m < 27 := by omega
    simp only [ixr_of, run_s, run_0, rH_put, rok_i, rok_z, bx_cons, bx_nil, eADD, eC0, eC3, eC5, eCV1, eCV3, eGR, eIALD, jICge, eLA0, eLI1, eLI2, eMUL, eRI, eSUB, fH_put_0, fH_put_17, fH_put_31, bH_put_0, bH_put_17, bH_put_31, ln_ximages, ln_xthought, rg_xmain_0, rg_xmain_1, rg_xmain_10, rg_xmain_2, rg_xmain_3, rg_xmain_4, rg_xmain_5, rg_xmain_6, rg_xmain_7, ty_xaqueduct, ty_xdiary, ty_xforesight, ty_ximages, ty_xmain, ty_xnow, ty_xopinionReader, ty_xtape, ty_xtasters, ty_xthought, Option.toList_some, Option.toList_none, List.cons_append, List.nil_append, List.length_cons, List.length_nil, List.mem_cons, List.not_mem_nil, or_false, false_or, or_true, true_or, ↓reduceIte, true_and, and_true, Nat.reduceEqDiff, Nat.reduceAdd, Nat.reduceLeDiff, Nat.reduceLT, dl_i, dl_r, dl_n, dl_u, eq_self, not_true_eq_false, not_false_eq_true, n10, n01, nm0, n0m, ty71, y4, b5, l5, nI_ml, nI_add, e1, i1, imp_t, imp_f]
    refine hk _ J E (fun Γ l d kr kx hk2 => c_put h40 s9 (fun c => absurd (vim h40 s9 hw rfl) c) (fun _ c => absurd hin c) (fun w' k' a e b f => ?_) (fun w' k' a e b f => ?_))
    · rw [nI_eq (by omega) (by omega)] at f; omega
    · rw [nI_eq (by omega) (by omega)] at e f
      have : k' = m := by omega
      subst e; subst this
      have := (hD.2.2.2.2.2.2.2.1 (w * 3 + k') i1).2
      rw [show 468 + 3 * w + k' = 468 + (w * 3 + k') by omega, ← this]
      exact hk2 _ hG0.th up_s
  · have i1 : w * 3 + k < 27 := by omega
    simp only [ixr_of, run_s, run_0, rH_put, rok_i, rok_z, bx_cons, bx_nil, eADD, eC0, eC3, eC5, eCV1, eCV3, eGR, eIALD, jICge, eLA0, eLI1, eLI2, eMUL, eRI, eSUB, fH_put_0, fH_put_17, fH_put_31, bH_put_0, bH_put_17, bH_put_31, ln_ximages, ln_xthought, rg_xmain_0, rg_xmain_1, rg_xmain_10, rg_xmain_2, rg_xmain_3, rg_xmain_4, rg_xmain_5, rg_xmain_6, rg_xmain_7, ty_xaqueduct, ty_xdiary, ty_xforesight, ty_ximages, ty_xmain, ty_xnow, ty_xopinionReader, ty_xtape, ty_xtasters, ty_xthought, Option.toList_some, Option.toList_none, List.cons_append, List.nil_append, List.length_cons, List.length_nil, List.mem_cons, List.not_mem_nil, or_false, false_or, or_true, true_or, ↓reduceIte, true_and, and_true, Nat.reduceEqDiff, Nat.reduceAdd, Nat.reduceLeDiff, Nat.reduceLT, dl_i, dl_r, dl_n, dl_u, eq_self, not_true_eq_false, not_false_eq_true, n10, n01, nm0, n0m, ty71, y3, b4, l4, nI_ml, nI_add, i1, imp_t, imp_f]
    refine hk _ J E (fun Γ l d kr kx hk2 => c_put h40 s9 (fun c => absurd (vim h40 s9 hw rfl) c) (fun _ c => absurd hin c) (fun w' k' a e b f => ?_) (fun w' k' a e b f => ?_))
    · rw [nI_eq (by omega) (by omega)] at e f
      subst e; subst f
      have := (hD.2.2.2.2.2.2.2.1 (w * 3 + k) i1).1
      rw [show 441 + 3 * w + k = 441 + (w * 3 + k) by omega, ← this]
      exact hk2 _ hG0.th up_s
    · rw [nI_eq (by omega) (by omega)] at f; omega

theorem g_led {q z : Nat} {J : Iv} {E : Ev} {v x y : Int32} (h : GS q z J E) : StX mH_led mM_led [.int v, .int x, .int y] 1 2 q z J E := by
  have hG0 := h
  obtain ⟨S, PS, t, op, bk, kb, n, n0, p, c, mk, tp, im, nim, rw', r1, r2, r3, r4, r5, r6, r7, r8, r9⟩ := h
  have hS := r1.1.1.2.2.2.1
  have s9 := hS.1
  have hVS := r1.1.2.2.1
  have hq32 := r4.1.1
  obtain ⟨g3, hT, hXt, -⟩ := id r1.1.1
  have tT : tyc shN E t = 10 := (hT.A (b := true) (E := E)).1
  have v7 := hXt.1
  have h40 := hVS.1
  have hD := r3.1.2.1
  have ty71 : tyc shN E 71 = 3 := dyA_71.1
  obtain ⟨-, ⟨y0, y1, y2, y3, y4, y5, y6⟩, ⟨b1, b2, b3, b4, b5, b6, b7⟩, l1, l2, l3, l4, l5, l6, l7⟩ := (dyA_71 (b := true) (E := E))
  by_cases hv : ∃ w, w < S.1.1 ∧ v = nI w
  rotate_left
  · refine ⟨(1, 6), q, z, Cst.x, hq32, fun Γ l d kr kx hG _ hxN hxI => ?_⟩
    refine ex_of (ls0 := [some (.ref 0), some (.int v), some (.int x), some (.int y)]) tH_led (by decide +kernel) kH_led rfl (Nat.le_of_ble_eq_true rfl) rfl ?_
    intro go hgo
    refine hgo 20 [] 0 _ _ _ _ _ ?_
    simp only [ixr_of, run_s, run_0, rH_led, rok_i, rok_z, bx_cons, bx_nil, eC0, eC2, eCV1, eCV3, eGR, eIALD, eLA0, eLI1, eLI2, eLI3, eRI, fH_led_0, bH_led_0, ln_ximages, ln_xthought, rg_xmain_0, rg_xmain_1, rg_xmain_10, rg_xmain_2, rg_xmain_3, rg_xmain_4, rg_xmain_5, rg_xmain_6, rg_xmain_7, ty_xaqueduct, ty_xdiary, ty_xforesight, ty_ximages, ty_xmain, ty_xnow, ty_xopinionReader, ty_xtape, ty_xtasters, ty_xthought, Option.toList_some, Option.toList_none, List.cons_append, List.nil_append, List.length_cons, List.length_nil, List.mem_cons, List.not_mem_nil, or_false, false_or, or_true, true_or, ↓reduceIte, true_and, and_true, Nat.reduceEqDiff, Nat.reduceAdd, Nat.reduceLeDiff, Nat.reduceLT, dl_i, dl_r, dl_n, dl_u, eq_self, not_true_eq_false, not_false_eq_true, n10, n01, nm0, n0m, imp_t, imp_f]
    refine ⟨1, 6, fun _ => Nat.le_refl _, fun _ => Nat.le_refl _, x_needVillageX hG.1.1 hG.2.1 hG.2.2 g3 tT v7 (vin_n s9 hv) (hxN _ _ (fun Γ l d kr kx hk => ?_))⟩
    exact c_led (by rw [up_n (by omega)]; exact h40) s9 (fun _ => hk _ (hG0.rf (rn := 0) (w := 1) (by decide)).1.un (hG0.rf (rn := 0) (w := 1) (by decide)).2) (fun c _ => absurd c.1 (vim_n (by rw [up_n (by omega)]; exact h40) s9 hv)) (fun w k u a e _ _ _ _ => absurd ⟨w, a, e⟩ hv)
  obtain ⟨w, hw, rfl⟩ := hv
  by_cases hy : ∃ w, w < S.1.1 ∧ y = nI w
  rotate_left
  · refine ⟨(1, 6), q, z, Cst.x, hq32, fun Γ l d kr kx hG _ hxN hxI => ?_⟩
    refine ex_of (ls0 := [some (.ref 0), some (.int (nI w)), some (.int x), some (.int y)]) tH_led (by decide +kernel) kH_led rfl (Nat.le_of_ble_eq_true rfl) rfl ?_
    intro go hgo
    refine hgo 20 [] 0 _ _ _ _ _ ?_
    simp only [ixr_of, run_s, run_0, rH_led, rok_i, rok_z, bx_cons, bx_nil, eC0, eC2, eCV1, eCV3, eGR, eIALD, eLA0, eLI1, eLI2, eLI3, eRI, fH_led_0, bH_led_0, ln_ximages, ln_xthought, rg_xmain_0, rg_xmain_1, rg_xmain_10, rg_xmain_2, rg_xmain_3, rg_xmain_4, rg_xmain_5, rg_xmain_6, rg_xmain_7, ty_xaqueduct, ty_xdiary, ty_xforesight, ty_ximages, ty_xmain, ty_xnow, ty_xopinionReader, ty_xtape, ty_xtasters, ty_xthought, Option.toList_some, Option.toList_none, List.cons_append, List.nil_append, List.length_cons, List.length_nil, List.mem_cons, List.not_mem_nil, or_false, false_or, or_true, true_or, ↓reduceIte, true_and, and_true, Nat.reduceEqDiff, Nat.reduceAdd, Nat.reduceLeDiff, Nat.reduceLT, dl_i, dl_r, dl_n, dl_u, eq_self, not_true_eq_false, not_false_eq_true, n10, n01, nm0, n0m, imp_t, imp_f]
    refine call0 (x_needVillage g3 tT v7 (vin rfl ⟨hw, s9⟩) ?_)
    simp only [ixr_of, run_s, run_0, rH_led, rok_i, rok_z, bx_cons, bx_nil, eC0, eC2, eCV1, eCV3, eGR, eIALD, eLA0, eLI1, eLI2, eLI3, eRI, fH_led_0, bH_led_0, ln_ximages, ln_xthought, rg_xmain_0, rg_xmain_1, rg_xmain_10, rg_xmain_2, rg_xmain_3, rg_xmain_4, rg_xmain_5, rg_xmain_6, rg_xmain_7, ty_xaqueduct, ty_xdiary, ty_xforesight, ty_ximages, ty_xmain, ty_xnow, ty_xopinionReader, ty_xtape, ty_xtasters, ty_xthought, Option.toList_some, Option.toList_none, List.cons_append, List.nil_append, List.length_cons, List.length_nil, List.mem_cons, List.not_mem_nil, or_false, false_or, or_true, true_or, ↓reduceIte, true_and, and_true, Nat.reduceEqDiff, Nat.reduceAdd, Nat.reduceLeDiff, Nat.reduceLT, dl_i, dl_r, dl_n, dl_u, eq_self, not_true_eq_false, not_false_eq_true, n10, n01, nm0, n0m, imp_t, imp_f]
    refine ⟨1, 6, fun _ => Nat.le_refl _, fun _ => Nat.le_refl _, x_needVillageX hG.1.1 hG.2.1 hG.2.2 g3 tT v7 (vin_n s9 hy) (hxN _ _ (fun Γ l d kr kx hk => ?_))⟩
    exact c_led (by rw [up_n (by omega)]; exact h40) s9 (fun _ => hk _ (hG0.rf (rn := 0) (w := 1) (by decide)).1.un (hG0.rf (rn := 0) (w := 1) (by decide)).2) (fun c _ => absurd c.2 (vim_n (by rw [up_n (by omega)]; exact h40) s9 hy)) (fun w k u a e b f _ _ => absurd ⟨u, b, f⟩ hy)
  obtain ⟨u, hu, rfl⟩ := hy
  by_cases hin : nI 0 ≤ x ∧ x ≤ nI 2
  rotate_left
  · refine ⟨(1, 6), q, z, Cst.x, hq32, fun Γ l d kr kx hG _ hxN hxI => ?_⟩
    refine ex_of (ls0 := [some (.ref 0), some (.int (nI w)), some (.int x), some (.int (nI u))]) tH_led (by decide +kernel) kH_led rfl (Nat.le_of_ble_eq_true rfl) rfl ?_
    intro go hgo
    refine hgo 20 [] 0 _ _ _ _ _ ?_
    simp only [ixr_of, run_s, run_0, rH_led, rok_i, rok_z, bx_cons, bx_nil, eC0, eC2, eCV1, eCV3, eGR, eIALD, eLA0, eLI1, eLI2, eLI3, eRI, fH_led_0, bH_led_0, ln_ximages, ln_xthought, rg_xmain_0, rg_xmain_1, rg_xmain_10, rg_xmain_2, rg_xmain_3, rg_xmain_4, rg_xmain_5, rg_xmain_6, rg_xmain_7, ty_xaqueduct, ty_xdiary, ty_xforesight, ty_ximages, ty_xmain, ty_xnow, ty_xopinionReader, ty_xtape, ty_xtasters, ty_xthought, Option.toList_some, Option.toList_none, List.cons_append, List.nil_append, List.length_cons, List.length_nil, List.mem_cons, List.not_mem_nil, or_false, false_or, or_true, true_or, ↓reduceIte, true_and, and_true, Nat.reduceEqDiff, Nat.reduceAdd, Nat.reduceLeDiff, Nat.reduceLT, dl_i, dl_r, dl_n, dl_u, eq_self, not_true_eq_false, not_false_eq_true, n10, n01, nm0, n0m, imp_t, imp_f]
    refine call0 (x_needVillage g3 tT v7 (vin rfl ⟨hw, s9⟩) ?_)
    simp only [ixr_of, run_s, run_0, rH_led, rok_i, rok_z, bx_cons, bx_nil, eC0, eC2, eCV1, eCV3, eGR, eIALD, eLA0, eLI1, eLI2, eLI3, eRI, fH_led_0, bH_led_0, ln_ximages, ln_xthought, rg_xmain_0, rg_xmain_1, rg_xmain_10, rg_xmain_2, rg_xmain_3, rg_xmain_4, rg_xmain_5, rg_xmain_6, rg_xmain_7, ty_xaqueduct, ty_xdiary, ty_xforesight, ty_ximages, ty_xmain, ty_xnow, ty_xopinionReader, ty_xtape, ty_xtasters, ty_xthought, Option.toList_some, Option.toList_none, List.cons_append, List.nil_append, List.length_cons, List.length_nil, List.mem_cons, List.not_mem_nil, or_false, false_or, or_true, true_or, ↓reduceIte, true_and, and_true, Nat.reduceEqDiff, Nat.reduceAdd, Nat.reduceLeDiff, Nat.reduceLT, dl_i, dl_r, dl_n, dl_u, eq_self, not_true_eq_false, not_false_eq_true, n10, n01, nm0, n0m, imp_t, imp_f]
    refine call0 (x_needVillage g3 tT v7 (vin rfl ⟨hu, s9⟩) ?_)
    simp only [ixr_of, run_s, run_0, rH_led, rok_i, rok_z, bx_cons, bx_nil, eC0, eC2, eCV1, eCV3, eGR, eIALD, eLA0, eLI1, eLI2, eLI3, eRI, fH_led_0, bH_led_0, ln_ximages, ln_xthought, rg_xmain_0, rg_xmain_1, rg_xmain_10, rg_xmain_2, rg_xmain_3, rg_xmain_4, rg_xmain_5, rg_xmain_6, rg_xmain_7, ty_xaqueduct, ty_xdiary, ty_xforesight, ty_ximages, ty_xmain, ty_xnow, ty_xopinionReader, ty_xtape, ty_xtasters, ty_xthought, Option.toList_some, Option.toList_none, List.cons_append, List.nil_append, List.length_cons, List.length_nil, List.mem_cons, List.not_mem_nil, or_false, false_or, or_true, true_or, ↓reduceIte, true_and, and_true, Nat.reduceEqDiff, Nat.reduceAdd, Nat.reduceLeDiff, Nat.reduceLT, dl_i, dl_r, dl_n, dl_u, eq_self, not_true_eq_false, not_false_eq_true, n10, n01, nm0, n0m, imp_t, imp_f]
    refine ⟨1, 6, fun _ => Nat.le_refl _, fun _ => Nat.le_refl _, x_needInX hG.1.1 hG.2.1 hG.2.2 hin (hxI _ _ (fun Γ l d kr kx hk => ?_))⟩
    exact c_led (by rw [up_n (by omega)]; exact h40) s9 (fun c => absurd ⟨vim (by rw [up_n (by omega)]; exact h40) s9 hw rfl, vim (by rw [up_n (by omega)]; exact h40) s9 hu rfl⟩ c) (fun _ _ => hk _ (hG0.rf (rn := 1) (w := 2) (by decide)).1.un (hG0.rf (rn := 1) (w := 2) (by decide)).2) (fun w k u a e b f g i => absurd (by rw [i]; exact rgI (by omega) (by omega) (by decide)) hin)
  obtain ⟨k, hk2, rfl⟩ := rng (by decide) hin
  refine ⟨(0, 0), q, z, Cst.no, hq32, fun Γ l d kr kx hG hk _ _ => ?_⟩
  refine ex_of (ls0 := [some (.ref 0), some (.int (nI w)), some (.int (nI k)), some (.int (nI u))]) tH_led (by decide +kernel) kH_led rfl (Nat.le_of_ble_eq_true rfl) rfl ?_
  intro go hgo
  refine hgo 20 [] 0 _ _ _ _ _ ?_
  simp only [ixr_of, run_s, run_0, rH_led, rok_i, rok_z, bx_cons, bx_nil, eC0, eC2, eCV1, eCV3, eGR, eIALD, eLA0, eLI1, eLI2, eLI3, eRI, fH_led_0, bH_led_0, ln_ximages, ln_xthought, rg_xmain_0, rg_xmain_1, rg_xmain_10, rg_xmain_2, rg_xmain_3, rg_xmain_4, rg_xmain_5, rg_xmain_6, rg_xmain_7, ty_xaqueduct, ty_xdiary, ty_xforesight, ty_ximages, ty_xmain, ty_xnow, ty_xopinionReader, ty_xtape, ty_xtasters, ty_xthought, Option.toList_some, Option.toList_none, List.cons_append, List.nil_append, List.length_cons, List.length_nil, List.mem_cons, List.not_mem_nil, or_false, false_or, or_true, true_or, ↓reduceIte, true_and, and_true, Nat.reduceEqDiff, Nat.reduceAdd, Nat.reduceLeDiff, Nat.reduceLT, dl_i, dl_r, dl_n, dl_u, eq_self, not_true_eq_false, not_false_eq_true, n10, n01, nm0, n0m, imp_t, imp_f]
  refine call0 (x_needVillage g3 tT v7 (vin rfl ⟨hw, s9⟩) ?_)
  simp only [ixr_of, run_s, run_0, rH_led, rok_i, rok_z, bx_cons, bx_nil, eC0, eC2, eCV1, eCV3, eGR, eIALD, eLA0, eLI1, eLI2, eLI3, eRI, fH_led_0, bH_led_0, ln_ximages, ln_xthought, rg_xmain_0, rg_xmain_1, rg_xmain_10, rg_xmain_2, rg_xmain_3, rg_xmain_4, rg_xmain_5, rg_xmain_6, rg_xmain_7, ty_xaqueduct, ty_xdiary, ty_xforesight, ty_ximages, ty_xmain, ty_xnow, ty_xopinionReader, ty_xtape, ty_xtasters, ty_xthought, Option.toList_some, Option.toList_none, List.cons_append, List.nil_append, List.length_cons, List.length_nil, List.mem_cons, List.not_mem_nil, or_false, false_or, or_true, true_or, ↓reduceIte, true_and, and_true, Nat.reduceEqDiff, Nat.reduceAdd, Nat.reduceLeDiff, Nat.reduceLT, dl_i, dl_r, dl_n, dl_u, eq_self, not_true_eq_false, not_false_eq_true, n10, n01, nm0, n0m, imp_t, imp_f]
  refine call0 (x_needVillage g3 tT v7 (vin rfl ⟨hu, s9⟩) ?_)
  simp only [ixr_of, run_s, run_0, rH_led, rok_i, rok_z, bx_cons, bx_nil, eC0, eC2, eCV1, eCV3, eGR, eIALD, eLA0, eLI1, eLI2, eLI3, eRI, fH_led_0, bH_led_0, ln_ximages, ln_xthought, rg_xmain_0, rg_xmain_1, rg_xmain_10, rg_xmain_2, rg_xmain_3, rg_xmain_4, rg_xmain_5, rg_xmain_6, rg_xmain_7, ty_xaqueduct, ty_xdiary, ty_xforesight, ty_ximages, ty_xmain, ty_xnow, ty_xopinionReader, ty_xtape, ty_xtasters, ty_xthought, Option.toList_some, Option.toList_none, List.cons_append, List.nil_append, List.length_cons, List.length_nil, List.mem_cons, List.not_mem_nil, or_false, false_or, or_true, true_or, ↓reduceIte, true_and, and_true, Nat.reduceEqDiff, Nat.reduceAdd, Nat.reduceLeDiff, Nat.reduceLT, dl_i, dl_r, dl_n, dl_u, eq_self, not_true_eq_false, not_false_eq_true, n10, n01, nm0, n0m, imp_t, imp_f]
  refine call0 (x_needIn hin ?_)
  simp only [ixr_of, run_s, run_0, rH_led, rok_i, rok_z, bx_cons, bx_nil, eC0, eC2, eCV1, eCV3, eGR, eIALD, eLA0, eLI1, eLI2, eLI3, eRI, fH_led_0, bH_led_0, ln_ximages, ln_xthought, rg_xmain_0, rg_xmain_1, rg_xmain_10, rg_xmain_2, rg_xmain_3, rg_xmain_4, rg_xmain_5, rg_xmain_6, rg_xmain_7, ty_xaqueduct, ty_xdiary, ty_xforesight, ty_ximages, ty_xmain, ty_xnow, ty_xopinionReader, ty_xtape, ty_xtasters, ty_xthought, Option.toList_some, Option.toList_none, List.cons_append, List.nil_append, List.length_cons, List.length_nil, List.mem_cons, List.not_mem_nil, or_false, false_or, or_true, true_or, ↓reduceIte, true_and, and_true, Nat.reduceEqDiff, Nat.reduceAdd, Nat.reduceLeDiff, Nat.reduceLT, dl_i, dl_r, dl_n, dl_u, eq_self, not_true_eq_false, not_false_eq_true, n10, n01, nm0, n0m, imp_t, imp_f]
  have i1 := cl_lt s9 hw (show k < 3 by omega) hu
  simp only [ixr_of, run_s, run_0, rH_led, rok_i, rok_z, bx_cons, bx_nil, eC0, eC2, eCV1, eCV3, eGR, eIALD, eLA0, eLI1, eLI2, eLI3, eRI, fH_led_0, bH_led_0, ln_ximages, ln_xthought, rg_xmain_0, rg_xmain_1, rg_xmain_10, rg_xmain_2, rg_xmain_3, rg_xmain_4, rg_xmain_5, rg_xmain_6, rg_xmain_7, ty_xaqueduct, ty_xdiary, ty_xforesight, ty_ximages, ty_xmain, ty_xnow, ty_xopinionReader, ty_xtape, ty_xtasters, ty_xthought, Option.toList_some, Option.toList_none, List.cons_append, List.nil_append, List.length_cons, List.length_nil, List.mem_cons, List.not_mem_nil, or_false, false_or, or_true, true_or, ↓reduceIte, true_and, and_true, Nat.reduceEqDiff, Nat.reduceAdd, Nat.reduceLeDiff, Nat.reduceLT, dl_i, dl_r, dl_n, dl_u, eq_self, not_true_eq_false, not_false_eq_true, n10, n01, nm0, n0m, ty71, y0, imp_t, imp_f]
  refine call0 (x_cell dyA_71 hD.1 ?_)
  simp only [ixr_of, run_s, run_0, rH_led, rok_i, rok_z, bx_cons, bx_nil, eC0, eC2, eCV1, eCV3, eGR, eIALD, eLA0, eLI1, eLI2, eLI3, eRI, fH_led_0, bH_led_0, ln_ximages, ln_xthought, rg_xmain_0, rg_xmain_1, rg_xmain_10, rg_xmain_2, rg_xmain_3, rg_xmain_4, rg_xmain_5, rg_xmain_6, rg_xmain_7, ty_xaqueduct, ty_xdiary, ty_xforesight, ty_ximages, ty_xmain, ty_xnow, ty_xopinionReader, ty_xtape, ty_xtasters, ty_xthought, Option.toList_some, Option.toList_none, List.cons_append, List.nil_append, List.length_cons, List.length_nil, List.mem_cons, List.not_mem_nil, or_false, false_or, or_true, true_or, ↓reduceIte, true_and, and_true, Nat.reduceEqDiff, Nat.reduceAdd, Nat.reduceLeDiff, Nat.reduceLT, dl_i, dl_r, dl_n, dl_u, eq_self, not_true_eq_false, not_false_eq_true, n10, n01, nm0, n0m, b1, l1, i1, imp_t, imp_f]
  refine hk _ J E (fun Γ l d kr kx hk2 => c_led h40 s9 (fun c => absurd ⟨vim h40 s9 hw rfl, vim h40 s9 hu rfl⟩ c) (fun _ c => absurd hin c) (fun w' k' u' a e b f g i => ?_))
  rw [nI_eq (by omega) (by omega)] at e f i
  subst e; subst f; subst i
  have := hD.2.2.2.1.2 w k u hw g hu
  rw [← this]
  exact hk2 _ hG0.th up_s

theorem g_count {q z : Nat} {J : Iv} {E : Ev} {x : Int32} (h : GS q z J E) : StX0 mH_count mM_count [.int x] q z J E := by
  have hG0 := h
  obtain ⟨S, PS, t, op, bk, kb, n, n0, p, c, mk, tp, im, nim, rw', r1, r2, r3, r4, r5, r6, r7, r8, r9⟩ := h
  have hS := r1.1.1.2.2.2.1
  have s9 := hS.1
  have hVS := r1.1.2.2.1
  have hq32 := r4.1.1
  obtain ⟨g3, hT, hXt, -⟩ := id r1.1.1
  have tT : tyc shN E t = 10 := (hT.A (b := true) (E := E)).1
  have v7 := hXt.1
  have h40 := hVS.1
  have hD := r3.1.2.1
  have ty71 : tyc shN E 71 = 3 := dyA_71.1
  obtain ⟨-, ⟨y0, y1, y2, y3, y4, y5, y6⟩, ⟨b1, b2, b3, b4, b5, b6, b7⟩, l1, l2, l3, l4, l5, l6, l7⟩ := (dyA_71 (b := true) (E := E))
  have e9 : J 71 9 = nI n := hD.2.1
  have e79 : J 79 1 = nI n0 := r4.2.2.1
  have esub : nI n - nI n0 = nI (n - n0) := nI_sb r4.2.2.2.1
  refine ⟨(0, 0), q, z, Cst.no, hq32, fun Γ l d kr kx hG hk => ?_⟩
  have key : ∀ a, a = (if x = nI 0 then J 0 12 else if x = nI 1 then J 1 1 else if x = nI 2 then nI (n - n0) else -1) → MAns mM_count [.ref 500000, .int x] a 0 q z J E := by
    intro a ha Γ l d kr kx hk2
    refine c_count ?_
    have : a = (if x = nI 0 then J 500000 40 else if x = nI 1 then J 500000 1 else if x = nI 2 then J 500000 39 else -1) := by
      rw [ha, r5.1, r6.1, r5.2.2.1, r6.2.1, r4.2.2.2.2.2.1]
    rw [← this]
    exact hk2 _ hG0.th up_s
  refine ex_of (ls0 := [some (.ref 0), some (.int x)]) tH_count (by decide +kernel) kH_count rfl (Nat.le_of_ble_eq_true rfl) rfl ?_
  intro go hgo
  refine hgo 20 [] 0 _ _ _ _ _ ?_
  simp only [ixr_of, run_s, run_0, rH_count, rok_i, rok_z, bx_cons, bx_nil, eCm1, eGI, eGR, eLA0, eLI1, eRI, eSUB, eSW, jswA_c, swA_n, fH_count_0, fH_count_28, fH_count_33, fH_count_41, fH_count_57, bH_count_0, bH_count_28, bH_count_33, bH_count_41, bH_count_57, ln_ximages, ln_xthought, rg_xmain_0, rg_xmain_1, rg_xmain_10, rg_xmain_2, rg_xmain_3, rg_xmain_4, rg_xmain_5, rg_xmain_6, rg_xmain_7, ty_xaqueduct, ty_xdiary, ty_xforesight, ty_ximages, ty_xmain, ty_xnow, ty_xopinionReader, ty_xtape, ty_xtasters, ty_xthought, Option.toList_some, Option.toList_none, List.cons_append, List.nil_append, List.length_cons, List.length_nil, List.mem_cons, List.not_mem_nil, or_false, false_or, or_true, true_or, ↓reduceIte, true_and, and_true, Nat.reduceEqDiff, Nat.reduceAdd, Nat.reduceLeDiff, Nat.reduceLT, dl_i, dl_r, dl_n, dl_u, eq_self, not_true_eq_false, not_false_eq_true, n10, n01, nm0, n0m, ty71, e9, e79, esub, imp_t, imp_f]
  refine ⟨⟨fun x0 => ?_, fun x1 => ?_, fun x2 => ?_⟩, fun hno => ?_⟩
  · exact hk _ J E (key _ (by rw [if_pos x0]))
  · exact hk _ J E (key _ (by rw [x1, if_neg (by decide), if_pos rfl]))
  · exact hk _ J E (key _ (by rw [x2, if_neg (by decide), if_neg (by decide), if_pos rfl]))
  · exact hk _ J E (key _ (by rw [if_neg (hno 0 (by decide)), if_neg (hno 1 (by decide)), if_neg (hno 2 (by decide))]))

theorem g_told {q z : Nat} {J : Iv} {E : Ev} {x : Int32} (h : GS q z J E) : StX1 mH_told mM_told [.int x] 1 q z J E := by
  have hG0 := h
  obtain ⟨S, PS, t, op, bk, kb, n, n0, p, c, mk, tp, im, nim, rw', r1, r2, r3, r4, r5, r6, r7, r8, r9⟩ := h
  have hS := r1.1.1.2.2.2.1
  have s9 := hS.1
  have hVS := r1.1.2.2.1
  have hq32 := r4.1.1
  obtain ⟨g3, hT, hXt, -⟩ := id r1.1.1
  have tT : tyc shN E t = 10 := (hT.A (b := true) (E := E)).1
  have v7 := hXt.1
  have h40 := hVS.1
  have hD := r3.1.2.1
  have ty71 : tyc shN E 71 = 3 := dyA_71.1
  obtain ⟨-, ⟨y0, y1, y2, y3, y4, y5, y6⟩, ⟨b1, b2, b3, b4, b5, b6, b7⟩, l1, l2, l3, l4, l5, l6, l7⟩ := (dyA_71 (b := true) (E := E))
  by_cases hin : nI 0 ≤ x ∧ x ≤ nI 7
  rotate_left
  · refine ⟨(1, 6), q, z, Cst.x, hq32, fun Γ l d kr kx hG _ hxI => ?_⟩
    refine ex_of (ls0 := [some (.ref 0), some (.int x)]) tH_told (by decide +kernel) kH_told rfl (Nat.le_of_ble_eq_true rfl) rfl ?_
    intro go hgo
    refine hgo 20 [] 0 _ _ _ _ _ ?_
    simp only [ixr_of, run_s, run_0, rH_told, rok_i, rok_z, bx_cons, bx_nil, eBP, eC0, eCV3, eGI, eGR, eLA0, eLI1, eRI, eSW, jswA_c, swA_n, fH_told_0, fH_told_52, fH_told_63, fH_told_74, fH_told_85, fH_told_96, fH_told_104, fH_told_112, fH_told_120, bH_told_0, bH_told_52, bH_told_63, bH_told_74, bH_told_85, bH_told_96, bH_told_104, bH_told_112, bH_told_120, ln_ximages, ln_xthought, rg_xmain_0, rg_xmain_1, rg_xmain_10, rg_xmain_2, rg_xmain_3, rg_xmain_4, rg_xmain_5, rg_xmain_6, rg_xmain_7, ty_xaqueduct, ty_xdiary, ty_xforesight, ty_ximages, ty_xmain, ty_xnow, ty_xopinionReader, ty_xtape, ty_xtasters, ty_xthought, Option.toList_some, Option.toList_none, List.cons_append, List.nil_append, List.length_cons, List.length_nil, List.mem_cons, List.not_mem_nil, or_false, false_or, or_true, true_or, ↓reduceIte, true_and, and_true, Nat.reduceEqDiff, Nat.reduceAdd, Nat.reduceLeDiff, Nat.reduceLT, dl_i, dl_r, dl_n, dl_u, eq_self, not_true_eq_false, not_false_eq_true, n10, n01, nm0, n0m, imp_t, imp_f]
    refine ⟨1, 6, fun _ => Nat.le_refl _, fun _ => Nat.le_refl _, x_needInX hG.1.1 hG.2.1 hG.2.2 hin (hxI _ _ (fun Γ l d kr kx hk => ?_))⟩
    exact c_told (fun _ => hk _ (hG0.rf (rn := 1) (w := 1) (by decide)).1.un (hG0.rf (rn := 1) (w := 1) (by decide)).2) (fun k hk e => absurd (by rw [e]; exact rgI (by omega) (by omega) (by decide)) hin)
  obtain ⟨k0, hk7, rfl⟩ := rng (by decide) hin
  obtain ⟨rB, idb, xB, vB⟩ := id r2.1
  have tB : tyc shN E kb = 2 := (idb.A (b := true) (E := E)).1
  have eL := xB.1
  obtain ⟨X10, X11, X12, X13, X14, -⟩ := id hXt
  have hMT := r1.1.2.1
  have key : ∀ a, (∀ k, k ≤ 7 → k0 = k → a = (if k < 3 then J 500004 k else if k = 3 then J 500004 4 else if k = 4 then J 500124 501 else if k = 5 then J 500000 37 else if k = 6 then J 500000 38 else J 500000 36)) → MAns mM_told [.ref 500000, .int (nI k0)] a 0 q z J E := by
    intro a ha Γ l d kr kx hk2
    refine c_told (fun c => absurd hin c) (fun k hk' e => ?_)
    rw [nI_eq (by omega) (by omega)] at e
    rw [← ha k hk' e]
    exact hk2 _ hG0.th up_s
  refine ⟨(0, 0), q, z, Cst.no, hq32, fun Γ l d kr kx hG hk _ => ?_⟩
  refine ex_of (ls0 := [some (.ref 0), some (.int (nI k0))]) tH_told (by decide +kernel) kH_told rfl (Nat.le_of_ble_eq_true rfl) rfl ?_
  intro go hgo
  refine hgo 20 [] 0 _ _ _ _ _ ?_
  simp only [ixr_of, run_s, run_0, rH_told, rok_i, rok_z, bx_cons, bx_nil, eBP, eC0, eCV3, eGI, eGR, eLA0, eLI1, eRI, eSW, jswA_c, swA_n, fH_told_0, fH_told_52, fH_told_63, fH_told_74, fH_told_85, fH_told_96, fH_told_104, fH_told_112, fH_told_120, bH_told_0, bH_told_52, bH_told_63, bH_told_74, bH_told_85, bH_told_96, bH_told_104, bH_told_112, bH_told_120, ln_ximages, ln_xthought, rg_xmain_0, rg_xmain_1, rg_xmain_10, rg_xmain_2, rg_xmain_3, rg_xmain_4, rg_xmain_5, rg_xmain_6, rg_xmain_7, ty_xaqueduct, ty_xdiary, ty_xforesight, ty_ximages, ty_xmain, ty_xnow, ty_xopinionReader, ty_xtape, ty_xtasters, ty_xthought, Option.toList_some, Option.toList_none, List.cons_append, List.nil_append, List.length_cons, List.length_nil, List.mem_cons, List.not_mem_nil, or_false, false_or, or_true, true_or, ↓reduceIte, true_and, and_true, Nat.reduceEqDiff, Nat.reduceAdd, Nat.reduceLeDiff, Nat.reduceLT, dl_i, dl_r, dl_n, dl_u, eq_self, not_true_eq_false, not_false_eq_true, n10, n01, nm0, n0m, imp_t, imp_f]
  refine call0 (x_needIn hin ?_)
  simp only [ixr_of, run_s, run_0, rH_told, rok_i, rok_z, bx_cons, bx_nil, eBP, eC0, eCV3, eGI, eGR, eLA0, eLI1, eRI, eSW, jswA_c, swA_n, fH_told_0, fH_told_52, fH_told_63, fH_told_74, fH_told_85, fH_told_96, fH_told_104, fH_told_112, fH_told_120, bH_told_0, bH_told_52, bH_told_63, bH_told_74, bH_told_85, bH_told_96, bH_told_104, bH_told_112, bH_told_120, ln_ximages, ln_xthought, rg_xmain_0, rg_xmain_1, rg_xmain_10, rg_xmain_2, rg_xmain_3, rg_xmain_4, rg_xmain_5, rg_xmain_6, rg_xmain_7, ty_xaqueduct, ty_xdiary, ty_xforesight, ty_ximages, ty_xmain, ty_xnow, ty_xopinionReader, ty_xtape, ty_xtasters, ty_xthought, Option.toList_some, Option.toList_none, List.cons_append, List.nil_append, List.length_cons, List.length_nil, List.mem_cons, List.not_mem_nil, or_false, false_or, or_true, true_or, ↓reduceIte, true_and, and_true, Nat.reduceEqDiff, Nat.reduceAdd, Nat.reduceLeDiff, Nat.reduceLT, dl_i, dl_r, dl_n, dl_u, eq_self, not_true_eq_false, not_false_eq_true, n10, n01, nm0, n0m, imp_t, imp_f]
  simp only [ixr_of, run_s, run_0, rH_told, rok_i, rok_z, bx_cons, bx_nil, eBP, eC0, eCV3, eGI, eGR, eLA0, eLI1, eRI, eSW, jswA_c, swA_n, fH_told_0, fH_told_52, fH_told_63, fH_told_74, fH_told_85, fH_told_96, fH_told_104, fH_told_112, fH_told_120, bH_told_0, bH_told_52, bH_told_63, bH_told_74, bH_told_85, bH_told_96, bH_told_104, bH_told_112, bH_told_120, ln_ximages, ln_xthought, rg_xmain_0, rg_xmain_1, rg_xmain_10, rg_xmain_2, rg_xmain_3, rg_xmain_4, rg_xmain_5, rg_xmain_6, rg_xmain_7, ty_xaqueduct, ty_xdiary, ty_xforesight, ty_ximages, ty_xmain, ty_xnow, ty_xopinionReader, ty_xtape, ty_xtasters, ty_xthought, Option.toList_some, Option.toList_none, List.cons_append, List.nil_append, List.length_cons, List.length_nil, List.mem_cons, List.not_mem_nil, or_false, false_or, or_true, true_or, ↓reduceIte, true_and, and_true, Nat.reduceEqDiff, Nat.reduceAdd, Nat.reduceLeDiff, Nat.reduceLT, dl_i, dl_r, dl_n, dl_u, eq_self, not_true_eq_false, not_false_eq_true, n10, n01, nm0, n0m, g3, tT, X10, X11, X12, X14, ty71, rB, tB, eL, imp_t, imp_f]
  have ev : ∀ i, i < 8 → (nI k0 = nI i ↔ k0 = i) := fun i hi => nI_eq (by omega) (by omega)
  refine ⟨⟨fun e => ?_, fun e => ?_, fun e => ?_, fun e => ?_, fun e => ?_, fun e => ?_, fun e => ?_⟩, fun hno => ?_⟩
  · rw [ev 0 (by decide)] at e; exact hk _ J E (key _ (fun k _ hk' => by subst hk'; subst e; rw [if_pos (by decide)]; exact h40.symm))
  · rw [ev 1 (by decide)] at e; exact hk _ J E (key _ (fun k _ hk' => by subst hk'; subst e; rw [if_pos (by decide)]; exact hVS.2.2.1.symm))
  · rw [ev 2 (by decide)] at e; exact hk _ J E (key _ (fun k _ hk' => by subst hk'; subst e; rw [if_pos (by decide)]; exact hMT.1.symm))
  · rw [ev 3 (by decide)] at e; exact hk _ J E (key _ (fun k _ hk' => by subst hk'; subst e; rw [if_neg (by decide), if_pos rfl]; exact r1.2.2.2.2.1.symm))
  · rw [ev 4 (by decide)] at e; exact hk _ J E (key _ (fun k _ hk' => by subst hk'; subst e; rw [if_neg (by decide), if_neg (by decide), if_pos rfl]; exact hD.2.1.trans hD.2.2.1.symm))
  · rw [ev 5 (by decide)] at e; exact hk _ J E (key _ (fun k _ hk' => by subst hk'; subst e; rw [if_neg (by decide), if_neg (by decide), if_neg (by decide), if_pos rfl]; exact r3.1.2.2.1))
  · rw [ev 6 (by decide)] at e; exact hk _ J E (key _ (fun k _ hk' => by subst hk'; subst e; rw [if_neg (by decide), if_neg (by decide), if_neg (by decide), if_neg (by decide), if_pos rfl]; exact r3.1.2.2.2.1))
  · refine hk _ J E (key _ (fun k hk8 hk' => ?_))
    have : k = 7 := by
      rw [← hk']
      have h1 : ∀ i, i < 7 → k0 ≠ i := fun i hi c => hno i hi (by rw [Nat.zero_add, c])
      have := h1 0 (by decide); have := h1 1 (by decide); have := h1 2 (by decide); have := h1 3 (by decide); have := h1 4 (by decide); have := h1 5 (by decide); have := h1 6 (by decide)
      omega
    subst this
    rw [if_neg (by decide), if_neg (by decide), if_neg (by decide), if_neg (by decide), if_neg (by decide)]
    exact r2.2.2.1.symm

theorem sum_b {J : Iv} {y n : Nat} {S : Tn} {r : Nat → Int32} (hS : TnV S) (hD : DR J y S n r) : smI (fun v => smI (fun h => smI (fun w => J (y + 1) (cl S.1.1 v h w)) S.1.1) 3) S.1.1 = smI (fun k => r (9 + k)) 243 := by
  have s9 := hS.1
  have hB := hD.2.2.2.1
  have hZ := hD.2.2.2.2.1
  have e1 : ∀ v, v < S.1.1 → smI (fun h => smI (fun w => J (y + 1) (cl S.1.1 v h w)) S.1.1) 3 = smI (fun k => r (9 + 27 * v + k)) 27 := by
    intro v hv
    have e2 : ∀ h, h < 3 → smI (fun w => J (y + 1) (cl S.1.1 v h w)) S.1.1 = smI (fun w => r (9 + 27 * v + (9 * h + w))) 9 := fun h hh => by
      have h3 := hbD_r hS hB (hZ.zr s9) hv hh
      unfold hbD at h3
      rw [h3]
      exact smI_c _ (fun w _ => by rw [Nat.add_assoc (9 + 27 * v)])
    have e4 : smI (fun k => r (9 + 27 * v + k)) 27 = smI (fun k => r (9 + 27 * v + k)) 9 + smI (fun k => r (9 + 27 * v + (9 + k))) 9 + smI (fun k => r (9 + 27 * v + (2 * 9 + k))) 9 := smI_3 (f := fun k => r (9 + 27 * v + k)) (a := 9)
    have e5 : smI (fun h => smI (fun w => J (y + 1) (cl S.1.1 v h w)) S.1.1) 3 = nI 0 + smI (fun w => J (y + 1) (cl S.1.1 v 0 w)) S.1.1 + smI (fun w => J (y + 1) (cl S.1.1 v 1 w)) S.1.1 + smI (fun w => J (y + 1) (cl S.1.1 v 2 w)) S.1.1 := rfl
    rw [e4, e5, e2 0 (by decide), e2 1 (by decide), e2 2 (by decide), nI_zero, Int32.zero_add]
    rw [smI_c (f := fun w => r (9 + 27 * v + (9 * 0 + w))) (g := fun k => r (9 + 27 * v + k)) 9 (fun w _ => by rw [show 9 * 0 + w = w by omega])]
  rw [smI_c _ e1]
  have e3 : ∀ m, smI (fun v => smI (fun k => r (9 + 27 * v + k)) 27) m = smI (fun k => r (9 + k)) (27 * m) := by
    intro m
    induction m with
    | zero => rfl
    | succ m ih =>
      show smI (fun v => smI (fun k => r (9 + 27 * v + k)) 27) m + smI (fun k => r (9 + 27 * m + k)) 27 = _
      rw [ih, show 27 * (m + 1) = 27 * m + 27 by omega, smI_app]
      rw [smI_c (f := fun k => r (9 + 27 * m + k)) (g := fun k => r (9 + (27 * m + k))) 27 (fun k _ => by rw [Nat.add_assoc])]
  rw [e3]
  refine (smI_sh (by omega) (fun k h1 h2 => ?_)).symm
  obtain ⟨v, h, w, hv, hh, hw, e⟩ : ∃ v h w, v < 9 ∧ h < 3 ∧ w < 9 ∧ k = 27 * v + 9 * h + w := ⟨k / 27, k % 27 / 9, k % 9, by omega, by omega, by omega, by omega⟩
  have := hZ.2 v h w hv hh hw (Or.inl (by omega))
  rw [e, ← this]
  congr 1
  omega

theorem g_sums {q z : Nat} {J : Iv} {E : Ev} {x : Int32} (h : GS q z J E) : StX1 mH_sums mM_sums [.int x] 1 q z J E := by
  have hG0 := h
  obtain ⟨S, PS, t, op, bk, kb, n, n0, p, c, mk, tp, im, nim, rw', r1, r2, r3, r4, r5, r6, r7, r8, r9⟩ := h
  have hS := r1.1.1.2.2.2.1
  have s9 := hS.1
  have hVS := r1.1.2.2.1
  have hq32 := r4.1.1
  obtain ⟨g3, hT, hXt, -⟩ := id r1.1.1
  have tT : tyc shN E t = 10 := (hT.A (b := true) (E := E)).1
  have v7 := hXt.1
  have h40 := hVS.1
  have hD := r3.1.2.1
  have ty71 : tyc shN E 71 = 3 := dyA_71.1
  obtain ⟨-, ⟨y0, y1, y2, y3, y4, y5, y6⟩, ⟨b1, b2, b3, b4, b5, b6, b7⟩, l1, l2, l3, l4, l5, l6, l7⟩ := (dyA_71 (b := true) (E := E))
  by_cases hin : nI 0 ≤ x ∧ x ≤ nI 4
  rotate_left
  · refine ⟨(1, 6), q, z, Cst.x, hq32, fun Γ l d kr kx hG _ hxI => ?_⟩
    refine ex_of (ls0 := [some (.ref 0), some (.int x)]) tH_sums (by decide +kernel) kH_sums rfl (Nat.le_of_ble_eq_true rfl) rfl ?_
    intro go hgo
    refine hgo 20 [] 0 _ _ _ _ _ ?_
    simp only [ixr_of, run_s, run_0, rH_sums, rok_i, rok_z, bx_cons, bx_nil, eC0, eC4, eCV0, eCV1, eCV3, eGI, eGR, eLA0, eLI1, eRI, eSW, jswA_c, swA_n, fH_sums_0, fH_sums_40, fH_sums_55, fH_sums_70, fH_sums_78, fH_sums_86, bH_sums_0, bH_sums_40, bH_sums_55, bH_sums_70, bH_sums_78, bH_sums_86, ln_ximages, ln_xthought, rg_xmain_0, rg_xmain_1, rg_xmain_10, rg_xmain_2, rg_xmain_3, rg_xmain_4, rg_xmain_5, rg_xmain_6, rg_xmain_7, ty_xaqueduct, ty_xdiary, ty_xforesight, ty_ximages, ty_xmain, ty_xnow, ty_xopinionReader, ty_xtape, ty_xtasters, ty_xthought, Option.toList_some, Option.toList_none, List.cons_append, List.nil_append, List.length_cons, List.length_nil, List.mem_cons, List.not_mem_nil, or_false, false_or, or_true, true_or, ↓reduceIte, true_and, and_true, Nat.reduceEqDiff, Nat.reduceAdd, Nat.reduceLeDiff, Nat.reduceLT, dl_i, dl_r, dl_n, dl_u, eq_self, not_true_eq_false, not_false_eq_true, n10, n01, nm0, n0m, imp_t, imp_f]
    refine ⟨1, 6, fun _ => Nat.le_refl _, fun _ => Nat.le_refl _, x_needInX hG.1.1 hG.2.1 hG.2.2 hin (hxI _ _ (fun Γ l d kr kx hk => ?_))⟩
    exact c_sums (fun _ => hk _ (hG0.rf (rn := 1) (w := 1) (by decide)).1.un (hG0.rf (rn := 1) (w := 1) (by decide)).2) (fun e => absurd (by rw [e]; decide) hin) (fun e => absurd (by rw [e]; decide) hin) (fun e => absurd (by rw [e]; decide) hin) (fun e => absurd (by rw [e]; decide) hin) (fun e => absurd (by rw [e]; decide) hin)
  obtain ⟨k0, hk4, rfl⟩ := rng (by decide) hin
  have ev : ∀ i, i < 8 → (nI k0 = nI i ↔ k0 = i) := fun i hi => nI_eq (by omega) (by omega)
  have key : ∀ a, (k0 = 0 → a = smI (fun k => J 500124 (441 + k)) 27) → (k0 = 1 → a = smI (fun k => J 500124 (468 + k)) 27) → (k0 = 2 → a = J 500124 495) → (k0 = 3 → a = J 500124 496) → (k0 = 4 → a = smI (fun k => J 500124 (9 + k)) 243) → MAns mM_sums [.ref 500000, .int (nI k0)] a 0 q z J E := by
    intro a a0 a1 a2 a3 a4 Γ l d kr kx hk2
    refine c_sums (fun c => absurd hin c) (fun e => ?_) (fun e => ?_) (fun e => ?_) (fun e => ?_) (fun e => ?_)
    · rw [ev 0 (by decide)] at e; rw [← a0 e]; exact hk2 _ hG0.th up_s
    · rw [ev 1 (by decide)] at e; rw [← a1 e]; exact hk2 _ hG0.th up_s
    · rw [ev 2 (by decide)] at e; rw [← a2 e]; exact hk2 _ hG0.th up_s
    · rw [ev 3 (by decide)] at e; rw [← a3 e]; exact hk2 _ hG0.th up_s
    · rw [ev 4 (by decide)] at e; rw [← a4 e]; exact hk2 _ hG0.th up_s
  refine ⟨(0, 0), q, z, Cst.no, hq32, fun Γ l d kr kx hG hk _ => ?_⟩
  refine ex_of (ls0 := [some (.ref 0), some (.int (nI k0))]) tH_sums (by decide +kernel) kH_sums rfl (Nat.le_of_ble_eq_true rfl) rfl ?_
  intro go hgo
  refine hgo 20 [] 0 _ _ _ _ _ ?_
  simp only [ixr_of, run_s, run_0, rH_sums, rok_i, rok_z, bx_cons, bx_nil, eC0, eC4, eCV0, eCV1, eCV3, eGI, eGR, eLA0, eLI1, eRI, eSW, jswA_c, swA_n, fH_sums_0, fH_sums_40, fH_sums_55, fH_sums_70, fH_sums_78, fH_sums_86, bH_sums_0, bH_sums_40, bH_sums_55, bH_sums_70, bH_sums_78, bH_sums_86, ln_ximages, ln_xthought, rg_xmain_0, rg_xmain_1, rg_xmain_10, rg_xmain_2, rg_xmain_3, rg_xmain_4, rg_xmain_5, rg_xmain_6, rg_xmain_7, ty_xaqueduct, ty_xdiary, ty_xforesight, ty_ximages, ty_xmain, ty_xnow, ty_xopinionReader, ty_xtape, ty_xtasters, ty_xthought, Option.toList_some, Option.toList_none, List.cons_append, List.nil_append, List.length_cons, List.length_nil, List.mem_cons, List.not_mem_nil, or_false, false_or, or_true, true_or, ↓reduceIte, true_and, and_true, Nat.reduceEqDiff, Nat.reduceAdd, Nat.reduceLeDiff, Nat.reduceLT, dl_i, dl_r, dl_n, dl_u, eq_self, not_true_eq_false, not_false_eq_true, n10, n01, nm0, n0m, imp_t, imp_f]
  refine call0 (x_needIn hin ?_)
  simp only [ixr_of, run_s, run_0, rH_sums, rok_i, rok_z, bx_cons, bx_nil, eC0, eC4, eCV0, eCV1, eCV3, eGI, eGR, eLA0, eLI1, eRI, eSW, jswA_c, swA_n, fH_sums_0, fH_sums_40, fH_sums_55, fH_sums_70, fH_sums_78, fH_sums_86, bH_sums_0, bH_sums_40, bH_sums_55, bH_sums_70, bH_sums_78, bH_sums_86, ln_ximages, ln_xthought, rg_xmain_0, rg_xmain_1, rg_xmain_10, rg_xmain_2, rg_xmain_3, rg_xmain_4, rg_xmain_5, rg_xmain_6, rg_xmain_7, ty_xaqueduct, ty_xdiary, ty_xforesight, ty_ximages, ty_xmain, ty_xnow, ty_xopinionReader, ty_xtape, ty_xtasters, ty_xthought, Option.toList_some, Option.toList_none, List.cons_append, List.nil_append, List.length_cons, List.length_nil, List.mem_cons, List.not_mem_nil, or_false, false_or, or_true, true_or, ↓reduceIte, true_and, and_true, Nat.reduceEqDiff, Nat.reduceAdd, Nat.reduceLeDiff, Nat.reduceLT, dl_i, dl_r, dl_n, dl_u, eq_self, not_true_eq_false, not_false_eq_true, n10, n01, nm0, n0m, imp_t, imp_f]
  simp only [ixr_of, run_s, run_0, rH_sums, rok_i, rok_z, bx_cons, bx_nil, eC0, eC4, eCV0, eCV1, eCV3, eGI, eGR, eLA0, eLI1, eRI, eSW, jswA_c, swA_n, fH_sums_0, fH_sums_40, fH_sums_55, fH_sums_70, fH_sums_78, fH_sums_86, bH_sums_0, bH_sums_40, bH_sums_55, bH_sums_70, bH_sums_78, bH_sums_86, ln_ximages, ln_xthought, rg_xmain_0, rg_xmain_1, rg_xmain_10, rg_xmain_2, rg_xmain_3, rg_xmain_4, rg_xmain_5, rg_xmain_6, rg_xmain_7, ty_xaqueduct, ty_xdiary, ty_xforesight, ty_ximages, ty_xmain, ty_xnow, ty_xopinionReader, ty_xtape, ty_xtasters, ty_xthought, Option.toList_some, Option.toList_none, List.cons_append, List.nil_append, List.length_cons, List.length_nil, List.mem_cons, List.not_mem_nil, or_false, false_or, or_true, true_or, ↓reduceIte, true_and, and_true, Nat.reduceEqDiff, Nat.reduceAdd, Nat.reduceLeDiff, Nat.reduceLT, dl_i, dl_r, dl_n, dl_u, eq_self, not_true_eq_false, not_false_eq_true, n10, n01, nm0, n0m, ty71, y3, y4, imp_t, imp_f]
  refine ⟨⟨fun e => ?_, fun e => ?_, fun e => ?_, fun e => ?_⟩, fun hno => ?_⟩
  · rw [ev 0 (by decide)] at e
    subst e
    refine call0 (x_sumOf b4 l4 (by decide) ?_)
    simp only [ixr_of, run_s, run_0, rH_sums, rok_i, rok_z, bx_cons, bx_nil, eC0, eC4, eCV0, eCV1, eCV3, eGI, eGR, eLA0, eLI1, eRI, eSW, jswA_c, swA_n, fH_sums_0, fH_sums_40, fH_sums_55, fH_sums_70, fH_sums_78, fH_sums_86, bH_sums_0, bH_sums_40, bH_sums_55, bH_sums_70, bH_sums_78, bH_sums_86, ln_ximages, ln_xthought, rg_xmain_0, rg_xmain_1, rg_xmain_10, rg_xmain_2, rg_xmain_3, rg_xmain_4, rg_xmain_5, rg_xmain_6, rg_xmain_7, ty_xaqueduct, ty_xdiary, ty_xforesight, ty_ximages, ty_xmain, ty_xnow, ty_xopinionReader, ty_xtape, ty_xtasters, ty_xthought, Option.toList_some, Option.toList_none, List.cons_append, List.nil_append, List.length_cons, List.length_nil, List.mem_cons, List.not_mem_nil, or_false, false_or, or_true, true_or, ↓reduceIte, true_and, and_true, Nat.reduceEqDiff, Nat.reduceAdd, Nat.reduceLeDiff, Nat.reduceLT, dl_i, dl_r, dl_n, dl_u, eq_self, not_true_eq_false, not_false_eq_true, n10, n01, nm0, n0m, imp_t, imp_f]
    refine hk _ J E (key _ (fun _ => smI_c _ (fun k hk' => (hD.2.2.2.2.2.2.2.1 k hk').1)) (fun c => absurd c (by decide)) (fun c => absurd c (by decide)) (fun c => absurd c (by decide)) (fun c => absurd c (by decide)))
  · rw [ev 1 (by decide)] at e
    subst e
    refine call0 (x_sumOf b5 l5 (by decide) ?_)
    simp only [ixr_of, run_s, run_0, rH_sums, rok_i, rok_z, bx_cons, bx_nil, eC0, eC4, eCV0, eCV1, eCV3, eGI, eGR, eLA0, eLI1, eRI, eSW, jswA_c, swA_n, fH_sums_0, fH_sums_40, fH_sums_55, fH_sums_70, fH_sums_78, fH_sums_86, bH_sums_0, bH_sums_40, bH_sums_55, bH_sums_70, bH_sums_78, bH_sums_86, ln_ximages, ln_xthought, rg_xmain_0, rg_xmain_1, rg_xmain_10, rg_xmain_2, rg_xmain_3, rg_xmain_4, rg_xmain_5, rg_xmain_6, rg_xmain_7, ty_xaqueduct, ty_xdiary, ty_xforesight, ty_ximages, ty_xmain, ty_xnow, ty_xopinionReader, ty_xtape, ty_xtasters, ty_xthought, Option.toList_some, Option.toList_none, List.cons_append, List.nil_append, List.length_cons, List.length_nil, List.mem_cons, List.not_mem_nil, or_false, false_or, or_true, true_or, ↓reduceIte, true_and, and_true, Nat.reduceEqDiff, Nat.reduceAdd, Nat.reduceLeDiff, Nat.reduceLT, dl_i, dl_r, dl_n, dl_u, eq_self, not_true_eq_false, not_false_eq_true, n10, n01, nm0, n0m, imp_t, imp_f]
    refine hk _ J E (key _ (fun c => absurd c (by decide)) (fun _ => smI_c _ (fun k hk' => (hD.2.2.2.2.2.2.2.1 k hk').2)) (fun c => absurd c (by decide)) (fun c => absurd c (by decide)) (fun c => absurd c (by decide)))
  · rw [ev 2 (by decide)] at e
    subst e
    refine hk _ J E (key _ (fun c => absurd c (by decide)) (fun c => absurd c (by decide)) (fun _ => hD.2.2.2.2.2.2.2.2.1) (fun c => absurd c (by decide)) (fun c => absurd c (by decide)))
  · rw [ev 3 (by decide)] at e
    subst e
    refine hk _ J E (key _ (fun c => absurd c (by decide)) (fun c => absurd c (by decide)) (fun c => absurd c (by decide)) (fun _ => hD.2.2.2.2.2.2.2.2.2.1) (fun c => absurd c (by decide)))
  · have h1 : ∀ i, i < 4 → k0 ≠ i := fun i hi c => hno i hi (by rw [Nat.zero_add, c])
    have := h1 0 (by decide); have := h1 1 (by decide); have := h1 2 (by decide); have := h1 3 (by decide)
    have e : k0 = 4 := by omega
    subst e
    refine call0 (x_herbsInBasins dyA_71 hD.1 ?_)
    simp only [ixr_of, run_s, run_0, rH_sums, rok_i, rok_z, bx_cons, bx_nil, eC0, eC4, eCV0, eCV1, eCV3, eGI, eGR, eLA0, eLI1, eRI, eSW, jswA_c, swA_n, fH_sums_0, fH_sums_40, fH_sums_55, fH_sums_70, fH_sums_78, fH_sums_86, bH_sums_0, bH_sums_40, bH_sums_55, bH_sums_70, bH_sums_78, bH_sums_86, ln_ximages, ln_xthought, rg_xmain_0, rg_xmain_1, rg_xmain_10, rg_xmain_2, rg_xmain_3, rg_xmain_4, rg_xmain_5, rg_xmain_6, rg_xmain_7, ty_xaqueduct, ty_xdiary, ty_xforesight, ty_ximages, ty_xmain, ty_xnow, ty_xopinionReader, ty_xtape, ty_xtasters, ty_xthought, Option.toList_some, Option.toList_none, List.cons_append, List.nil_append, List.length_cons, List.length_nil, List.mem_cons, List.not_mem_nil, or_false, false_or, or_true, true_or, ↓reduceIte, true_and, and_true, Nat.reduceEqDiff, Nat.reduceAdd, Nat.reduceLeDiff, Nat.reduceLT, dl_i, dl_r, dl_n, dl_u, eq_self, not_true_eq_false, not_false_eq_true, n10, n01, nm0, n0m, imp_t, imp_f]
    refine hk _ J E (key _ (fun c => absurd c (by decide)) (fun c => absurd c (by decide)) (fun c => absurd c (by decide)) (fun c => absurd c (by decide)) (fun _ => sum_b hS hD))
