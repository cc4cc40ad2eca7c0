/-! the law, 6: its loop and its beginning -/
theorem law_c {L t : Nat} (hL : L ≤ 4096) (ht : t ≤ 512) : (nI L - nI 8 < nI (8 * t)) ↔ L < 8 * t + 8 := by
  by_cases h : 8 ≤ L
  · have e : nI L - nI 8 = nI (L - 8) := by
      have := nI_add (L - 8) 8
      rw [Nat.sub_add_cancel h] at this
      rw [← this]
      exact Int32.add_sub_cancel _ _
    rw [e, nI_ltI (by omega) (by omega)]
    omega
  · refine ⟨fun _ => by omega, fun _ => ?_⟩
    have h0 : nI 0 ≤ nI (8 * t) := (nI_leI (by decide) (by omega)).mpr (by omega)
    refine Int32.lt_of_lt_of_le ?_ h0
    rcases (show L = 0 ∨ L = 1 ∨ L = 2 ∨ L = 3 ∨ L = 4 ∨ L = 5 ∨ L = 6 ∨ L = 7 by omega) with rfl | rfl | rfl | rfl | rfl | rfl | rfl | rfl <;> decide
theorem law_loop {go : Go} {kr : Kr} {kx : Kxx} {Γ : Gm} {l : Launch} {D b L o : Nat} {xs : Nat → Int32} (hgo : LGo go kr kx Γ l D) (hG : GdX Γ l) (hN : GN Γ) (hko : Γ.2.2.2.1 99 0 = 0) (h9 : o ≠ 999999) (hV : GV Γ b L xs) (hkr : ∀ I E, kr (some (.int (nI 1))) I E) :
    ∀ (g t q z : Nat) (K : Iv) (F : Ev) (v : Int32) (u : Uv) (y5 y6 : Option Value), g + t = L / 8 → GS q z K F → tyc shN F o = 0 → q ≤ 32 → LU t q z u → go 23 [some (.ref (1000000 + b)), some (.ref 0), some (.ref 500000), some (.ref o), some (.int (nI (8 * t))), y5, y6] [] (kpI o v K) (kpE o (flE shN F)) u := by
  intro g
  induction g with
  | zero =>
    intro t q z K F v u y5 y6 hg h ho hq hu
    have t5 := hu.1
    have c1 : (nI L - nI 8 < nI (8 * t)) = True := eq_true ((law_c hV.1 t5).mpr (by omega))
    refine hgo 20 [] 23 _ _ _ _ _ ?_
    simp only [run_s, run_0, rok_z, bx_cons, bx_nil, eADD, eAND, eBP, eC0, eC1, eC2, eC3, eC4, eC5, eCI0, eCV0, eCV1, eCV2, eCV3, eCV4, eCV5, eCV7, eDUPr, eGO, eHS, eI2L, jICeq, jICgt, jIFeq, jIFne, eINC4, eLA0, eLA1, eLA2, eLA3, eLALD, eLCMP, eLI4, eLI5, eLI6, eNAL, eNEW, eRI, eSA1, eSA2, eSA3, eSCA, eSCL, eSI4, eSI5, eSI6, eSUB, eSW, fLa_law_23, fLa_law_2302, bLa_law_23, bLa_law_2302, Option.toList_some, Option.toList_none, List.cons_append, List.nil_append, List.length_cons, List.length_nil, List.mem_cons, List.not_mem_nil, or_false, false_or, or_true, true_or, ↓reduceIte, true_and, and_true, Nat.reduceEqDiff, Nat.reduceAdd, Nat.reduceLeDiff, Nat.reduceLT, dl_i, dl_r, dl_n, dl_u, eq_self, not_true_eq_false, not_false_eq_true, n10, n01, nm0, n0m, imp_t, imp_f]
    refine ⟨b, L, xs, rfl, hV, ?_⟩
    simp only [run_s, run_0, rok_z, bx_cons, bx_nil, eADD, eAND, eBP, eC0, eC1, eC2, eC3, eC4, eC5, eCI0, eCV0, eCV1, eCV2, eCV3, eCV4, eCV5, eCV7, eDUPr, eGO, eHS, eI2L, jICeq, jICgt, jIFeq, jIFne, eINC4, eLA0, eLA1, eLA2, eLA3, eLALD, eLCMP, eLI4, eLI5, eLI6, eNAL, eNEW, eRI, eSA1, eSA2, eSA3, eSCA, eSCL, eSI4, eSI5, eSI6, eSUB, eSW, fLa_law_23, fLa_law_2302, bLa_law_23, bLa_law_2302, Option.toList_some, Option.toList_none, List.cons_append, List.nil_append, List.length_cons, List.length_nil, List.mem_cons, List.not_mem_nil, or_false, false_or, or_true, true_or, ↓reduceIte, true_and, and_true, Nat.reduceEqDiff, Nat.reduceAdd, Nat.reduceLeDiff, Nat.reduceLT, dl_i, dl_r, dl_n, dl_u, eq_self, not_true_eq_false, not_false_eq_true, n10, n01, nm0, n0m, imp_t, imp_f, c1]
    exact hkr _ _
  | succ g ih =>
    intro t q z K F v u y5 y6 hg h ho hq hu
    have t5 := hu.1
    have hL8 : 8 * t + 8 ≤ L := by omega
    have c1 : (nI L - nI 8 < nI (8 * t)) = False := eq_false (fun c => by have := (law_c hV.1 t5).mp c; omega)
    have hnx : LNx go b o t := by
      intro q z K F v u y5 y6 h ho hq hu
      refine hgo 20 [23] 2296 _ _ _ _ _ ?_
      simp only [run_s, run_0, rok_z, bx_cons, bx_nil, eADD, eAND, eBP, eC0, eC1, eC2, eC3, eC4, eC5, eCI0, eCV0, eCV1, eCV2, eCV3, eCV4, eCV5, eCV7, eDUPr, eGO, eHS, eI2L, jICeq, jICgt, jIFeq, jIFne, eINC4, eLA0, eLA1, eLA2, eLA3, eLALD, eLCMP, eLI4, eLI5, eLI6, eNAL, eNEW, eRI, eSA1, eSA2, eSA3, eSCA, eSCL, eSI4, eSI5, eSI6, eSUB, eSW, fLa_law_2296, bLa_law_2296, Option.toList_some, Option.toList_none, List.cons_append, List.nil_append, List.length_cons, List.length_nil, List.mem_cons, List.not_mem_nil, or_false, false_or, or_true, true_or, ↓reduceIte, true_and, and_true, Nat.reduceEqDiff, Nat.reduceAdd, Nat.reduceLeDiff, Nat.reduceLT, dl_i, dl_r, dl_n, dl_u, eq_self, not_true_eq_false, not_false_eq_true, n10, n01, nm0, n0m, imp_t, imp_f]
      have e8 : nI (8 * t) + nI 8 = nI (8 * (t + 1)) := by rw [nI_add]; rfl
      rw [e8]
      exact ih (t + 1) q z K F v u y5 y6 (by omega) h ho hq hu
    refine hgo 20 [200, 273, 329, 397, 453, 466, 522, 590, 670, 726, 782, 838, 894, 962, 1094, 1150, 1230, 1286, 1342, 1398, 1454, 1467, 1547, 1603, 1616, 1672, 1740, 1796, 1864, 1956, 2024, 2116, 2220, 2233, 2246, 2271, 2296] 23 _ _ _ _ _ ?_
    simp only [run_s, run_0, rok_z, bx_cons, bx_nil, eADD, eAND, eBP, eC0, eC1, eC2, eC3, eC4, eC5, eCI0, eCV0, eCV1, eCV2, eCV3, eCV4, eCV5, eCV7, eDUPr, eGO, eHS, eI2L, jICeq, jICgt, jIFeq, jIFne, eINC4, eLA0, eLA1, eLA2, eLA3, eLALD, eLCMP, eLI4, eLI5, eLI6, eNAL, eNEW, eRI, eSA1, eSA2, eSA3, eSCA, eSCL, eSI4, eSI5, eSI6, eSUB, eSW, fLa_law_23, fLa_law_33, bLa_law_23, bLa_law_33, Option.toList_some, Option.toList_none, List.cons_append, List.nil_append, List.length_cons, List.length_nil, List.mem_cons, List.not_mem_nil, or_false, false_or, or_true, true_or, ↓reduceIte, true_and, and_true, Nat.reduceEqDiff, Nat.reduceAdd, Nat.reduceLeDiff, Nat.reduceLT, dl_i, dl_r, dl_n, dl_u, eq_self, not_true_eq_false, not_false_eq_true, n10, n01, nm0, n0m, imp_t, imp_f]
    refine ⟨b, L, xs, rfl, hV, ?_⟩
    simp only [run_s, run_0, rok_z, bx_cons, bx_nil, eADD, eAND, eBP, eC0, eC1, eC2, eC3, eC4, eC5, eCI0, eCV0, eCV1, eCV2, eCV3, eCV4, eCV5, eCV7, eDUPr, eGO, eHS, eI2L, jICeq, jICgt, jIFeq, jIFne, eINC4, eLA0, eLA1, eLA2, eLA3, eLALD, eLCMP, eLI4, eLI5, eLI6, eNAL, eNEW, eRI, eSA1, eSA2, eSA3, eSCA, eSCL, eSI4, eSI5, eSI6, eSUB, eSW, fLa_law_23, fLa_law_33, bLa_law_23, bLa_law_33, Option.toList_some, Option.toList_none, List.cons_append, List.nil_append, List.length_cons, List.length_nil, List.mem_cons, List.not_mem_nil, or_false, false_or, or_true, true_or, ↓reduceIte, true_and, and_true, Nat.reduceEqDiff, Nat.reduceAdd, Nat.reduceLeDiff, Nat.reduceLT, dl_i, dl_r, dl_n, dl_u, eq_self, not_true_eq_false, not_false_eq_true, n10, n01, nm0, n0m, imp_t, imp_f, c1]
    refine ⟨b, L, xs, rfl, hV, 8 * t, rfl, by omega, ?_⟩
    simp only [run_s, run_0, rok_z, bx_cons, bx_nil, eADD, eAND, eBP, eC0, eC1, eC2, eC3, eC4, eC5, eCI0, eCV0, eCV1, eCV2, eCV3, eCV4, eCV5, eCV7, eDUPr, eGO, eHS, eI2L, jICeq, jICgt, jIFeq, jIFne, eINC4, eLA0, eLA1, eLA2, eLA3, eLALD, eLCMP, eLI4, eLI5, eLI6, eNAL, eNEW, eRI, eSA1, eSA2, eSA3, eSCA, eSCL, eSI4, eSI5, eSI6, eSUB, eSW, fLa_law_33, bLa_law_33, Option.toList_some, Option.toList_none, List.cons_append, List.nil_append, List.length_cons, List.length_nil, List.mem_cons, List.not_mem_nil, or_false, false_or, or_true, true_or, ↓reduceIte, true_and, and_true, Nat.reduceEqDiff, Nat.reduceAdd, Nat.reduceLeDiff, Nat.reduceLT, dl_i, dl_r, dl_n, dl_u, eq_self, not_true_eq_false, not_false_eq_true, n10, n01, nm0, n0m, imp_t, imp_f, swA_c, swA_n]
    refine ⟨⟨fun _ => lc_feed hgo hG hN hko h9 hV hL8 h ho hq hu hnx, fun _ => lc_town hgo hG hN hko h9 hV hL8 h ho hq hu hnx, fun _ => lc_opinion hgo hG hN hko h9 hV hL8 h ho hq hu hnx, fun _ => lc_book hgo hG hN hko h9 hV hL8 h ho hq hu hnx, fun _ => lc_fault hgo hG hN hko h9 hV hL8 h ho hq hu hnx, fun _ => lc_told hgo hG hN hko h9 hV hL8 h ho hq hu hnx, fun _ => lc_village hgo hG hN hko h9 hV hL8 h ho hq hu hnx, fun _ => lc_led hgo hG hN hko h9 hV hL8 h ho hq hu hnx, fun _ => lc_days hgo hG hN hko h9 hV hL8 h ho hq hu hnx, fun _ => lc_undo hgo hG hN hko h9 hV hL8 h ho hq hu hnx, fun _ => lc_tap hgo hG hN hko h9 hV hL8 h ho hq hu hnx, fun _ => lc_sums hgo hG hN hko h9 hV hL8 h ho hq hu hnx, fun _ => lc_put hgo hG hN hko h9 hV hL8 h ho hq hu hnx, fun _ => lc_thinks hgo hG hN hko h9 hV hL8 h ho hq hu hnx, fun _ => lc_view hgo hG hN hko h9 hV hL8 h ho hq hu hnx, fun _ => lc_ahead hgo hG hN hko h9 hV hL8 h ho hq hu hnx, fun _ => lc_when hgo hG hN hko h9 hV hL8 h ho hq hu hnx, fun _ => lc_please hgo hG hN hko h9 hV hL8 h ho hq hu hnx, fun _ => lc_contrary hgo hG hN hko h9 hV hL8 h ho hq hu hnx, fun _ => lc_whom hgo hG hN hko h9 hV hL8 h ho hq hu hnx, fun _ => lc_feast hgo hG hN hko h9 hV hL8 h ho hq hu hnx, fun _ => lc_filters hgo hG hN hko h9 hV hL8 h ho hq hu hnx, fun _ => lc_minds hgo hG hN hko h9 hV hL8 h ho hq hu hnx, fun _ => lc_right hgo hG hN hko h9 hV hL8 h ho hq hu hnx, fun _ => lc_where hgo hG hN hko h9 hV hL8 h ho hq hu hnx, fun _ => lc_tasted hgo hG hN hko h9 hV hL8 h ho hq hu hnx, fun _ => lc_round hgo hG hN hko h9 hV hL8 h ho hq hu hnx, fun _ => lc_grade hgo hG hN hko h9 hV hL8 h ho hq hu hnx, fun _ => lc_loss hgo hG hN hko h9 hV hL8 h ho hq hu hnx, fun _ => lc_rest hgo hG hN hko h9 hV hL8 h ho hq hu hnx, fun _ => lc_drought hgo hG hN hko h9 hV hL8 h ho hq hu hnx, fun _ => lc_span hgo hG hN hko h9 hV hL8 h ho hq hu hnx, fun _ => lc_image hgo hG hN hko h9 hV hL8 h ho hq hu hnx, fun _ => lc_restore hgo hG hN hko h9 hV hL8 h ho hq hu hnx, fun _ => lc_status hgo hG hN hko h9 hV hL8 h ho hq hu hnx, fun _ => lc_count hgo hG hN hko h9 hV hL8 h ho hq hu hnx⟩, fun _ => hnx q z K F v u y5 y6 h ho hq ?_⟩
    unfold LU at *
    have := hV.1
    omega
theorem un_ty {sh : Sh} {X : Ev} {i : Nat} : tyc sh (unE X) i = tyc sh X i := rfl
theorem un_rg {sh : Sh} {X : Ev} {i j : Nat} : rget sh (unE X) i j = rget sh X i j := rfl
theorem un_ln {sh : Sh} {X : Ev} {i : Nat} (h : i ≠ 999999) : len sh (unE X) i = len sh X i := by
  unfold len unE
  dsimp only
  rw [if_neg h]
theorem kp_rg {sh : Sh} {X : Ev} {o i j : Nat} : rget sh (kpE o X) i j = rget sh X i j := rfl
theorem Wd.out {Γ : Gm} {I : Iv} {X : Ev} {H : Heap} {o sz : Nat} (h9 : o ≠ 999999) (h : Wd Γ sh0 I (mkE (flE shN X) o 104 1 sz) H) : Wd Γ sh0 I (kpE o (flE shN (unE X))) H := by
  have g9 : tyc shN X 999999 = 0 := by
    have := h.1.2.1
    rw [tyc_mk_n (Ne.symm h9), fl_ty] at this
    exact this
  refine h.view (by rw [kpE_ty (Ne.symm h9), fl_ty, un_ty]; exact g9) (Or.inl ?_) (fun i hi => ?_)
  · have e : (kpE o (flE shN (unE X))).2.2 999999 = (flE shN (unE X)).2.2 999999 := if_neg (Ne.symm h9)
    rw [e, fl_sz]
    unfold unE
    dsimp only
    rw [if_pos rfl]
  · by_cases e : i = o
    · subst e
      rw [kpE_to rfl]
      refine ⟨?_, fun _ => ?_, fun j hj => by cases hj⟩
      · unfold tyc sh0 mkE
        dsimp only
        rw [if_pos rfl, if_pos rfl]
      · rw [kpE_lo rfl]
        unfold len sh0 mkE
        dsimp only
        rw [if_pos rfl, if_neg h9, if_pos rfl]
    · rw [kpE_ty e] at hi ⊢
      rw [fl_ty] at hi ⊢
      rw [un_ty] at hi ⊢
      have i9 : i ≠ 999999 := fun c => hi (by rw [c]; exact g9)
      refine ⟨by rw [tyc_mk_n e, fl_ty], fun _ => ?_, fun j _ => ?_⟩
      · rw [len_mk_n e i9, fl_ln i9, kpE_ln e, fl_ln i9, un_ln i9]
      · rw [rget_mk_n e, fl_rg, kp_rg, fl_rg, un_rg]
set_option maxRecDepth 100000 in
set_option maxHeartbeats 4000000 in
theorem law_all {go : Go} {kr : Kr} {kx : Kxx} {Γ : Gm} {l : Launch} {D b L : Nat} {xs : Nat → Int32} {I0 : Iv} (hgo : LGo go kr kx Γ l D) (hvw : ∀ pc ls st I E E' u, (∀ H, Wd Γ sh0 I E H → Wd Γ sh0 I E' H) → go pc ls st I E' u → go pc ls st I E u) (hG : GdX Γ l) (hN : GN Γ) (hko : Γ.2.2.2.1 99 0 = 0) (hB : Γ.1.2 = Γ.1.1 + 133) (hV : GV Γ b L xs) (hkr : ∀ I E, kr (some (.int (nI 1))) I E) :
    go 0 [some (.ref (1000000 + b)), none, none, none, none, none, none] [] I0 (CE Γ.1.1 0 []) (0, 0) := by
  refine hgo 20 [23] 0 _ _ _ _ _ ?_
  simp only [run_s, run_0, rok_z, bx_cons, bx_nil, eADD, eAND, eBP, eC0, eC1, eC2, eC3, eC4, eC5, eCI0, eCV0, eCV1, eCV2, eCV3, eCV4, eCV5, eCV7, eDUPr, eGO, eHS, eI2L, jICeq, jICgt, jIFeq, jIFne, eINC4, eLA0, eLA1, eLA2, eLA3, eLALD, eLCMP, eLI4, eLI5, eLI6, eNAL, eNEW, eRI, eSA1, eSA2, eSA3, eSCA, eSCL, eSI4, eSI5, eSI6, eSUB, eSW, fLa_law_0, bLa_law_0, Option.toList_some, Option.toList_none, List.cons_append, List.nil_append, List.length_cons, List.length_nil, List.mem_cons, List.not_mem_nil, or_false, false_or, or_true, true_or, ↓reduceIte, true_and, and_true, Nat.reduceEqDiff, Nat.reduceAdd, Nat.reduceLeDiff, Nat.reduceLT, dl_i, dl_r, dl_n, dl_u, eq_self, not_true_eq_false, not_false_eq_true, n10, n01, nm0, n0m, imp_t, imp_f]
  intro b1 hs1 _
  rw [CE_sz] at hs1
  have hb1 : b1 = Γ.1.1 + 0 := by omega
  subst hb1
  refine ⟨0, by omega, by rw [ad_x (by omega)], fun _ => rfl, fun _ => ?_⟩
  rw [CE_mk (k := 0) (k' := 1) rfl (by omega) (by decide +kernel) (by decide +kernel) (fun j => rfl)]
  refine calli_u 132 7349 133 7364 rfl rfl (by decide) (by decide) (y_H hG.1.1 (fun K F y hX => ⟨rfl, ?_⟩))
  simp only [run_s, run_0, rok_z, bx_cons, bx_nil, eADD, eAND, eBP, eC0, eC1, eC2, eC3, eC4, eC5, eCI0, eCV0, eCV1, eCV2, eCV3, eCV4, eCV5, eCV7, eDUPr, eGO, eHS, eI2L, jICeq, jICgt, jIFeq, jIFne, eINC4, eLA0, eLA1, eLA2, eLA3, eLALD, eLCMP, eLI4, eLI5, eLI6, eNAL, eNEW, eRI, eSA1, eSA2, eSA3, eSCA, eSCL, eSI4, eSI5, eSI6, eSUB, eSW, fLa_law_0, bLa_law_0, Option.toList_some, Option.toList_none, List.cons_append, List.nil_append, List.length_cons, List.length_nil, List.mem_cons, List.not_mem_nil, or_false, false_or, or_true, true_or, ↓reduceIte, true_and, and_true, Nat.reduceEqDiff, Nat.reduceAdd, Nat.reduceLeDiff, Nat.reduceLT, dl_i, dl_r, dl_n, dl_u, eq_self, not_true_eq_false, not_false_eq_true, n10, n01, nm0, n0m, imp_t, imp_f]
  intro b2 hs2 _
  have fsz : F.2.2 999999 = Γ.1.1 + 134 := by
    obtain ⟨_, _, _, _, _, _, _, _, _, _, _, _, _, _, _, h⟩ := hX
    exact h
  rw [fl_sz, fsz] at hs2
  have hb2 : b2 = Γ.1.2 := by omega
  subst hb2
  refine ⟨500000, by omega, ad_m (k := 0) (by omega), fun _ => rfl, fun _ => ?_⟩
  refine calli_u 355 97648 489 105069 rfl rfl (by decide) (by decide) (y_M hG.1.1 hB hX (fun K2 hGS => ⟨rfl, ?_⟩))
  simp only [run_s, run_0, rok_z, bx_cons, bx_nil, eADD, eAND, eBP, eC0, eC1, eC2, eC3, eC4, eC5, eCI0, eCV0, eCV1, eCV2, eCV3, eCV4, eCV5, eCV7, eDUPr, eGO, eHS, eI2L, jICeq, jICgt, jIFeq, jIFne, eINC4, eLA0, eLA1, eLA2, eLA3, eLALD, eLCMP, eLI4, eLI5, eLI6, eNAL, eNEW, eRI, eSA1, eSA2, eSA3, eSCA, eSCL, eSI4, eSI5, eSI6, eSUB, eSW, fLa_law_0, bLa_law_0, Option.toList_some, Option.toList_none, List.cons_append, List.nil_append, List.length_cons, List.length_nil, List.mem_cons, List.not_mem_nil, or_false, false_or, or_true, true_or, ↓reduceIte, true_and, and_true, Nat.reduceEqDiff, Nat.reduceAdd, Nat.reduceLeDiff, Nat.reduceLT, dl_i, dl_r, dl_n, dl_u, eq_self, not_true_eq_false, not_false_eq_true, n10, n01, nm0, n0m, imp_t, imp_f]
  refine ⟨1, rfl, ?_⟩
  repeat (refine ⟨by decide, ?_⟩)
  intro a hs3 _
  refine ⟨1000000 + a, by omega, ad_far, fun ht => ?_⟩
  rw [fl_ty] at ht
  refine hvw _ _ _ _ _ _ _ (fun H h => Wd.out (by omega) h) ?_
  exact law_loop hgo hG hN hko (by omega) hV hkr (L / 8) 0 1 1 K2 (unE (xE2 F (Γ.1.2 + 357))) (nI 0) _ none none (by omega) hGS.un ht (by omega) (by unfold LU; dsimp only; omega)

