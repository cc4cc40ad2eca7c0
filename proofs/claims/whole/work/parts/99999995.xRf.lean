/-! public methods, 4 -/
section XRf
variable {Γ : Gm} {l : Launch} {b : Bool} {d : Nat} {J : Iv} {E : Ev} {kr : Kr} {kx : Kxx} {t : Nat} {S : Tn}
theorem x_needGame {x y : Int32} (h1 : nI 1 ≤ x ∧ x ≤ nI 30) (h2 : nI 0 ≤ y ∧ y ≤ nI 99) (hk : kr none J E) : Ex Γ l (shB b) (d + 2) (0, 0) mH_needGame [.ref 0, .int x, .int y] J E kr kx := by
  refine ex_of (ls0 := [some (.ref 0), some (.int x), some (.int y)]) tH_needGame (by decide +kernel) kH_needGame rfl (Nat.le_of_ble_eq_true rfl) rfl ?_
  intro go hgo
  refine hgo 20 [] 0 _ _ _ _ _ ?_
  simp only [ixr_of, run_s, run_0, rH_needGame, rok_i, rok_z, bx_cons, bx_nil, eBP, eC0, eC1, eCV3, eLA0, eLI1, eLI2, eRV, fH_needGame_0, bH_needGame_0, ln_ximages, ln_xthought, rg_xmain_0, rg_xmain_1, rg_xmain_10, rg_xmain_2, rg_xmain_3, rg_xmain_4, rg_xmain_5, rg_xmain_6, rg_xmain_7, ty_xaqueduct, ty_xdiary, ty_xforesight, ty_ximages, ty_xmain, ty_xnow, ty_xopinionReader, ty_xtape, ty_xtasters, ty_xthought, Option.toList_some, Option.toList_none, List.cons_append, List.nil_append, List.length_cons, List.length_nil, List.mem_cons, List.not_mem_nil, or_false, false_or, or_true, true_or, ↓reduceIte, true_and, and_true, Nat.reduceEqDiff, Nat.reduceAdd, Nat.reduceLeDiff, Nat.reduceLT, dl_i, dl_r, dl_n, dl_u, eq_self, not_true_eq_false, not_false_eq_true, n10, n01, nm0, n0m, imp_t, imp_f]
  refine call0 (x_needIn h1 ?_)
  simp only [ixr_of, run_s, run_0, rH_needGame, rok_i, rok_z, bx_cons, bx_nil, eBP, eC0, eC1, eCV3, eLA0, eLI1, eLI2, eRV, fH_needGame_0, bH_needGame_0, ln_ximages, ln_xthought, rg_xmain_0, rg_xmain_1, rg_xmain_10, rg_xmain_2, rg_xmain_3, rg_xmain_4, rg_xmain_5, rg_xmain_6, rg_xmain_7, ty_xaqueduct, ty_xdiary, ty_xforesight, ty_ximages, ty_xmain, ty_xnow, ty_xopinionReader, ty_xtape, ty_xtasters, ty_xthought, Option.toList_some, Option.toList_none, List.cons_append, List.nil_append, List.length_cons, List.length_nil, List.mem_cons, List.not_mem_nil, or_false, false_or, or_true, true_or, ↓reduceIte, true_and, and_true, Nat.reduceEqDiff, Nat.reduceAdd, Nat.reduceLeDiff, Nat.reduceLT, dl_i, dl_r, dl_n, dl_u, eq_self, not_true_eq_false, not_false_eq_true, n10, n01, nm0, n0m, imp_t, imp_f]
  refine call0 (x_needIn h2 ?_)
  simp only [ixr_of, run_s, run_0, rH_needGame, rok_i, rok_z, bx_cons, bx_nil, eBP, eC0, eC1, eCV3, eLA0, eLI1, eLI2, eRV, fH_needGame_0, bH_needGame_0, ln_ximages, ln_xthought, rg_xmain_0, rg_xmain_1, rg_xmain_10, rg_xmain_2, rg_xmain_3, rg_xmain_4, rg_xmain_5, rg_xmain_6, rg_xmain_7, ty_xaqueduct, ty_xdiary, ty_xforesight, ty_ximages, ty_xmain, ty_xnow, ty_xopinionReader, ty_xtape, ty_xtasters, ty_xthought, Option.toList_some, Option.toList_none, List.cons_append, List.nil_append, List.length_cons, List.length_nil, List.mem_cons, List.not_mem_nil, or_false, false_or, or_true, true_or, ↓reduceIte, true_and, and_true, Nat.reduceEqDiff, Nat.reduceAdd, Nat.reduceLeDiff, Nat.reduceLT, dl_i, dl_r, dl_n, dl_u, eq_self, not_true_eq_false, not_false_eq_true, n10, n01, nm0, n0m, imp_t, imp_f]
  exact hk
theorem x_needGameX {x y : Int32} (hG : GdX Γ l) (hn : ¬ ((nI 1 ≤ x ∧ x ≤ nI 30) ∧ (nI 0 ≤ y ∧ y ≤ nI 99))) (hk : kx iaX (up J 0 14 (J 0 14 + nI 1)) (unE E)) : Ex Γ l (shB b) (d + 9) (1, 6) mH_needGame [.ref 0, .int x, .int y] J E kr kx := by
  refine ex_of (ls0 := [some (.ref 0), some (.int x), some (.int y)]) tH_needGame (by decide +kernel) kH_needGame rfl (Nat.le_of_ble_eq_true rfl) rfl ?_
  intro go hgo
  refine hgo 20 [] 0 _ _ _ _ _ ?_
  simp only [ixr_of, run_s, run_0, rH_needGame, rok_i, rok_z, bx_cons, bx_nil, eBP, eC0, eC1, eCV3, eLA0, eLI1, eLI2, eRV, fH_needGame_0, bH_needGame_0, ln_ximages, ln_xthought, rg_xmain_0, rg_xmain_1, rg_xmain_10, rg_xmain_2, rg_xmain_3, rg_xmain_4, rg_xmain_5, rg_xmain_6, rg_xmain_7, ty_xaqueduct, ty_xdiary, ty_xforesight, ty_ximages, ty_xmain, ty_xnow, ty_xopinionReader, ty_xtape, ty_xtasters, ty_xthought, Option.toList_some, Option.toList_none, List.cons_append, List.nil_append, List.length_cons, List.length_nil, List.mem_cons, List.not_mem_nil, or_false, false_or, or_true, true_or, ↓reduceIte, true_and, and_true, Nat.reduceEqDiff, Nat.reduceAdd, Nat.reduceLeDiff, Nat.reduceLT, dl_i, dl_r, dl_n, dl_u, eq_self, not_true_eq_false, not_false_eq_true, n10, n01, nm0, n0m, imp_t, imp_f]
  by_cases h1 : nI 1 ≤ x ∧ x ≤ nI 30
  · refine call0 (x_needIn h1 ?_)
    simp only [ixr_of, run_s, run_0, rH_needGame, rok_i, rok_z, bx_cons, bx_nil, eBP, eC0, eC1, eCV3, eLA0, eLI1, eLI2, eRV, fH_needGame_0, bH_needGame_0, ln_ximages, ln_xthought, rg_xmain_0, rg_xmain_1, rg_xmain_10, rg_xmain_2, rg_xmain_3, rg_xmain_4, rg_xmain_5, rg_xmain_6, rg_xmain_7, ty_xaqueduct, ty_xdiary, ty_xforesight, ty_ximages, ty_xmain, ty_xnow, ty_xopinionReader, ty_xtape, ty_xtasters, ty_xthought, Option.toList_some, Option.toList_none, List.cons_append, List.nil_append, List.length_cons, List.length_nil, List.mem_cons, List.not_mem_nil, or_false, false_or, or_true, true_or, ↓reduceIte, true_and, and_true, Nat.reduceEqDiff, Nat.reduceAdd, Nat.reduceLeDiff, Nat.reduceLT, dl_i, dl_r, dl_n, dl_u, eq_self, not_true_eq_false, not_false_eq_true, n10, n01, nm0, n0m, imp_t, imp_f]
    exact ⟨1, 6, fun _ => Nat.le_refl _, fun _ => Nat.le_refl _, x_needInX hG.1.1 hG.2.1 hG.2.2 (fun c => hn ⟨h1, c⟩) hk⟩
  · exact ⟨1, 6, fun _ => Nat.le_refl _, fun _ => Nat.le_refl _, x_needInX hG.1.1 hG.2.1 hG.2.2 h1 hk⟩
theorem x_needDrought {x y : Int32} (h1 : nI 0 ≤ x ∧ x ≤ nI 16) (h2 : nI 1 ≤ y ∧ y ≤ nI 60) (hk : kr none J E) : Ex Γ l (shB b) (d + 2) (0, 0) mH_needDrought [.ref 0, .int x, .int y] J E kr kx := by
  refine ex_of (ls0 := [some (.ref 0), some (.int x), some (.int y)]) tH_needDrought (by decide +kernel) kH_needDrought rfl (Nat.le_of_ble_eq_true rfl) rfl ?_
  intro go hgo
  refine hgo 20 [] 0 _ _ _ _ _ ?_
  simp only [ixr_of, run_s, run_0, rH_needDrought, rok_i, rok_z, bx_cons, bx_nil, eBP, eC0, eC1, eCV3, eLA0, eLI1, eLI2, eRV, fH_needDrought_0, bH_needDrought_0, ln_ximages, ln_xthought, rg_xmain_0, rg_xmain_1, rg_xmain_10, rg_xmain_2, rg_xmain_3, rg_xmain_4, rg_xmain_5, rg_xmain_6, rg_xmain_7, ty_xaqueduct, ty_xdiary, ty_xforesight, ty_ximages, ty_xmain, ty_xnow, ty_xopinionReader, ty_xtape, ty_xtasters, ty_xthought, Option.toList_some, Option.toList_none, List.cons_append, List.nil_append, List.length_cons, List.length_nil, List.mem_cons, List.not_mem_nil, or_false, false_or, or_true, true_or, ↓reduceIte, true_and, and_true, Nat.reduceEqDiff, Nat.reduceAdd, Nat.reduceLeDiff, Nat.reduceLT, dl_i, dl_r, dl_n, dl_u, eq_self, not_true_eq_false, not_false_eq_true, n10, n01, nm0, n0m, imp_t, imp_f]
  refine call0 (x_needIn h1 ?_)
  simp only [ixr_of, run_s, run_0, rH_needDrought, rok_i, rok_z, bx_cons, bx_nil, eBP, eC0, eC1, eCV3, eLA0, eLI1, eLI2, eRV, fH_needDrought_0, bH_needDrought_0, ln_ximages, ln_xthought, rg_xmain_0, rg_xmain_1, rg_xmain_10, rg_xmain_2, rg_xmain_3, rg_xmain_4, rg_xmain_5, rg_xmain_6, rg_xmain_7, ty_xaqueduct, ty_xdiary, ty_xforesight, ty_ximages, ty_xmain, ty_xnow, ty_xopinionReader, ty_xtape, ty_xtasters, ty_xthought, Option.toList_some, Option.toList_none, List.cons_append, List.nil_append, List.length_cons, List.length_nil, List.mem_cons, List.not_mem_nil, or_false, false_or, or_true, true_or, ↓reduceIte, true_and, and_true, Nat.reduceEqDiff, Nat.reduceAdd, Nat.reduceLeDiff, Nat.reduceLT, dl_i, dl_r, dl_n, dl_u, eq_self, not_true_eq_false, not_false_eq_true, n10, n01, nm0, n0m, imp_t, imp_f]
  refine call0 (x_needIn h2 ?_)
  simp only [ixr_of, run_s, run_0, rH_needDrought, rok_i, rok_z, bx_cons, bx_nil, eBP, eC0, eC1, eCV3, eLA0, eLI1, eLI2, eRV, fH_needDrought_0, bH_needDrought_0, ln_ximages, ln_xthought, rg_xmain_0, rg_xmain_1, rg_xmain_10, rg_xmain_2, rg_xmain_3, rg_xmain_4, rg_xmain_5, rg_xmain_6, rg_xmain_7, ty_xaqueduct, ty_xdiary, ty_xforesight, ty_ximages, ty_xmain, ty_xnow, ty_xopinionReader, ty_xtape, ty_xtasters, ty_xthought, Option.toList_some, Option.toList_none, List.cons_append, List.nil_append, List.length_cons, List.length_nil, List.mem_cons, List.not_mem_nil, or_false, false_or, or_true, true_or, ↓reduceIte, true_and, and_true, Nat.reduceEqDiff, Nat.reduceAdd, Nat.reduceLeDiff, Nat.reduceLT, dl_i, dl_r, dl_n, dl_u, eq_self, not_true_eq_false, not_false_eq_true, n10, n01, nm0, n0m, imp_t, imp_f]
  exact hk
theorem x_needDroughtX {x y : Int32} (hG : GdX Γ l) (hn : ¬ ((nI 0 ≤ x ∧ x ≤ nI 16) ∧ (nI 1 ≤ y ∧ y ≤ nI 60))) (hk : kx iaX (up J 0 14 (J 0 14 + nI 1)) (unE E)) : Ex Γ l (shB b) (d + 9) (1, 6) mH_needDrought [.ref 0, .int x, .int y] J E kr kx := by
  refine ex_of (ls0 := [some (.ref 0), some (.int x), some (.int y)]) tH_needDrought (by decide +kernel) kH_needDrought rfl (Nat.le_of_ble_eq_true rfl) rfl ?_
  intro go hgo
  refine hgo 20 [] 0 _ _ _ _ _ ?_
  simp only [ixr_of, run_s, run_0, rH_needDrought, rok_i, rok_z, bx_cons, bx_nil, eBP, eC0, eC1, eCV3, eLA0, eLI1, eLI2, eRV, fH_needDrought_0, bH_needDrought_0, ln_ximages, ln_xthought, rg_xmain_0, rg_xmain_1, rg_xmain_10, rg_xmain_2, rg_xmain_3, rg_xmain_4, rg_xmain_5, rg_xmain_6, rg_xmain_7, ty_xaqueduct, ty_xdiary, ty_xforesight, ty_ximages, ty_xmain, ty_xnow, ty_xopinionReader, ty_xtape, ty_xtasters, ty_xthought, Option.toList_some, Option.toList_none, List.cons_append, List.nil_append, List.length_cons, List.length_nil, List.mem_cons, List.not_mem_nil, or_false, false_or, or_true, true_or, ↓reduceIte, true_and, and_true, Nat.reduceEqDiff, Nat.reduceAdd, Nat.reduceLeDiff, Nat.reduceLT, dl_i, dl_r, dl_n, dl_u, eq_self, not_true_eq_false, not_false_eq_true, n10, n01, nm0, n0m, imp_t, imp_f]
  by_cases h1 : nI 0 ≤ x ∧ x ≤ nI 16
  · refine call0 (x_needIn h1 ?_)
    simp only [ixr_of, run_s, run_0, rH_needDrought, rok_i, rok_z, bx_cons, bx_nil, eBP, eC0, eC1, eCV3, eLA0, eLI1, eLI2, eRV, fH_needDrought_0, bH_needDrought_0, ln_ximages, ln_xthought, rg_xmain_0, rg_xmain_1, rg_xmain_10, rg_xmain_2, rg_xmain_3, rg_xmain_4, rg_xmain_5, rg_xmain_6, rg_xmain_7, ty_xaqueduct, ty_xdiary, ty_xforesight, ty_ximages, ty_xmain, ty_xnow, ty_xopinionReader, ty_xtape, ty_xtasters, ty_xthought, Option.toList_some, Option.toList_none, List.cons_append, List.nil_append, List.length_cons, List.length_nil, List.mem_cons, List.not_mem_nil, or_false, false_or, or_true, true_or, ↓reduceIte, true_and, and_true, Nat.reduceEqDiff, Nat.reduceAdd, Nat.reduceLeDiff, Nat.reduceLT, dl_i, dl_r, dl_n, dl_u, eq_self, not_true_eq_false, not_false_eq_true, n10, n01, nm0, n0m, imp_t, imp_f]
    exact ⟨1, 6, fun _ => Nat.le_refl _, fun _ => Nat.le_refl _, x_needInX hG.1.1 hG.2.1 hG.2.2 (fun c => hn ⟨h1, c⟩) hk⟩
  · exact ⟨1, 6, fun _ => Nat.le_refl _, fun _ => Nat.le_refl _, x_needInX hG.1.1 hG.2.1 hG.2.2 h1 hk⟩
theorem x_needSet {x : Int32} (g3 : rget (shB b) E 3 0 = .ref t) (tT : tyc (shB b) E t = 10) (hX : XTn J t S) (s9 : S.1.1 ≤ 9) (h1 : nI 0 ≤ x ∧ x ≤ nI (2 ^ S.1.1 - 1)) (hk : kr none J E) : Ex Γ l (shB b) (d + 2) (0, 0) mH_needSet [.ref 0, .int x] J E kr kx := by
  refine ex_of (ls0 := [some (.ref 0), some (.int x)]) tH_needSet (by decide +kernel) kH_needSet rfl (Nat.le_of_ble_eq_true rfl) rfl ?_
  intro go hgo
  refine hgo 20 [] 0 _ _ _ _ _ ?_
  simp only [ixr_of, run_s, run_0, rH_needSet, rok_i, rok_z, bx_cons, bx_nil, eC0, eCV0, eCV3, eGR, eLA0, eLI1, eRV, fH_needSet_0, bH_needSet_0, ln_ximages, ln_xthought, rg_xmain_0, rg_xmain_1, rg_xmain_10, rg_xmain_2, rg_xmain_3, rg_xmain_4, rg_xmain_5, rg_xmain_6, rg_xmain_7, ty_xaqueduct, ty_xdiary, ty_xforesight, ty_ximages, ty_xmain, ty_xnow, ty_xopinionReader, ty_xtape, ty_xtasters, ty_xthought, Option.toList_some, Option.toList_none, List.cons_append, List.nil_append, List.length_cons, List.length_nil, List.mem_cons, List.not_mem_nil, or_false, false_or, or_true, true_or, ↓reduceIte, true_and, and_true, Nat.reduceEqDiff, Nat.reduceAdd, Nat.reduceLeDiff, Nat.reduceLT, dl_i, dl_r, dl_n, dl_u, eq_self, not_true_eq_false, not_false_eq_true, n10, n01, nm0, n0m, g3, tT, imp_t, imp_f]
  refine call0 (x_allBits' tT hX s9 ?_)
  simp only [ixr_of, run_s, run_0, rH_needSet, rok_i, rok_z, bx_cons, bx_nil, eC0, eCV0, eCV3, eGR, eLA0, eLI1, eRV, fH_needSet_0, bH_needSet_0, ln_ximages, ln_xthought, rg_xmain_0, rg_xmain_1, rg_xmain_10, rg_xmain_2, rg_xmain_3, rg_xmain_4, rg_xmain_5, rg_xmain_6, rg_xmain_7, ty_xaqueduct, ty_xdiary, ty_xforesight, ty_ximages, ty_xmain, ty_xnow, ty_xopinionReader, ty_xtape, ty_xtasters, ty_xthought, Option.toList_some, Option.toList_none, List.cons_append, List.nil_append, List.length_cons, List.length_nil, List.mem_cons, List.not_mem_nil, or_false, false_or, or_true, true_or, ↓reduceIte, true_and, and_true, Nat.reduceEqDiff, Nat.reduceAdd, Nat.reduceLeDiff, Nat.reduceLT, dl_i, dl_r, dl_n, dl_u, eq_self, not_true_eq_false, not_false_eq_true, n10, n01, nm0, n0m, imp_t, imp_f]
  refine call0 (x_needIn h1 ?_)
  simp only [ixr_of, run_s, run_0, rH_needSet, rok_i, rok_z, bx_cons, bx_nil, eC0, eCV0, eCV3, eGR, eLA0, eLI1, eRV, fH_needSet_0, bH_needSet_0, ln_ximages, ln_xthought, rg_xmain_0, rg_xmain_1, rg_xmain_10, rg_xmain_2, rg_xmain_3, rg_xmain_4, rg_xmain_5, rg_xmain_6, rg_xmain_7, ty_xaqueduct, ty_xdiary, ty_xforesight, ty_ximages, ty_xmain, ty_xnow, ty_xopinionReader, ty_xtape, ty_xtasters, ty_xthought, Option.toList_some, Option.toList_none, List.cons_append, List.nil_append, List.length_cons, List.length_nil, List.mem_cons, List.not_mem_nil, or_false, false_or, or_true, true_or, ↓reduceIte, true_and, and_true, Nat.reduceEqDiff, Nat.reduceAdd, Nat.reduceLeDiff, Nat.reduceLT, dl_i, dl_r, dl_n, dl_u, eq_self, not_true_eq_false, not_false_eq_true, n10, n01, nm0, n0m, imp_t, imp_f]
  exact hk
theorem x_needSetX {x : Int32} (hG : GdX Γ l) (g3 : rget (shB b) E 3 0 = .ref t) (tT : tyc (shB b) E t = 10) (hX : XTn J t S) (s9 : S.1.1 ≤ 9) (h1 : ¬ (nI 0 ≤ x ∧ x ≤ nI (2 ^ S.1.1 - 1))) (hk : kx iaX (up J 0 14 (J 0 14 + nI 1)) (unE E)) : Ex Γ l (shB b) (d + 9) (1, 6) mH_needSet [.ref 0, .int x] J E kr kx := by
  refine ex_of (ls0 := [some (.ref 0), some (.int x)]) tH_needSet (by decide +kernel) kH_needSet rfl (Nat.le_of_ble_eq_true rfl) rfl ?_
  intro go hgo
  refine hgo 20 [] 0 _ _ _ _ _ ?_
  simp only [ixr_of, run_s, run_0, rH_needSet, rok_i, rok_z, bx_cons, bx_nil, eC0, eCV0, eCV3, eGR, eLA0, eLI1, eRV, fH_needSet_0, bH_needSet_0, ln_ximages, ln_xthought, rg_xmain_0, rg_xmain_1, rg_xmain_10, rg_xmain_2, rg_xmain_3, rg_xmain_4, rg_xmain_5, rg_xmain_6, rg_xmain_7, ty_xaqueduct, ty_xdiary, ty_xforesight, ty_ximages, ty_xmain, ty_xnow, ty_xopinionReader, ty_xtape, ty_xtasters, ty_xthought, Option.toList_some, Option.toList_none, List.cons_append, List.nil_append, List.length_cons, List.length_nil, List.mem_cons, List.not_mem_nil, or_false, false_or, or_true, true_or, ↓reduceIte, true_and, and_true, Nat.reduceEqDiff, Nat.reduceAdd, Nat.reduceLeDiff, Nat.reduceLT, dl_i, dl_r, dl_n, dl_u, eq_self, not_true_eq_false, not_false_eq_true, n10, n01, nm0, n0m, g3, tT, imp_t, imp_f]
  refine call0 (x_allBits' tT hX s9 ?_)
  simp only [ixr_of, run_s, run_0, rH_needSet, rok_i, rok_z, bx_cons, bx_nil, eC0, eCV0, eCV3, eGR, eLA0, eLI1, eRV, fH_needSet_0, bH_needSet_0, ln_ximages, ln_xthought, rg_xmain_0, rg_xmain_1, rg_xmain_10, rg_xmain_2, rg_xmain_3, rg_xmain_4, rg_xmain_5, rg_xmain_6, rg_xmain_7, ty_xaqueduct, ty_xdiary, ty_xforesight, ty_ximages, ty_xmain, ty_xnow, ty_xopinionReader, ty_xtape, ty_xtasters, ty_xthought, Option.toList_some, Option.toList_none, List.cons_append, List.nil_append, List.length_cons, List.length_nil, List.mem_cons, List.not_mem_nil, or_false, false_or, or_true, true_or, ↓reduceIte, true_and, and_true, Nat.reduceEqDiff, Nat.reduceAdd, Nat.reduceLeDiff, Nat.reduceLT, dl_i, dl_r, dl_n, dl_u, eq_self, not_true_eq_false, not_false_eq_true, n10, n01, nm0, n0m, imp_t, imp_f]
  exact ⟨1, 6, fun _ => Nat.le_refl _, fun _ => Nat.le_refl _, x_needInX hG.1.1 hG.2.1 hG.2.2 h1 hk⟩
end XRf

theorem g_loss {q z : Nat} {J : Iv} {E : Ev} {v a b e : Int32} (h : GS q z J E) : StX mH_loss mM_loss [.int v, .int a, .int b, .int e] 1 2 q z J E := by
  have hG0 := h
  obtain ⟨S, PS, t, op, bk, kb, n, n0, p, c, mk, tp, im, nim, rw', r1, r2, r3, r4, r5, r6, r7, r8, r9⟩ := h
  have hS := r1.1.1.2.2.2.1
  have s9 := hS.1
  have hVS := r1.1.2.2.1
  have hq32 := r4.1.1
  obtain ⟨g3, hT, hXt, -⟩ := id r1.1.1
  have tT : tyc shN E t = 10 := (hT.A (b := true) (E := E)).1
  have v7 := hXt.1
  have h40 := hVS.1
  have hD := r3.1.2.1
  have ty71 : tyc shN E 71 = 3 := dyA_71.1
  obtain ⟨-, ⟨y0, y1, y2, y3, y4, y5, y6⟩, ⟨b1, b2, b3, b4, b5, b6, b7⟩, l1, l2, l3, l4, l5, l6, l7⟩ := (dyA_71 (b := true) (E := E))
  by_cases hv : ∃ w, w < S.1.1 ∧ v = nI w
  rotate_left
  · refine ⟨(1, 6), q, z, Cst.x, hq32, fun Γ l d kr kx hG _ hxN hxI => ?_⟩
    refine ex_of (ls0 := [some (.ref 0), some (.int v), some (.int a), some (.int b), some (.int e)]) tH_loss (by decide +kernel) kH_loss rfl (Nat.le_of_ble_eq_true rfl) rfl ?_
    intro go hgo
    refine hgo 20 [] 0 _ _ _ _ _ ?_
    simp only [ixr_of, run_s, run_0, rH_loss, rok_i, rok_z, bx_cons, bx_nil, eC0, eC1, eCV1, eCV2, eCV3, eCV4, eCV6, eGR, eIALD, jIFne, eLA0, eLDCW, eLI1, eLI2, eLI3, eLI4, eRI, fH_loss_0, fH_loss_24, fH_loss_51, bH_loss_0, bH_loss_24, bH_loss_51, ln_ximages, ln_xthought, rg_xmain_0, rg_xmain_1, rg_xmain_10, rg_xmain_2, rg_xmain_3, rg_xmain_4, rg_xmain_5, rg_xmain_6, rg_xmain_7, ty_xaqueduct, ty_xdiary, ty_xforesight, ty_ximages, ty_xmain, ty_xnow, ty_xopinionReader, ty_xtape, ty_xtasters, ty_xthought, Option.toList_some, Option.toList_none, List.cons_append, List.nil_append, List.length_cons, List.length_nil, List.mem_cons, List.not_mem_nil, or_false, false_or, or_true, true_or, ↓reduceIte, true_and, and_true, Nat.reduceEqDiff, Nat.reduceAdd, Nat.reduceLeDiff, Nat.reduceLT, dl_i, dl_r, dl_n, dl_u, eq_self, not_true_eq_false, not_false_eq_true, n10, n01, nm0, n0m, imp_t, imp_f]
    refine ⟨1, 6, fun _ => Nat.le_refl _, fun _ => Nat.le_refl _, x_needVillageX hG.1.1 hG.2.1 hG.2.2 g3 tT v7 (vin_n s9 hv) (hxN _ _ (fun Γ l d kr kx hk => ?_))⟩
    exact c_loss (hVS.t say0) (fun _ => hk _ (hG0.rf (rn := 0) (w := 1) (by decide)).1.un (hG0.rf (rn := 0) (w := 1) (by decide)).2) (fun c _ => absurd c (vim_n (by rw [up_n (by omega)]; exact h40) s9 hv)) (fun w _ _ _ a e _ _ _ _ _ _ _ => absurd ⟨w, a, e⟩ hv)
  obtain ⟨w, hw, rfl⟩ := hv
  by_cases hg : (nI 1 ≤ a ∧ a ≤ nI 30) ∧ (nI 0 ≤ b ∧ b ≤ nI 99)
  rotate_left
  · refine ⟨(1, 6), q, z, Cst.x, hq32, fun Γ l d kr kx hG _ hxN hxI => ?_⟩
    refine ex_of (ls0 := [some (.ref 0), some (.int (nI w)), some (.int a), some (.int b), some (.int e)]) tH_loss (by decide +kernel) kH_loss rfl (Nat.le_of_ble_eq_true rfl) rfl ?_
    intro go hgo
    refine hgo 20 [] 0 _ _ _ _ _ ?_
    simp only [ixr_of, run_s, run_0, rH_loss, rok_i, rok_z, bx_cons, bx_nil, eC0, eC1, eCV1, eCV2, eCV3, eCV4, eCV6, eGR, eIALD, jIFne, eLA0, eLDCW, eLI1, eLI2, eLI3, eLI4, eRI, fH_loss_0, fH_loss_24, fH_loss_51, bH_loss_0, bH_loss_24, bH_loss_51, ln_ximages, ln_xthought, rg_xmain_0, rg_xmain_1, rg_xmain_10, rg_xmain_2, rg_xmain_3, rg_xmain_4, rg_xmain_5, rg_xmain_6, rg_xmain_7, ty_xaqueduct, ty_xdiary, ty_xforesight, ty_ximages, ty_xmain, ty_xnow, ty_xopinionReader, ty_xtape, ty_xtasters, ty_xthought, Option.toList_some, Option.toList_none, List.cons_append, List.nil_append, List.length_cons, List.length_nil, List.mem_cons, List.not_mem_nil, or_false, false_or, or_true, true_or, ↓reduceIte, true_and, and_true, Nat.reduceEqDiff, Nat.reduceAdd, Nat.reduceLeDiff, Nat.reduceLT, dl_i, dl_r, dl_n, dl_u, eq_self, not_true_eq_false, not_false_eq_true, n10, n01, nm0, n0m, imp_t, imp_f]
    refine call0 (x_needVillage g3 tT v7 (vin rfl ⟨hw, s9⟩) ?_)
    simp only [ixr_of, run_s, run_0, rH_loss, rok_i, rok_z, bx_cons, bx_nil, eC0, eC1, eCV1, eCV2, eCV3, eCV4, eCV6, eGR, eIALD, jIFne, eLA0, eLDCW, eLI1, eLI2, eLI3, eLI4, eRI, fH_loss_0, fH_loss_24, fH_loss_51, bH_loss_0, bH_loss_24, bH_loss_51, ln_ximages, ln_xthought, rg_xmain_0, rg_xmain_1, rg_xmain_10, rg_xmain_2, rg_xmain_3, rg_xmain_4, rg_xmain_5, rg_xmain_6, rg_xmain_7, ty_xaqueduct, ty_xdiary, ty_xforesight, ty_ximages, ty_xmain, ty_xnow, ty_xopinionReader, ty_xtape, ty_xtasters, ty_xthought, Option.toList_some, Option.toList_none, List.cons_append, List.nil_append, List.length_cons, List.length_nil, List.mem_cons, List.not_mem_nil, or_false, false_or, or_true, true_or, ↓reduceIte, true_and, and_true, Nat.reduceEqDiff, Nat.reduceAdd, Nat.reduceLeDiff, Nat.reduceLT, dl_i, dl_r, dl_n, dl_u, eq_self, not_true_eq_false, not_false_eq_true, n10, n01, nm0, n0m, imp_t, imp_f]
    refine ⟨1, 6, fun _ => Nat.le_refl _, fun _ => Nat.le_refl _, x_needGameX hG hg (hxI _ _ (fun Γ l d kr kx hk => ?_))⟩
    exact c_loss (hVS.t say0) (fun c => absurd (vim (by rw [up_n (by omega)]; exact h40) s9 hw rfl) c) (fun _ _ => hk _ (hG0.rf (rn := 1) (w := 2) (by decide)).1.un (hG0.rf (rn := 1) (w := 2) (by decide)).2) (fun w k c u a1 a2 a3 a4 a5 a6 a7 a8 a9 => absurd ⟨by rw [a5]; exact rgI (by omega) (by omega) (by decide), by rw [a7]; exact rgI (by omega) (by omega) (by decide)⟩ hg)
  by_cases hin : nI 0 ≤ e ∧ e ≤ nI 1
  rotate_left
  · refine ⟨(1, 6), q, z, Cst.x, hq32, fun Γ l d kr kx hG _ hxN hxI => ?_⟩
    refine ex_of (ls0 := [some (.ref 0), some (.int (nI w)), some (.int a), some (.int b), some (.int e)]) tH_loss (by decide +kernel) kH_loss rfl (Nat.le_of_ble_eq_true rfl) rfl ?_
    intro go hgo
    refine hgo 20 [] 0 _ _ _ _ _ ?_
    simp only [ixr_of, run_s, run_0, rH_loss, rok_i, rok_z, bx_cons, bx_nil, eC0, eC1, eCV1, eCV2, eCV3, eCV4, eCV6, eGR, eIALD, jIFne, eLA0, eLDCW, eLI1, eLI2, eLI3, eLI4, eRI, fH_loss_0, fH_loss_24, fH_loss_51, bH_loss_0, bH_loss_24, bH_loss_51, ln_ximages, ln_xthought, rg_xmain_0, rg_xmain_1, rg_xmain_10, rg_xmain_2, rg_xmain_3, rg_xmain_4, rg_xmain_5, rg_xmain_6, rg_xmain_7, ty_xaqueduct, ty_xdiary, ty_xforesight, ty_ximages, ty_xmain, ty_xnow, ty_xopinionReader, ty_xtape, ty_xtasters, ty_xthought, Option.toList_some, Option.toList_none, List.cons_append, List.nil_append, List.length_cons, List.length_nil, List.mem_cons, List.not_mem_nil, or_false, false_or, or_true, true_or, ↓reduceIte, true_and, and_true, Nat.reduceEqDiff, Nat.reduceAdd, Nat.reduceLeDiff, Nat.reduceLT, dl_i, dl_r, dl_n, dl_u, eq_self, not_true_eq_false, not_false_eq_true, n10, n01, nm0, n0m, imp_t, imp_f]
    refine call0 (x_needVillage g3 tT v7 (vin rfl ⟨hw, s9⟩) ?_)
    simp only [ixr_of, run_s, run_0, rH_loss, rok_i, rok_z, bx_cons, bx_nil, eC0, eC1, eCV1, eCV2, eCV3, eCV4, eCV6, eGR, eIALD, jIFne, eLA0, eLDCW, eLI1, eLI2, eLI3, eLI4, eRI, fH_loss_0, fH_loss_24, fH_loss_51, bH_loss_0, bH_loss_24, bH_loss_51, ln_ximages, ln_xthought, rg_xmain_0, rg_xmain_1, rg_xmain_10, rg_xmain_2, rg_xmain_3, rg_xmain_4, rg_xmain_5, rg_xmain_6, rg_xmain_7, ty_xaqueduct, ty_xdiary, ty_xforesight, ty_ximages, ty_xmain, ty_xnow, ty_xopinionReader, ty_xtape, ty_xtasters, ty_xthought, Option.toList_some, Option.toList_none, List.cons_append, List.nil_append, List.length_cons, List.length_nil, List.mem_cons, List.not_mem_nil, or_false, false_or, or_true, true_or, ↓reduceIte, true_and, and_true, Nat.reduceEqDiff, Nat.reduceAdd, Nat.reduceLeDiff, Nat.reduceLT, dl_i, dl_r, dl_n, dl_u, eq_self, not_true_eq_false, not_false_eq_true, n10, n01, nm0, n0m, imp_t, imp_f]
    refine call0 (x_needGame hg.1 hg.2 ?_)
    simp only [ixr_of, run_s, run_0, rH_loss, rok_i, rok_z, bx_cons, bx_nil, eC0, eC1, eCV1, eCV2, eCV3, eCV4, eCV6, eGR, eIALD, jIFne, eLA0, eLDCW, eLI1, eLI2, eLI3, eLI4, eRI, fH_loss_0, fH_loss_24, fH_loss_51, bH_loss_0, bH_loss_24, bH_loss_51, ln_ximages, ln_xthought, rg_xmain_0, rg_xmain_1, rg_xmain_10, rg_xmain_2, rg_xmain_3, rg_xmain_4, rg_xmain_5, rg_xmain_6, rg_xmain_7, ty_xaqueduct, ty_xdiary, ty_xforesight, ty_ximages, ty_xmain, ty_xnow, ty_xopinionReader, ty_xtape, ty_xtasters, ty_xthought, Option.toList_some, Option.toList_none, List.cons_append, List.nil_append, List.length_cons, List.length_nil, List.mem_cons, List.not_mem_nil, or_false, false_or, or_true, true_or, ↓reduceIte, true_and, and_true, Nat.reduceEqDiff, Nat.reduceAdd, Nat.reduceLeDiff, Nat.reduceLT, dl_i, dl_r, dl_n, dl_u, eq_self, not_true_eq_false, not_false_eq_true, n10, n01, nm0, n0m, imp_t, imp_f]
    refine ⟨1, 6, fun _ => Nat.le_refl _, fun _ => Nat.le_refl _, x_needInX hG.1.1 hG.2.1 hG.2.2 hin (hxI _ _ (fun Γ l d kr kx hk => ?_))⟩
    exact c_loss (hVS.t say0) (fun c => absurd (vim (by rw [up_n (by omega)]; exact h40) s9 hw rfl) c) (fun _ _ => hk _ (hG0.rf (rn := 1) (w := 2) (by decide)).1.un (hG0.rf (rn := 1) (w := 2) (by decide)).2) (fun w k c u a1 a2 a3 a4 a5 a6 a7 a8 a9 => absurd (by rw [a9]; exact rgI (by omega) (by omega) (by decide)) hin)
  obtain ⟨k0, hk1, hk3, rfl⟩ := rng1 (by decide) hg.1
  obtain ⟨c0, hc9, rfl⟩ := rng (by decide) hg.2
  obtain ⟨u0, hu1, rfl⟩ := rng (by decide) hin
  have hn9 := r3.2.1
  have i9 : w < 9 := by omega
  obtain ⟨eg, gd, hgd, eg2⟩ := r3.1.2.2.2.2.1 w i9
  have ey : J 77 w = nI gd := eg.trans eg2
  have key : ∀ K, XF 48 J K → ∀ a, a = (if u0 = 0 then lsF J S.1.1 S.1.2 w k0 (nI c0) k0 else nI (wsN J S.1.1 S.1.2 w k0 (nI c0) 4).1) → MAns mM_loss [.ref 500000, .int (nI w), .int (nI k0), .int (nI c0), .int (nI u0)] a 0 q z K E := by
    intro K hX a ha Γ l d kr kx hk2
    have hm := Ms.xf (Or.inl rfl) hX
    have k40 : K 500004 0 = nI S.1.1 := by rw [hm 500004 (by omega) (by omega)]; exact h40
    refine c_loss (hVS.t hm.t) (fun c => absurd (vim k40 s9 hw rfl) c) (fun _ c => absurd ⟨hg.1, hg.2, hin⟩ c) (fun w' k' c' u' a1 a2 a3 a4 a5 a6 a7 a8 a9 L hL hz => ?_)
    rw [nI_eq (by omega) (by omega)] at a2 a5 a7 a9
    subst a2; subst a5; subst a7; subst a9
    rw [lsF_ms hm hS, wsN_ms hm hS, ← ha]
    exact hk2 L (hG0.fm (Or.inl rfl) hX hL) hz
  refine ⟨(0, 0), q, z, Cst.no, hq32, fun Γ l d kr kx hG hk _ _ => ?_⟩
  refine ex_of (ls0 := [some (.ref 0), some (.int (nI w)), some (.int (nI k0)), some (.int (nI c0)), some (.int (nI u0))]) tH_loss (by decide +kernel) kH_loss rfl (Nat.le_of_ble_eq_true rfl) rfl ?_
  intro go hgo
  refine hgo 20 [] 0 _ _ _ _ _ ?_
  simp only [ixr_of, run_s, run_0, rH_loss, rok_i, rok_z, bx_cons, bx_nil, eC0, eC1, eCV1, eCV2, eCV3, eCV4, eCV6, eGR, eIALD, jIFne, eLA0, eLDCW, eLI1, eLI2, eLI3, eLI4, eRI, fH_loss_0, fH_loss_24, fH_loss_51, bH_loss_0, bH_loss_24, bH_loss_51, ln_ximages, ln_xthought, rg_xmain_0, rg_xmain_1, rg_xmain_10, rg_xmain_2, rg_xmain_3, rg_xmain_4, rg_xmain_5, rg_xmain_6, rg_xmain_7, ty_xaqueduct, ty_xdiary, ty_xforesight, ty_ximages, ty_xmain, ty_xnow, ty_xopinionReader, ty_xtape, ty_xtasters, ty_xthought, Option.toList_some, Option.toList_none, List.cons_append, List.nil_append, List.length_cons, List.length_nil, List.mem_cons, List.not_mem_nil, or_false, false_or, or_true, true_or, ↓reduceIte, true_and, and_true, Nat.reduceEqDiff, Nat.reduceAdd, Nat.reduceLeDiff, Nat.reduceLT, dl_i, dl_r, dl_n, dl_u, eq_self, not_true_eq_false, not_false_eq_true, n10, n01, nm0, n0m, imp_t, imp_f]
  refine call0 (x_needVillage g3 tT v7 (vin rfl ⟨hw, s9⟩) ?_)
  simp only [ixr_of, run_s, run_0, rH_loss, rok_i, rok_z, bx_cons, bx_nil, eC0, eC1, eCV1, eCV2, eCV3, eCV4, eCV6, eGR, eIALD, jIFne, eLA0, eLDCW, eLI1, eLI2, eLI3, eLI4, eRI, fH_loss_0, fH_loss_24, fH_loss_51, bH_loss_0, bH_loss_24, bH_loss_51, ln_ximages, ln_xthought, rg_xmain_0, rg_xmain_1, rg_xmain_10, rg_xmain_2, rg_xmain_3, rg_xmain_4, rg_xmain_5, rg_xmain_6, rg_xmain_7, ty_xaqueduct, ty_xdiary, ty_xforesight, ty_ximages, ty_xmain, ty_xnow, ty_xopinionReader, ty_xtape, ty_xtasters, ty_xthought, Option.toList_some, Option.toList_none, List.cons_append, List.nil_append, List.length_cons, List.length_nil, List.mem_cons, List.not_mem_nil, or_false, false_or, or_true, true_or, ↓reduceIte, true_and, and_true, Nat.reduceEqDiff, Nat.reduceAdd, Nat.reduceLeDiff, Nat.reduceLT, dl_i, dl_r, dl_n, dl_u, eq_self, not_true_eq_false, not_false_eq_true, n10, n01, nm0, n0m, imp_t, imp_f]
  refine call0 (x_needGame hg.1 hg.2 ?_)
  simp only [ixr_of, run_s, run_0, rH_loss, rok_i, rok_z, bx_cons, bx_nil, eC0, eC1, eCV1, eCV2, eCV3, eCV4, eCV6, eGR, eIALD, jIFne, eLA0, eLDCW, eLI1, eLI2, eLI3, eLI4, eRI, fH_loss_0, fH_loss_24, fH_loss_51, bH_loss_0, bH_loss_24, bH_loss_51, ln_ximages, ln_xthought, rg_xmain_0, rg_xmain_1, rg_xmain_10, rg_xmain_2, rg_xmain_3, rg_xmain_4, rg_xmain_5, rg_xmain_6, rg_xmain_7, ty_xaqueduct, ty_xdiary, ty_xforesight, ty_ximages, ty_xmain, ty_xnow, ty_xopinionReader, ty_xtape, ty_xtasters, ty_xthought, Option.toList_some, Option.toList_none, List.cons_append, List.nil_append, List.length_cons, List.length_nil, List.mem_cons, List.not_mem_nil, or_false, false_or, or_true, true_or, ↓reduceIte, true_and, and_true, Nat.reduceEqDiff, Nat.reduceAdd, Nat.reduceLeDiff, Nat.reduceLT, dl_i, dl_r, dl_n, dl_u, eq_self, not_true_eq_false, not_false_eq_true, n10, n01, nm0, n0m, imp_t, imp_f]
  refine call0 (x_needIn hin ?_)
  simp only [ixr_of, run_s, run_0, rH_loss, rok_i, rok_z, bx_cons, bx_nil, eC0, eC1, eCV1, eCV2, eCV3, eCV4, eCV6, eGR, eIALD, jIFne, eLA0, eLDCW, eLI1, eLI2, eLI3, eLI4, eRI, fH_loss_0, fH_loss_24, fH_loss_51, bH_loss_0, bH_loss_24, bH_loss_51, ln_ximages, ln_xthought, rg_xmain_0, rg_xmain_1, rg_xmain_10, rg_xmain_2, rg_xmain_3, rg_xmain_4, rg_xmain_5, rg_xmain_6, rg_xmain_7, ty_xaqueduct, ty_xdiary, ty_xforesight, ty_ximages, ty_xmain, ty_xnow, ty_xopinionReader, ty_xtape, ty_xtasters, ty_xthought, Option.toList_some, Option.toList_none, List.cons_append, List.nil_append, List.length_cons, List.length_nil, List.mem_cons, List.not_mem_nil, or_false, false_or, or_true, true_or, ↓reduceIte, true_and, and_true, Nat.reduceEqDiff, Nat.reduceAdd, Nat.reduceLeDiff, Nat.reduceLT, dl_i, dl_r, dl_n, dl_u, eq_self, not_true_eq_false, not_false_eq_true, n10, n01, nm0, n0m, imp_t, imp_f]
  have c0' : (nI u0 = nI 0) = (u0 = 0) := nIe (by omega) (by decide)
  simp only [ixr_of, run_s, run_0, rH_loss, rok_i, rok_z, bx_cons, bx_nil, eC0, eC1, eCV1, eCV2, eCV3, eCV4, eCV6, eGR, eIALD, jIFne, eLA0, eLDCW, eLI1, eLI2, eLI3, eLI4, eRI, fH_loss_0, fH_loss_24, fH_loss_51, bH_loss_0, bH_loss_24, bH_loss_51, ln_ximages, ln_xthought, rg_xmain_0, rg_xmain_1, rg_xmain_10, rg_xmain_2, rg_xmain_3, rg_xmain_4, rg_xmain_5, rg_xmain_6, rg_xmain_7, ty_xaqueduct, ty_xdiary, ty_xforesight, ty_ximages, ty_xmain, ty_xnow, ty_xopinionReader, ty_xtape, ty_xtasters, ty_xthought, Option.toList_some, Option.toList_none, List.cons_append, List.nil_append, List.length_cons, List.length_nil, List.mem_cons, List.not_mem_nil, or_false, false_or, or_true, true_or, ↓reduceIte, true_and, and_true, Nat.reduceEqDiff, Nat.reduceAdd, Nat.reduceLeDiff, Nat.reduceLT, dl_i, dl_r, dl_n, dl_u, eq_self, not_true_eq_false, not_false_eq_true, n10, n01, nm0, n0m, c0', ty71, y5, b6, l6, i9, ey, imp_t, imp_f]
  refine ⟨fun zz => ?_, fun zz => ?_⟩
  · refine call0 (x_wishOf hG.1 r1.1 r3.1 (by omega) hk3 hw hc9 (fun K hX => ?_))
    simp only [ixr_of, run_s, run_0, rH_loss, rok_i, rok_z, bx_cons, bx_nil, eC0, eC1, eCV1, eCV2, eCV3, eCV4, eCV6, eGR, eIALD, jIFne, eLA0, eLDCW, eLI1, eLI2, eLI3, eLI4, eRI, fH_loss_0, fH_loss_24, fH_loss_51, bH_loss_0, bH_loss_24, bH_loss_51, ln_ximages, ln_xthought, rg_xmain_0, rg_xmain_1, rg_xmain_10, rg_xmain_2, rg_xmain_3, rg_xmain_4, rg_xmain_5, rg_xmain_6, rg_xmain_7, ty_xaqueduct, ty_xdiary, ty_xforesight, ty_ximages, ty_xmain, ty_xnow, ty_xopinionReader, ty_xtape, ty_xtasters, ty_xthought, Option.toList_some, Option.toList_none, List.cons_append, List.nil_append, List.length_cons, List.length_nil, List.mem_cons, List.not_mem_nil, or_false, false_or, or_true, true_or, ↓reduceIte, true_and, and_true, Nat.reduceEqDiff, Nat.reduceAdd, Nat.reduceLeDiff, Nat.reduceLT, dl_i, dl_r, dl_n, dl_u, eq_self, not_true_eq_false, not_false_eq_true, n10, n01, nm0, n0m, imp_t, imp_f]
    exact hk _ K E (key K hX _ (by rw [if_neg zz]))
  · refine call0 (x_lossWith (g := gd) hG.1 r1.1 r3.1 (by omega) hk3 hw hgd hc9 (fun K a ee hX hL he ha => ?_))
    simp only [ixr_of, run_s, run_0, rH_loss, rok_i, rok_z, bx_cons, bx_nil, eC0, eC1, eCV1, eCV2, eCV3, eCV4, eCV6, eGR, eIALD, jIFne, eLA0, eLDCW, eLI1, eLI2, eLI3, eLI4, eRI, fH_loss_0, fH_loss_24, fH_loss_51, bH_loss_0, bH_loss_24, bH_loss_51, ln_ximages, ln_xthought, rg_xmain_0, rg_xmain_1, rg_xmain_10, rg_xmain_2, rg_xmain_3, rg_xmain_4, rg_xmain_5, rg_xmain_6, rg_xmain_7, ty_xaqueduct, ty_xdiary, ty_xforesight, ty_ximages, ty_xmain, ty_xnow, ty_xopinionReader, ty_xtape, ty_xtasters, ty_xthought, Option.toList_some, Option.toList_none, List.cons_append, List.nil_append, List.length_cons, List.length_nil, List.mem_cons, List.not_mem_nil, or_false, false_or, or_true, true_or, ↓reduceIte, true_and, and_true, Nat.reduceEqDiff, Nat.reduceAdd, Nat.reduceLeDiff, Nat.reduceLT, dl_i, dl_r, dl_n, dl_u, eq_self, not_true_eq_false, not_false_eq_true, n10, n01, nm0, n0m, imp_t, imp_f]
    have e1 : gI J w gd = J := by unfold gI; exact up_self eg2
    rw [e1] at hL
    have e2 : a = nI ee := by
      rcases ha with h5 | ⟨-, h5⟩
      · exact h5
      · exfalso
        have : nI 2147483647 ≤ nI ee := h5
        rw [nI_leI (by decide) (by omega)] at this
        omega
    exact hk _ K E (key K hX _ (by rw [if_pos zz, hL, e2]))

theorem g_drought {q z : Nat} {J : Iv} {E : Ev} {a b e f : Int32} (h : GS q z J E) : StX1 mH_drought mM_drought [.int a, .int b, .int e, .int f] 1 q z J E := by
  have hG0 := h
  obtain ⟨S, PS, t, op, bk, kb, n, n0, p, c, mk, tp, im, nim, rw', r1, r2, r3, r4, r5, r6, r7, r8, r9⟩ := h
  have hS := r1.1.1.2.2.2.1
  have s9 := hS.1
  have hVS := r1.1.2.2.1
  have hq32 := r4.1.1
  obtain ⟨g3, hT, hXt, -⟩ := id r1.1.1
  have tT : tyc shN E t = 10 := (hT.A (b := true) (E := E)).1
  have v7 := hXt.1
  have h40 := hVS.1
  by_cases hg : (nI 0 ≤ b ∧ b ≤ nI 16) ∧ (nI 1 ≤ e ∧ e ≤ nI 60)
  rotate_left
  · refine ⟨(1, 6), q, z, Cst.x, hq32, fun Γ l d kr kx hG _ hxI => ?_⟩
    refine ex_of (ls0 := [some (.ref 0), some (.int a), some (.int b), some (.int e), some (.int f), none]) tH_drought (by decide +kernel) kH_drought rfl (Nat.le_of_ble_eq_true rfl) rfl ?_
    intro go hgo
    refine hgo 20 [] 0 _ _ _ _ _ ?_
    simp only [ixr_of, run_s, run_0, rH_drought, rok_i, rok_z, bx_cons, bx_nil, eC0, eC1, eCV0, eCV2, eCV3, eCV4, eGO, eGR, jIFne, eLA0, eLI1, eLI2, eLI3, eLI4, eLI5, eRI, eSI5, fH_drought_0, fH_drought_35, fH_drought_48, fH_drought_50, bH_drought_0, bH_drought_35, bH_drought_48, bH_drought_50, ln_ximages, ln_xthought, rg_xmain_0, rg_xmain_1, rg_xmain_10, rg_xmain_2, rg_xmain_3, rg_xmain_4, rg_xmain_5, rg_xmain_6, rg_xmain_7, ty_xaqueduct, ty_xdiary, ty_xforesight, ty_ximages, ty_xmain, ty_xnow, ty_xopinionReader, ty_xtape, ty_xtasters, ty_xthought, Option.toList_some, Option.toList_none, List.cons_append, List.nil_append, List.length_cons, List.length_nil, List.mem_cons, List.not_mem_nil, or_false, false_or, or_true, true_or, ↓reduceIte, true_and, and_true, Nat.reduceEqDiff, Nat.reduceAdd, Nat.reduceLeDiff, Nat.reduceLT, dl_i, dl_r, dl_n, dl_u, eq_self, not_true_eq_false, not_false_eq_true, n10, n01, nm0, n0m, imp_t, imp_f]
    refine ⟨1, 6, fun _ => Nat.le_refl _, fun _ => Nat.le_refl _, x_needDroughtX hG hg (hxI _ _ (fun Γ l d kr kx hk => ?_))⟩
    exact c_drought (hVS.t say0) (fun _ => hk _ (hG0.rf (rn := 1) (w := 1) (by decide)).1.un (hG0.rf (rn := 1) (w := 1) (by decide)).2) (fun a1 a2 a3 a4 a5 a6 a7 a8 a9 a10 => absurd ⟨by rw [a5]; exact rgI (by omega) (by omega) (by decide), by rw [a8]; exact rgI (by omega) (by omega) (by decide)⟩ hg)
  by_cases hin : nI 0 ≤ f ∧ f ≤ nI 1
  rotate_left
  · refine ⟨(1, 6), q, z, Cst.x, hq32, fun Γ l d kr kx hG _ hxI => ?_⟩
    refine ex_of (ls0 := [some (.ref 0), some (.int a), some (.int b), some (.int e), some (.int f), none]) tH_drought (by decide +kernel) kH_drought rfl (Nat.le_of_ble_eq_true rfl) rfl ?_
    intro go hgo
    refine hgo 20 [] 0 _ _ _ _ _ ?_
    simp only [ixr_of, run_s, run_0, rH_drought, rok_i, rok_z, bx_cons, bx_nil, eC0, eC1, eCV0, eCV2, eCV3, eCV4, eGO, eGR, jIFne, eLA0, eLI1, eLI2, eLI3, eLI4, eLI5, eRI, eSI5, fH_drought_0, fH_drought_35, fH_drought_48, fH_drought_50, bH_drought_0, bH_drought_35, bH_drought_48, bH_drought_50, ln_ximages, ln_xthought, rg_xmain_0, rg_xmain_1, rg_xmain_10, rg_xmain_2, rg_xmain_3, rg_xmain_4, rg_xmain_5, rg_xmain_6, rg_xmain_7, ty_xaqueduct, ty_xdiary, ty_xforesight, ty_ximages, ty_xmain, ty_xnow, ty_xopinionReader, ty_xtape, ty_xtasters, ty_xthought, Option.toList_some, Option.toList_none, List.cons_append, List.nil_append, List.length_cons, List.length_nil, List.mem_cons, List.not_mem_nil, or_false, false_or, or_true, true_or, ↓reduceIte, true_and, and_true, Nat.reduceEqDiff, Nat.reduceAdd, Nat.reduceLeDiff, Nat.reduceLT, dl_i, dl_r, dl_n, dl_u, eq_self, not_true_eq_false, not_false_eq_true, n10, n01, nm0, n0m, imp_t, imp_f]
    refine call0 (x_needDrought hg.1 hg.2 ?_)
    simp only [ixr_of, run_s, run_0, rH_drought, rok_i, rok_z, bx_cons, bx_nil, eC0, eC1, eCV0, eCV2, eCV3, eCV4, eGO, eGR, jIFne, eLA0, eLI1, eLI2, eLI3, eLI4, eLI5, eRI, eSI5, fH_drought_0, fH_drought_35, fH_drought_48, fH_drought_50, bH_drought_0, bH_drought_35, bH_drought_48, bH_drought_50, ln_ximages, ln_xthought, rg_xmain_0, rg_xmain_1, rg_xmain_10, rg_xmain_2, rg_xmain_3, rg_xmain_4, rg_xmain_5, rg_xmain_6, rg_xmain_7, ty_xaqueduct, ty_xdiary, ty_xforesight, ty_ximages, ty_xmain, ty_xnow, ty_xopinionReader, ty_xtape, ty_xtasters, ty_xthought, Option.toList_some, Option.toList_none, List.cons_append, List.nil_append, List.length_cons, List.length_nil, List.mem_cons, List.not_mem_nil, or_false, false_or, or_true, true_or, ↓reduceIte, true_and, and_true, Nat.reduceEqDiff, Nat.reduceAdd, Nat.reduceLeDiff, Nat.reduceLT, dl_i, dl_r, dl_n, dl_u, eq_self, not_true_eq_false, not_false_eq_true, n10, n01, nm0, n0m, imp_t, imp_f]
    refine ⟨1, 6, fun _ => Nat.le_refl _, fun _ => Nat.le_refl _, x_needInX hG.1.1 hG.2.1 hG.2.2 hin (hxI _ _ (fun Γ l d kr kx hk => ?_))⟩
    exact c_drought (hVS.t say0) (fun _ => hk _ (hG0.rf (rn := 1) (w := 1) (by decide)).1.un (hG0.rf (rn := 1) (w := 1) (by decide)).2) (fun a1 a2 a3 a4 a5 a6 a7 a8 a9 a10 => absurd (by rw [a10]; exact rgI (by omega) (by omega) (by decide)) hin)
  obtain ⟨q0, hq6, rfl⟩ := rng (by decide) hg.1
  obtain ⟨k0, hk1, hk3, rfl⟩ := rng1 (by decide) hg.2
  obtain ⟨u0, hu1, rfl⟩ := rng (by decide) hin
  have hn9 := r3.2.1
  have key : ∀ K, XF 48 J K → ∀ x, x = (if u0 = 0 then vwI (it2 J S.1.1 S.1.2 (pmD J (nI q0)) (J 500124, a) k0).1 else dwS J S.1.1 S.1.2 (pmD J (nI q0)) (J 500124, a) k0) → MAns mM_drought [.ref 500000, .int a, .int (nI q0), .int (nI k0), .int (nI u0)] x 0 q z K E := by
    intro K hX x hx Γ l d kr kx hk2
    have hm := Ms.xf (Or.inl rfl) hX
    refine c_drought (hVS.t hm.t) (fun c => absurd ⟨hg.1, hg.2, hin⟩ c) (fun q' k' u' a4 a5 a6 a7 a8 a9 a10 L hL hz => ?_)
    rw [nI_eq (by omega) (by omega)] at a8 a10
    subst a8; subst a10
    obtain ⟨d1, d2⟩ := dw_ms (x := a) (qq := nI q0) (m := k0) hm hS
    rw [d1, d2, ← hx]
    exact hk2 L (hG0.fm (Or.inl rfl) hX hL) hz
  refine ⟨(0, 0), q, z, Cst.no, hq32, fun Γ l d kr kx hG hk _ => ?_⟩
  refine ex_of (ls0 := [some (.ref 0), some (.int a), some (.int (nI q0)), some (.int (nI k0)), some (.int (nI u0)), none]) tH_drought (by decide +kernel) kH_drought rfl (Nat.le_of_ble_eq_true rfl) rfl ?_
  intro go hgo
  refine hgo 20 [] 0 _ _ _ _ _ ?_
  simp only [ixr_of, run_s, run_0, rH_drought, rok_i, rok_z, bx_cons, bx_nil, eC0, eC1, eCV0, eCV2, eCV3, eCV4, eGO, eGR, jIFne, eLA0, eLI1, eLI2, eLI3, eLI4, eLI5, eRI, eSI5, fH_drought_0, fH_drought_35, fH_drought_48, fH_drought_50, bH_drought_0, bH_drought_35, bH_drought_48, bH_drought_50, ln_ximages, ln_xthought, rg_xmain_0, rg_xmain_1, rg_xmain_10, rg_xmain_2, rg_xmain_3, rg_xmain_4, rg_xmain_5, rg_xmain_6, rg_xmain_7, ty_xaqueduct, ty_xdiary, ty_xforesight, ty_ximages, ty_xmain, ty_xnow, ty_xopinionReader, ty_xtape, ty_xtasters, ty_xthought, Option.toList_some, Option.toList_none, List.cons_append, List.nil_append, List.length_cons, List.length_nil, List.mem_cons, List.not_mem_nil, or_false, false_or, or_true, true_or, ↓reduceIte, true_and, and_true, Nat.reduceEqDiff, Nat.reduceAdd, Nat.reduceLeDiff, Nat.reduceLT, dl_i, dl_r, dl_n, dl_u, eq_self, not_true_eq_false, not_false_eq_true, n10, n01, nm0, n0m, imp_t, imp_f]
  refine call0 (x_needDrought hg.1 hg.2 ?_)
  simp only [ixr_of, run_s, run_0, rH_drought, rok_i, rok_z, bx_cons, bx_nil, eC0, eC1, eCV0, eCV2, eCV3, eCV4, eGO, eGR, jIFne, eLA0, eLI1, eLI2, eLI3, eLI4, eLI5, eRI, eSI5, fH_drought_0, fH_drought_35, fH_drought_48, fH_drought_50, bH_drought_0, bH_drought_35, bH_drought_48, bH_drought_50, ln_ximages, ln_xthought, rg_xmain_0, rg_xmain_1, rg_xmain_10, rg_xmain_2, rg_xmain_3, rg_xmain_4, rg_xmain_5, rg_xmain_6, rg_xmain_7, ty_xaqueduct, ty_xdiary, ty_xforesight, ty_ximages, ty_xmain, ty_xnow, ty_xopinionReader, ty_xtape, ty_xtasters, ty_xthought, Option.toList_some, Option.toList_none, List.cons_append, List.nil_append, List.length_cons, List.length_nil, List.mem_cons, List.not_mem_nil, or_false, false_or, or_true, true_or, ↓reduceIte, true_and, and_true, Nat.reduceEqDiff, Nat.reduceAdd, Nat.reduceLeDiff, Nat.reduceLT, dl_i, dl_r, dl_n, dl_u, eq_self, not_true_eq_false, not_false_eq_true, n10, n01, nm0, n0m, imp_t, imp_f]
  refine call0 (x_needIn hin ?_)
  simp only [ixr_of, run_s, run_0, rH_drought, rok_i, rok_z, bx_cons, bx_nil, eC0, eC1, eCV0, eCV2, eCV3, eCV4, eGO, eGR, jIFne, eLA0, eLI1, eLI2, eLI3, eLI4, eLI5, eRI, eSI5, fH_drought_0, fH_drought_35, fH_drought_48, fH_drought_50, bH_drought_0, bH_drought_35, bH_drought_48, bH_drought_50, ln_ximages, ln_xthought, rg_xmain_0, rg_xmain_1, rg_xmain_10, rg_xmain_2, rg_xmain_3, rg_xmain_4, rg_xmain_5, rg_xmain_6, rg_xmain_7, ty_xaqueduct, ty_xdiary, ty_xforesight, ty_ximages, ty_xmain, ty_xnow, ty_xopinionReader, ty_xtape, ty_xtasters, ty_xthought, Option.toList_some, Option.toList_none, List.cons_append, List.nil_append, List.length_cons, List.length_nil, List.mem_cons, List.not_mem_nil, or_false, false_or, or_true, true_or, ↓reduceIte, true_and, and_true, Nat.reduceEqDiff, Nat.reduceAdd, Nat.reduceLeDiff, Nat.reduceLT, dl_i, dl_r, dl_n, dl_u, eq_self, not_true_eq_false, not_false_eq_true, n10, n01, nm0, n0m, imp_t, imp_f]
  refine call0 (x_droughtWater hG.1 r1.1 r3.1 (by omega) hk3 hq6 (fun K ee hX hDK hdw he => ?_))
  have c0' : (nI u0 = nI 0) = (u0 = 0) := nIe (by omega) (by decide)
  have ty48 : tyc shN E 48 = 3 := dyA_48.1
  have rf1 : rget shN E 47 1 = .ref 48 := rg_xforesight_1
  have tf : tyc shN E 47 = 5 := ty_xforesight
  simp only [ixr_of, run_s, run_0, rH_drought, rok_i, rok_z, bx_cons, bx_nil, eC0, eC1, eCV0, eCV2, eCV3, eCV4, eGO, eGR, jIFne, eLA0, eLI1, eLI2, eLI3, eLI4, eLI5, eRI, eSI5, fH_drought_0, fH_drought_35, fH_drought_48, fH_drought_50, bH_drought_0, bH_drought_35, bH_drought_48, bH_drought_50, ln_ximages, ln_xthought, rg_xmain_0, rg_xmain_1, rg_xmain_10, rg_xmain_2, rg_xmain_3, rg_xmain_4, rg_xmain_5, rg_xmain_6, rg_xmain_7, ty_xaqueduct, ty_xdiary, ty_xforesight, ty_ximages, ty_xmain, ty_xnow, ty_xopinionReader, ty_xtape, ty_xtasters, ty_xthought, Option.toList_some, Option.toList_none, List.cons_append, List.nil_append, List.length_cons, List.length_nil, List.mem_cons, List.not_mem_nil, or_false, false_or, or_true, true_or, ↓reduceIte, true_and, and_true, Nat.reduceEqDiff, Nat.reduceAdd, Nat.reduceLeDiff, Nat.reduceLT, dl_i, dl_r, dl_n, dl_u, eq_self, not_true_eq_false, not_false_eq_true, n10, n01, nm0, n0m, c0', rf1, tf, ty48, imp_t, imp_f]
  refine ⟨fun zz => ?_, fun zz => ?_⟩
  · exact hk _ K E (key K hX _ (by rw [if_neg zz, hdw]))
  · refine call0 (x_seen dyA_48 ?_)
    rw [vw_dr hDK]
    simp only [ixr_of, run_s, run_0, rH_drought, rok_i, rok_z, bx_cons, bx_nil, eC0, eC1, eCV0, eCV2, eCV3, eCV4, eGO, eGR, jIFne, eLA0, eLI1, eLI2, eLI3, eLI4, eLI5, eRI, eSI5, fH_drought_0, fH_drought_35, fH_drought_48, fH_drought_50, bH_drought_0, bH_drought_35, bH_drought_48, bH_drought_50, ln_ximages, ln_xthought, rg_xmain_0, rg_xmain_1, rg_xmain_10, rg_xmain_2, rg_xmain_3, rg_xmain_4, rg_xmain_5, rg_xmain_6, rg_xmain_7, ty_xaqueduct, ty_xdiary, ty_xforesight, ty_ximages, ty_xmain, ty_xnow, ty_xopinionReader, ty_xtape, ty_xtasters, ty_xthought, Option.toList_some, Option.toList_none, List.cons_append, List.nil_append, List.length_cons, List.length_nil, List.mem_cons, List.not_mem_nil, or_false, false_or, or_true, true_or, ↓reduceIte, true_and, and_true, Nat.reduceEqDiff, Nat.reduceAdd, Nat.reduceLeDiff, Nat.reduceLT, dl_i, dl_r, dl_n, dl_u, eq_self, not_true_eq_false, not_false_eq_true, n10, n01, nm0, n0m, imp_t, imp_f]
    exact hk _ K E (key K hX _ (by rw [if_pos zz]))

theorem pmA_ms {S : Tn} {J K : Iv} {v : Nat} (s9 : S.1.1 ≤ 9) (h : Ms J K) : Pe S.1.1 (pmA K v) (pmA J v) := ⟨fun u hu => ⟨rfl, rfl, fun k hk => by
  show sn0 K u k = sn0 J u k
  unfold sn0
  rw [h (500016 + u) (by omega) (by omega)]⟩, rfl⟩

theorem g_tasted {q z : Nat} {J : Iv} {E : Ev} {v x : Int32} (h : GS q z J E) : StX mH_tasted mM_tasted [.int v, .int x] 1 2 q z J E := by
  have hG0 := h
  obtain ⟨S, PS, t, op, bk, kb, n, n0, p, c, mk, tp, im, nim, rw', r1, r2, r3, r4, r5, r6, r7, r8, r9⟩ := h
  have hS := r1.1.1.2.2.2.1
  have s9 := hS.1
  have hVS := r1.1.2.2.1
  have hq32 := r4.1.1
  obtain ⟨g3, hT, hXt, -⟩ := id r1.1.1
  have tT : tyc shN E t = 10 := (hT.A (b := true) (E := E)).1
  have v7 := hXt.1
  have h40 := hVS.1
  by_cases hv : ∃ w, w < S.1.1 ∧ v = nI w
  rotate_left
  · refine ⟨(1, 6), q, z, Cst.x, hq32, fun Γ l d kr kx hG _ hxN hxI => ?_⟩
    refine ex_of (ls0 := [some (.ref 0), some (.int v), some (.int x)]) tH_tasted (by decide +kernel) kH_tasted rfl (Nat.le_of_ble_eq_true rfl) rfl ?_
    intro go hgo
    refine hgo 20 [] 0 _ _ _ _ _ ?_
    simp only [ixr_of, run_s, run_0, rH_tasted, rok_i, rok_z, bx_cons, bx_nil, eBP, eC1, eCV1, eCV2, eCV3, eGR, eLA0, eLI1, eLI2, eRI, fH_tasted_0, bH_tasted_0, ln_ximages, ln_xthought, rg_xmain_0, rg_xmain_1, rg_xmain_10, rg_xmain_2, rg_xmain_3, rg_xmain_4, rg_xmain_5, rg_xmain_6, rg_xmain_7, ty_xaqueduct, ty_xdiary, ty_xforesight, ty_ximages, ty_xmain, ty_xnow, ty_xopinionReader, ty_xtape, ty_xtasters, ty_xthought, Option.toList_some, Option.toList_none, List.cons_append, List.nil_append, List.length_cons, List.length_nil, List.mem_cons, List.not_mem_nil, or_false, false_or, or_true, true_or, ↓reduceIte, true_and, and_true, Nat.reduceEqDiff, Nat.reduceAdd, Nat.reduceLeDiff, Nat.reduceLT, dl_i, dl_r, dl_n, dl_u, eq_self, not_true_eq_false, not_false_eq_true, n10, n01, nm0, n0m, imp_t, imp_f]
    refine ⟨1, 6, fun _ => Nat.le_refl _, fun _ => Nat.le_refl _, x_needVillageX hG.1.1 hG.2.1 hG.2.2 g3 tT v7 (vin_n s9 hv) (hxN _ _ (fun Γ l d kr kx hk => ?_))⟩
    exact c_tasted (hVS.t say0) (fun _ => hk _ (hG0.rf (rn := 0) (w := 1) (by decide)).1.un (hG0.rf (rn := 0) (w := 1) (by decide)).2) (fun c _ => absurd c (vim_n (by rw [up_n (by omega)]; exact h40) s9 hv)) (fun w _ a e _ _ _ => absurd ⟨w, a, e⟩ hv)
  obtain ⟨w, hw, rfl⟩ := hv
  by_cases hin : nI 1 ≤ x ∧ x ≤ nI 60
  rotate_left
  · refine ⟨(1, 6), q, z, Cst.x, hq32, fun Γ l d kr kx hG _ hxN hxI => ?_⟩
    refine ex_of (ls0 := [some (.ref 0), some (.int (nI w)), some (.int x)]) tH_tasted (by decide +kernel) kH_tasted rfl (Nat.le_of_ble_eq_true rfl) rfl ?_
    intro go hgo
    refine hgo 20 [] 0 _ _ _ _ _ ?_
    simp only [ixr_of, run_s, run_0, rH_tasted, rok_i, rok_z, bx_cons, bx_nil, eBP, eC1, eCV1, eCV2, eCV3, eGR, eLA0, eLI1, eLI2, eRI, fH_tasted_0, bH_tasted_0, ln_ximages, ln_xthought, rg_xmain_0, rg_xmain_1, rg_xmain_10, rg_xmain_2, rg_xmain_3, rg_xmain_4, rg_xmain_5, rg_xmain_6, rg_xmain_7, ty_xaqueduct, ty_xdiary, ty_xforesight, ty_ximages, ty_xmain, ty_xnow, ty_xopinionReader, ty_xtape, ty_xtasters, ty_xthought, Option.toList_some, Option.toList_none, List.cons_append, List.nil_append, List.length_cons, List.length_nil, List.mem_cons, List.not_mem_nil, or_false, false_or, or_true, true_or, ↓reduceIte, true_and, and_true, Nat.reduceEqDiff, Nat.reduceAdd, Nat.reduceLeDiff, Nat.reduceLT, dl_i, dl_r, dl_n, dl_u, eq_self, not_true_eq_false, not_false_eq_true, n10, n01, nm0, n0m, imp_t, imp_f]
    refine call0 (x_needVillage g3 tT v7 (vin rfl ⟨hw, s9⟩) ?_)
    simp only [ixr_of, run_s, run_0, rH_tasted, rok_i, rok_z, bx_cons, bx_nil, eBP, eC1, eCV1, eCV2, eCV3, eGR, eLA0, eLI1, eLI2, eRI, fH_tasted_0, bH_tasted_0, ln_ximages, ln_xthought, rg_xmain_0, rg_xmain_1, rg_xmain_10, rg_xmain_2, rg_xmain_3, rg_xmain_4, rg_xmain_5, rg_xmain_6, rg_xmain_7, ty_xaqueduct, ty_xdiary, ty_xforesight, ty_ximages, ty_xmain, ty_xnow, ty_xopinionReader, ty_xtape, ty_xtasters, ty_xthought, Option.toList_some, Option.toList_none, List.cons_append, List.nil_append, List.length_cons, List.length_nil, List.mem_cons, List.not_mem_nil, or_false, false_or, or_true, true_or, ↓reduceIte, true_and, and_true, Nat.reduceEqDiff, Nat.reduceAdd, Nat.reduceLeDiff, Nat.reduceLT, dl_i, dl_r, dl_n, dl_u, eq_self, not_true_eq_false, not_false_eq_true, n10, n01, nm0, n0m, imp_t, imp_f]
    refine ⟨1, 6, fun _ => Nat.le_refl _, fun _ => Nat.le_refl _, x_needInX hG.1.1 hG.2.1 hG.2.2 hin (hxI _ _ (fun Γ l d kr kx hk => ?_))⟩
    exact c_tasted (hVS.t say0) (fun c => absurd (vim (by rw [up_n (by omega)]; exact h40) s9 hw rfl) c) (fun _ _ => hk _ (hG0.rf (rn := 1) (w := 2) (by decide)).1.un (hG0.rf (rn := 1) (w := 2) (by decide)).2) (fun w k a1 a2 a3 a4 a5 => absurd (by rw [a5]; exact rgI (by omega) (by omega) (by decide)) hin)
  obtain ⟨k0, hk1, hk3, rfl⟩ := rng1 (by decide) hin
  refine ⟨(0, 0), q, z, Cst.no, hq32, fun Γ l d kr kx hG hk _ _ => ?_⟩
  refine ex_of (ls0 := [some (.ref 0), some (.int (nI w)), some (.int (nI k0))]) tH_tasted (by decide +kernel) kH_tasted rfl (Nat.le_of_ble_eq_true rfl) rfl ?_
  intro go hgo
  refine hgo 20 [] 0 _ _ _ _ _ ?_
  simp only [ixr_of, run_s, run_0, rH_tasted, rok_i, rok_z, bx_cons, bx_nil, eBP, eC1, eCV1, eCV2, eCV3, eGR, eLA0, eLI1, eLI2, eRI, fH_tasted_0, bH_tasted_0, ln_ximages, ln_xthought, rg_xmain_0, rg_xmain_1, rg_xmain_10, rg_xmain_2, rg_xmain_3, rg_xmain_4, rg_xmain_5, rg_xmain_6, rg_xmain_7, ty_xaqueduct, ty_xdiary, ty_xforesight, ty_ximages, ty_xmain, ty_xnow, ty_xopinionReader, ty_xtape, ty_xtasters, ty_xthought, Option.toList_some, Option.toList_none, List.cons_append, List.nil_append, List.length_cons, List.length_nil, List.mem_cons, List.not_mem_nil, or_false, false_or, or_true, true_or, ↓reduceIte, true_and, and_true, Nat.reduceEqDiff, Nat.reduceAdd, Nat.reduceLeDiff, Nat.reduceLT, dl_i, dl_r, dl_n, dl_u, eq_self, not_true_eq_false, not_false_eq_true, n10, n01, nm0, n0m, imp_t, imp_f]
  refine call0 (x_needVillage g3 tT v7 (vin rfl ⟨hw, s9⟩) ?_)
  simp only [ixr_of, run_s, run_0, rH_tasted, rok_i, rok_z, bx_cons, bx_nil, eBP, eC1, eCV1, eCV2, eCV3, eGR, eLA0, eLI1, eLI2, eRI, fH_tasted_0, bH_tasted_0, ln_ximages, ln_xthought, rg_xmain_0, rg_xmain_1, rg_xmain_10, rg_xmain_2, rg_xmain_3, rg_xmain_4, rg_xmain_5, rg_xmain_6, rg_xmain_7, ty_xaqueduct, ty_xdiary, ty_xforesight, ty_ximages, ty_xmain, ty_xnow, ty_xopinionReader, ty_xtape, ty_xtasters, ty_xthought, Option.toList_some, Option.toList_none, List.cons_append, List.nil_append, List.length_cons, List.length_nil, List.mem_cons, List.not_mem_nil, or_false, false_or, or_true, true_or, ↓reduceIte, true_and, and_true, Nat.reduceEqDiff, Nat.reduceAdd, Nat.reduceLeDiff, Nat.reduceLT, dl_i, dl_r, dl_n, dl_u, eq_self, not_true_eq_false, not_false_eq_true, n10, n01, nm0, n0m, imp_t, imp_f]
  refine call0 (x_needIn hin ?_)
  simp only [ixr_of, run_s, run_0, rH_tasted, rok_i, rok_z, bx_cons, bx_nil, eBP, eC1, eCV1, eCV2, eCV3, eGR, eLA0, eLI1, eLI2, eRI, fH_tasted_0, bH_tasted_0, ln_ximages, ln_xthought, rg_xmain_0, rg_xmain_1, rg_xmain_10, rg_xmain_2, rg_xmain_3, rg_xmain_4, rg_xmain_5, rg_xmain_6, rg_xmain_7, ty_xaqueduct, ty_xdiary, ty_xforesight, ty_ximages, ty_xmain, ty_xnow, ty_xopinionReader, ty_xtape, ty_xtasters, ty_xthought, Option.toList_some, Option.toList_none, List.cons_append, List.nil_append, List.length_cons, List.length_nil, List.mem_cons, List.not_mem_nil, or_false, false_or, or_true, true_or, ↓reduceIte, true_and, and_true, Nat.reduceEqDiff, Nat.reduceAdd, Nat.reduceLeDiff, Nat.reduceLT, dl_i, dl_r, dl_n, dl_u, eq_self, not_true_eq_false, not_false_eq_true, n10, n01, nm0, n0m, imp_t, imp_f]
  refine call0 (x_basinsOf hG.1 r1.1 SayT.rf r1.2.2.2.2.2 hw hk3 (fun K hX => ?_))
  simp only [ixr_of, run_s, run_0, rH_tasted, rok_i, rok_z, bx_cons, bx_nil, eBP, eC1, eCV1, eCV2, eCV3, eGR, eLA0, eLI1, eLI2, eRI, fH_tasted_0, bH_tasted_0, ln_ximages, ln_xthought, rg_xmain_0, rg_xmain_1, rg_xmain_10, rg_xmain_2, rg_xmain_3, rg_xmain_4, rg_xmain_5, rg_xmain_6, rg_xmain_7, ty_xaqueduct, ty_xdiary, ty_xforesight, ty_ximages, ty_xmain, ty_xnow, ty_xopinionReader, ty_xtape, ty_xtasters, ty_xthought, Option.toList_some, Option.toList_none, List.cons_append, List.nil_append, List.length_cons, List.length_nil, List.mem_cons, List.not_mem_nil, or_false, false_or, or_true, true_or, ↓reduceIte, true_and, and_true, Nat.reduceEqDiff, Nat.reduceAdd, Nat.reduceLeDiff, Nat.reduceLT, dl_i, dl_r, dl_n, dl_u, eq_self, not_true_eq_false, not_false_eq_true, n10, n01, nm0, n0m, imp_t, imp_f]
  have hm := Ms.xf (Or.inr rfl) hX
  have k40 : K 500004 0 = nI S.1.1 := by rw [hm 500004 (by omega) (by omega)]; exact h40
  refine hk _ K E (fun Γ l d kr kx hk2 => c_tasted (hVS.t hm.t) (fun c => absurd (vim k40 s9 hw rfl) c) (fun _ c => absurd hin c) (fun w' k' a1 a2 a3 a4 a5 L hL hz => ?_))
  rw [nI_eq (by omega) (by omega)] at a2 a5
  subst a2; subst a5
  rw [hm 500127 (by omega) (by omega), hm.g hS (pmA_ms s9 hm), tsF_N S.1.1 s9]
  exact hk2 L (hG0.fm (Or.inr rfl) hX hL) hz
