/-! public methods, 14: the book told -/
theorem pS_58 {b : Bool} : (shB b).2.2 58 3 = none := ps_n (pS_x (by decide) (by decide +kernel) (by decide +kernel))
theorem pS_0_11 {b : Bool} : (shB b).2.2 0 11 = none := ps_n (pS_x (by decide) (by decide +kernel) (by decide +kernel))
theorem x_forget {Γ : Gm} {l : Launch} {b : Bool} {d : Nat} {I : Iv} {E : Ev} {kr : Kr} {kx : Kxx} (hk : kr none (up I 58 4 (nI 0)) E) : Ex Γ l (shB b) (d + 1) (0, 0) mTs_forget [.ref 58] I E kr kx := by
  refine ex_of (ls0 := [some (.ref 58)]) tTs_forget (by decide +kernel) kTs_forget rfl (Nat.le_of_ble_eq_true rfl) rfl ?_
  intro go hgo
  refine hgo 20 [] 0 _ _ _ _ _ ?_
  simp only [ixr_of, run_s, run_0, rTs_forget, rok_i, rok_z, bx_cons, bx_nil, eC0, eLA0, ePZ, eRV, fTs_forget_0, bTs_forget_0, ln_xpatterns, rg_xtasters_0, rg_xtasters_1, rg_xtasters_2, ty_xaqueduct, ty_xpatterns, ty_xtasters, ty_xttrial, Option.toList_some, Option.toList_none, List.cons_append, List.nil_append, List.length_cons, List.length_nil, List.mem_cons, List.not_mem_nil, or_false, false_or, or_true, true_or, ↓reduceIte, true_and, and_true, Nat.reduceEqDiff, Nat.reduceAdd, Nat.reduceLeDiff, Nat.reduceLT, dl_i, dl_r, dl_n, dl_u, eq_self, not_true_eq_false, not_false_eq_true, n10, n01, nm0, n0m, imp_t, imp_f]
  exact hk
theorem xt_tx {J K : Iv} {n tp : Nat} (h : ∀ k, k < tp → J 2 k &&& nI 255 = J 500001 k) (hn : n ≤ tp) (hK : K 500001 = J 500001) : tx K n = xt J n := by
  funext k
  unfold tx xt
  by_cases e : k < n
  · rw [if_pos e, if_pos e, hK, h k (by omega)]
  · rw [if_neg e, if_neg e]
/-- the tape when all of it was read -/
theorem R6.rd {J L : Iv} {tp : Nat} (h : R6 J tp) (h1 : L 1 1 = nI 0) (h2 : L 500000 1 = nI 0) (h3 : L 2 = J 2) (h4 : L 1 6 = L 500000 3) : R6 L 0 := ⟨h1, h2, by omega, fun k hk => by rw [h3]; exact h.2.2.2.1 k hk, fun k hk => absurd hk (by omega), h4⟩

theorem g_book {q z : Nat} {J : Iv} {E : Ev} {y : Int32} (h : GS q z J E) : StX1 mH_book mM_book [.int y] 1 q z J E := by
  have hG0 := h
  obtain ⟨S, PS, t, op, bk, kb, n, n0, p, c, mk, tp, im, nim, rw', r1, r2, r3, r4, r5, r6, r7, r8, r9⟩ := h
  have hS := r1.1.1.2.2.2.1
  have s9 := hS.1
  have hVS := r1.1.2.2.1
  have hq32 := r4.1.1
  obtain ⟨g3, hT, hXt, -⟩ := id r1.1.1
  have tT : tyc shN E t = 10 := (hT.A (b := true) (E := E)).1
  have v7 := hXt.1
  have h40 := hVS.1
  obtain ⟨t1, t2, t3, t4, t5, t6⟩ := id r6
  have emin : miI (nI 150) (nI tp) = nI (min 150 tp) := miI_n (by omega) (by omega)
  by_cases hin : nI 0 ≤ y ∧ y ≤ nI (min 150 tp)
  rotate_left
  · refine ⟨(1, 6), q, z, Cst.x, hq32, fun Γ l d kr kx hG _ hxI => ?_⟩
    refine ex_of (ls0 := [some (.ref 0), some (.int y), none, none]) tH_book (by decide +kernel) kH_book rfl (Nat.le_of_ble_eq_true rfl) rfl ?_
    intro go hgo
    refine hgo 20 [] 0 _ _ _ _ _ ?_
    simp only [ixr_of, run_s, run_0, rH_book, rok_i, rok_z, bx_cons, bx_nil, eBP, eC0, eCV0, eCV1, eCV3, eGI, eGR, jIFne, eLA0, eLA3, eLI1, eLI2, eMIN, ePR, eRI, eSA3, eSI2, eSP, eSUB, fH_book_0, fH_book_50, fH_book_61, bH_book_0, bH_book_50, bH_book_61, ln_ximages, ln_xthought, rg_xmain_0, rg_xmain_1, rg_xmain_10, rg_xmain_2, rg_xmain_3, rg_xmain_4, rg_xmain_5, rg_xmain_6, rg_xmain_7, ty_xaqueduct, ty_xdiary, ty_xforesight, ty_ximages, ty_xmain, ty_xnow, ty_xopinionReader, ty_xtape, ty_xtasters, ty_xthought, Option.toList_some, Option.toList_none, List.cons_append, List.nil_append, List.length_cons, List.length_nil, List.mem_cons, List.not_mem_nil, or_false, false_or, or_true, true_or, ↓reduceIte, true_and, and_true, Nat.reduceEqDiff, Nat.reduceAdd, Nat.reduceLeDiff, Nat.reduceLT, dl_i, dl_r, dl_n, dl_u, eq_self, not_true_eq_false, not_false_eq_true, n10, n01, nm0, n0m, t1, emin, imp_t, imp_f]
    refine ⟨1, 6, fun _ => Nat.le_refl _, fun _ => Nat.le_refl _, x_needInX hG.1.1 hG.2.1 hG.2.2 hin (hxI _ _ (fun Γ l d kr kx hk => ?_))⟩
    exact c_book (by rw [up_n (by omega)]; exact t2) t3 (fun _ => hk _ (hG0.rf (rn := 1) (w := 1) (by decide)).1.un (hG0.rf (rn := 1) (w := 1) (by decide)).2) (fun k e L a b f => absurd (by rw [f]; exact rgI (by omega) (by omega) (by omega)) hin) (fun k e L a b f => absurd (by rw [f]; exact rgI (by omega) (by omega) (by omega)) hin)
  obtain ⟨m, hm, rfl⟩ := rng (by omega) hin
  obtain ⟨⟨b3, hkb, xb, bv⟩, b11, b36, bm⟩ := id r2
  have hsb : idB (166 - kb) := by unfold idB at hkb ⊢; omega
  have hBA := hsb.A (b := true) (E := E)
  have hid := r1.1.1.2.2.2.2.2.1
  have tB := hBA.1
  refine ⟨(0, 0), q, z, Cst.no, hq32, fun Γ l d kr kx hG hk _ => ?_⟩
  refine ex_of (ls0 := [some (.ref 0), some (.int (nI m)), none, none]) tH_book (by decide +kernel) kH_book rfl (Nat.le_of_ble_eq_true rfl) rfl ?_
  intro go hgo
  refine hgo 20 [] 0 _ _ _ _ _ ?_
  simp only [ixr_of, run_s, run_0, rH_book, rok_i, rok_z, bx_cons, bx_nil, eBP, eC0, eCV0, eCV1, eCV3, eGI, eGR, jIFne, eLA0, eLA3, eLI1, eLI2, eMIN, ePR, eRI, eSA3, eSI2, eSP, eSUB, fH_book_0, fH_book_50, fH_book_61, bH_book_0, bH_book_50, bH_book_61, ln_ximages, ln_xthought, rg_xmain_0, rg_xmain_1, rg_xmain_10, rg_xmain_2, rg_xmain_3, rg_xmain_4, rg_xmain_5, rg_xmain_6, rg_xmain_7, ty_xaqueduct, ty_xdiary, ty_xforesight, ty_ximages, ty_xmain, ty_xnow, ty_xopinionReader, ty_xtape, ty_xtasters, ty_xthought, Option.toList_some, Option.toList_none, List.cons_append, List.nil_append, List.length_cons, List.length_nil, List.mem_cons, List.not_mem_nil, or_false, false_or, or_true, true_or, ↓reduceIte, true_and, and_true, Nat.reduceEqDiff, Nat.reduceAdd, Nat.reduceLeDiff, Nat.reduceLT, dl_i, dl_r, dl_n, dl_u, eq_self, not_true_eq_false, not_false_eq_true, n10, n01, nm0, n0m, t1, emin, imp_t, imp_f]
  refine call0 (x_needIn hin ?_)
  simp only [ixr_of, run_s, run_0, rH_book, rok_i, rok_z, bx_cons, bx_nil, eBP, eC0, eCV0, eCV1, eCV3, eGI, eGR, jIFne, eLA0, eLA3, eLI1, eLI2, eMIN, ePR, eRI, eSA3, eSI2, eSP, eSUB, fH_book_0, fH_book_50, fH_book_61, bH_book_0, bH_book_50, bH_book_61, ln_ximages, ln_xthought, rg_xmain_0, rg_xmain_1, rg_xmain_10, rg_xmain_2, rg_xmain_3, rg_xmain_4, rg_xmain_5, rg_xmain_6, rg_xmain_7, ty_xaqueduct, ty_xdiary, ty_xforesight, ty_ximages, ty_xmain, ty_xnow, ty_xopinionReader, ty_xtape, ty_xtasters, ty_xthought, Option.toList_some, Option.toList_none, List.cons_append, List.nil_append, List.length_cons, List.length_nil, List.mem_cons, List.not_mem_nil, or_false, false_or, or_true, true_or, ↓reduceIte, true_and, and_true, Nat.reduceEqDiff, Nat.reduceAdd, Nat.reduceLeDiff, Nat.reduceLT, dl_i, dl_r, dl_n, dl_u, eq_self, not_true_eq_false, not_false_eq_true, n10, n01, nm0, n0m, imp_t, imp_f]
  refine call0 (x_open t1 t3 (by omega) ?_)
  simp only [ixr_of, run_s, run_0, rH_book, rok_i, rok_z, bx_cons, bx_nil, eBP, eC0, eCV0, eCV1, eCV3, eGI, eGR, jIFne, eLA0, eLA3, eLI1, eLI2, eMIN, ePR, eRI, eSA3, eSI2, eSP, eSUB, fH_book_0, fH_book_50, fH_book_61, bH_book_0, bH_book_50, bH_book_61, ln_ximages, ln_xthought, rg_xmain_0, rg_xmain_1, rg_xmain_10, rg_xmain_2, rg_xmain_3, rg_xmain_4, rg_xmain_5, rg_xmain_6, rg_xmain_7, ty_xaqueduct, ty_xdiary, ty_xforesight, ty_ximages, ty_xmain, ty_xnow, ty_xopinionReader, ty_xtape, ty_xtasters, ty_xthought, Option.toList_some, Option.toList_none, List.cons_append, List.nil_append, List.length_cons, List.length_nil, List.mem_cons, List.not_mem_nil, or_false, false_or, or_true, true_or, ↓reduceIte, true_and, and_true, Nat.reduceEqDiff, Nat.reduceAdd, Nat.reduceLeDiff, Nat.reduceLT, dl_i, dl_r, dl_n, dl_u, eq_self, not_true_eq_false, not_false_eq_true, n10, n01, nm0, n0m, b11, tB, imp_t, imp_f]
  have hTS : TS (xt J m) m (op0 J m) 0 := ⟨op0_t t4 (by omega), op0_0.2.2.2.2.2⟩
  have g16 : (166 - kb) = 68 ∨ (166 - kb) = 98 := hsb
  refine call0 (x_readBook hBA (by omega) hTS (fun ps K hok hF h6 hX hV => ?_) (fun e K her hF hE => ?_))
  · simp only [ixr_of, run_s, run_0, rH_book, rok_i, rok_z, bx_cons, bx_nil, eBP, eC0, eCV0, eCV1, eCV3, eGI, eGR, jIFne, eLA0, eLA3, eLI1, eLI2, eMIN, ePR, eRI, eSA3, eSI2, eSP, eSUB, fH_book_0, fH_book_50, fH_book_61, bH_book_0, bH_book_50, bH_book_61, ln_ximages, ln_xthought, rg_xmain_0, rg_xmain_1, rg_xmain_10, rg_xmain_2, rg_xmain_3, rg_xmain_4, rg_xmain_5, rg_xmain_6, rg_xmain_7, ty_xaqueduct, ty_xdiary, ty_xforesight, ty_ximages, ty_xmain, ty_xnow, ty_xopinionReader, ty_xtape, ty_xtasters, ty_xthought, Option.toList_some, Option.toList_none, List.cons_append, List.nil_append, List.length_cons, List.length_nil, List.mem_cons, List.not_mem_nil, or_false, false_or, or_true, true_or, ↓reduceIte, true_and, and_true, Nat.reduceEqDiff, Nat.reduceAdd, Nat.reduceLeDiff, Nat.reduceLT, dl_i, dl_r, dl_n, dl_u, eq_self, not_true_eq_false, not_false_eq_true, n10, n01, nm0, n0m, imp_t, imp_f]
    refine call0 (x_close ?_)
    simp only [ixr_of, run_s, run_0, rH_book, rok_i, rok_z, bx_cons, bx_nil, eBP, eC0, eCV0, eCV1, eCV3, eGI, eGR, jIFne, eLA0, eLA3, eLI1, eLI2, eMIN, ePR, eRI, eSA3, eSI2, eSP, eSUB, fH_book_0, fH_book_50, fH_book_61, bH_book_0, bH_book_50, bH_book_61, ln_ximages, ln_xthought, rg_xmain_0, rg_xmain_1, rg_xmain_10, rg_xmain_2, rg_xmain_3, rg_xmain_4, rg_xmain_5, rg_xmain_6, rg_xmain_7, ty_xaqueduct, ty_xdiary, ty_xforesight, ty_ximages, ty_xmain, ty_xnow, ty_xopinionReader, ty_xtape, ty_xtasters, ty_xthought, Option.toList_some, Option.toList_none, List.cons_append, List.nil_append, List.length_cons, List.length_nil, List.mem_cons, List.not_mem_nil, or_false, false_or, or_true, true_or, ↓reduceIte, true_and, and_true, Nat.reduceEqDiff, Nat.reduceAdd, Nat.reduceLeDiff, Nat.reduceLT, dl_i, dl_r, dl_n, dl_u, eq_self, not_true_eq_false, not_false_eq_true, n10, n01, nm0, n0m, b3, b11, tB, imp_t, imp_f]
    refine ⟨pS_58, ?_⟩
    refine ⟨pS_0_11, ?_⟩
    obtain ⟨F, hFe⟩ : ∃ F : Ev, F = (upR (upR E.1 58 3 (166 - kb + 1)) 0 11 (kb + 1), E.2) := ⟨_, rfl⟩
    have f0 : EX true (fun a j => (a = 58 ∧ j = 3) ∨ (a = 0 ∧ j = 11)) (upR E.1 58 3 (166 - kb + 1), E.2) F := by rw [hFe]; exact EX.up (E := (upR E.1 58 3 (166 - kb + 1), E.2)) (Or.inr ⟨rfl, rfl⟩)
    have fE : EX true (fun a j => (a = 58 ∧ j = 3) ∨ (a = 0 ∧ j = 11)) E F := (EX.up (Or.inl ⟨rfl, rfl⟩)).tr f0
    have f58 : rget shN F 58 3 = .ref (166 - kb) := by
      have g : EX true (fun a j => a = 0 ∧ j = 11) (upR E.1 58 3 (166 - kb + 1), E.2) F := by rw [hFe]; exact EX.up (E := (upR E.1 58 3 (166 - kb + 1), E.2)) ⟨rfl, rfl⟩
      rw [g.1 58 3 (by rw [ty_xtasters]; decide) (by omega)]
      exact upR_r pS_58
    have f11 : rget shN F 0 11 = .ref kb := by rw [hFe]; exact upR_r (E := (upR E.1 58 3 (166 - kb + 1), E.2)) pS_0_11
    have f9 : tyc shN F 999999 = 0 := by rw [hFe]; exact r9.2.1
    rw [← hFe]
    refine call0 (x_forget ?_)
    have tB' : tyc shN F (166 - kb) = 2 := (hsb.A (b := true) (E := F)).1
    obtain ⟨K2, hK2⟩ : ∃ K2, K2 = up (up K 1 1 (nI 0)) 58 4 (nI 0) := ⟨_, rfl⟩
    rw [← hK2]
    have k2 : ∀ i, i ≠ 1 → i ≠ 58 → K2 i = K i := fun i a c => by
      rw [hK2]
      funext j
      rw [up_n (by omega), up_n (by omega)]
    have eln : K2 (166 - kb) 2 = nI ps.length := by rw [k2 _ (by omega) (by omega)]; exact hX.1
    simp only [ixr_of, run_s, run_0, rH_book, rok_i, rok_z, bx_cons, bx_nil, eBP, eC0, eCV0, eCV1, eCV3, eGI, eGR, jIFne, eLA0, eLA3, eLI1, eLI2, eMIN, ePR, eRI, eSA3, eSI2, eSP, eSUB, fH_book_0, fH_book_50, fH_book_61, bH_book_0, bH_book_50, bH_book_61, ln_ximages, ln_xthought, rg_xmain_0, rg_xmain_1, rg_xmain_10, rg_xmain_2, rg_xmain_3, rg_xmain_4, rg_xmain_5, rg_xmain_6, rg_xmain_7, ty_xaqueduct, ty_xdiary, ty_xforesight, ty_ximages, ty_xmain, ty_xnow, ty_xopinionReader, ty_xtape, ty_xtasters, ty_xthought, Option.toList_some, Option.toList_none, List.cons_append, List.nil_append, List.length_cons, List.length_nil, List.mem_cons, List.not_mem_nil, or_false, false_or, or_true, true_or, ↓reduceIte, true_and, and_true, Nat.reduceEqDiff, Nat.reduceAdd, Nat.reduceLeDiff, Nat.reduceLT, dl_i, dl_r, dl_n, dl_u, eq_self, not_true_eq_false, not_false_eq_true, n10, n01, nm0, n0m, f58, tB', eln, imp_t, imp_f]
    have kk : ∀ i, i ≠ 1 → i ≠ 58 → ¬ (166 - kb ≤ i ∧ i ≤ 166 - kb + 2) → K2 i = J i := fun i a c e => by rw [k2 i a c, hF.1 i a e, op0_o a]
    have km : ∀ i, 500000 ≤ i → K2 i = J i := fun i a => kk i (by omega) (by omega) (by omega)
    have etx : tx K2 m = xt J m := xt_tx t5 (by omega) (km 500001 (by omega))
    refine hk _ K2 F (fun Γ l d kr kx hk2 => c_book (by rw [km 500000 (by omega)]; exact t2) t3 (fun c => absurd ⟨⟨hin.1, nI_le (by omega) (by omega)⟩, nI_le (by omega) (by omega)⟩ c) (fun m' e L a1 a2 a3 hok' _ => ?_) (fun m' ps' L a1 a2 a3 hok' hL => ?_))
    · rw [nI_eq (by omega) (by omega)] at a3
      subst a3
      rw [etx, hok] at hok'
      cases hok'
    rw [nI_eq (by omega) (by omega)] at a3
    subst a3
    rw [etx, hok] at hok'
    have : ps = ps' := Except.ok.inj hok'
    subst this
    obtain ⟨q1, q2, q36, q4, q0, q5, q6⟩ := hL
    have lm : ∀ i, 500000 < i → ¬ (500107 ≤ i ∧ i < 500119) → ¬ (500094 ≤ i ∧ i < 500106) → L i = J i := fun i a c e => by rw [q1 i (by omega) c e, km i (by omega)]
    have lc : ∀ i, i < 500000 ∨ 1000000 ≤ i → L i = K2 i := fun i a => q1 i (by omega) (by omega) (by omega)
    have ll : ∀ i, i < 500000 ∨ 1000000 ≤ i → i ≠ 1 → i ≠ 58 → ¬ (166 - kb ≤ i ∧ i ≤ 166 - kb + 2) → L i = J i := fun i a c e f => by rw [lc i a, kk i c e f]
    have lf : ∀ j, 8 < j → j ≠ 36 → L 500000 j = J 500000 j := fun j a c => by rw [q2 j a c, km 500000 (by omega)]
    have ht : SayT J L := fun i hi => by unfold tw at hi; exact lm i (by omega) (by omega) (by omega)
    have l23 : L 500123 = J 500123 := lm _ (by omega) (by omega) (by omega)
    have l24 : L 500124 = J 500124 := lm _ (by omega) (by omega) (by omega)
    have l25 : L 500125 = J 500125 := lm _ (by omega) (by omega) (by omega)
    have l27 : L 500127 = J 500127 := lm _ (by omega) (by omega) (by omega)
    refine hk2 L ⟨S, PS, t, op, ps, 166 - kb, n, n0, p, c, mk, 0, im, nim, rw', (r1.fi (fun i a c => ll i (by unfold idT at hT; omega) (by unfold idT at hT; omega) (by unfold idT at hT; omega) (by unfold idT at hT; omega)) (fun v hv => ?_) ht (lm _ (by omega) (by omega) (by omega)) l27).ex fE (by decide) (fun _ _ => by omega) (by decide) (by decide), ⟨⟨f58, hsb, ⟨?_, ?_, fun i x hx => ?_⟩, hV⟩, ?_, q36, q4⟩, r3.cg s9 (fun i a c => ll i (by omega) (by omega) (by omega) (by omega)) l24 l23 (lf 37 (by omega) (by omega)) (lf 38 (by omega) (by omega)), (r4.cg hS ht (by rw [ll 79 (by omega) (by omega) (by omega) (by omega)]) l24 l25 l23 (lf 37 (by omega) (by omega)) (lf 38 (by omega) (by omega)) (lf 39 (by omega) (by omega)) (fun i a => ll i (by omega) (by omega) (by omega) (by omega))).ex fE (fun _ => by omega) (fun y j hy => by omega), r5.cg s9 (Nat.le_refl _) (by rw [ll 0 (by omega) (by omega) (by omega) (by omega)]; exact r5.1) (by rw [lf 40 (by omega) (by omega)]; exact r5.2.2.1) (fun i a c => ll i (by omega) (by omega) (by omega) (by omega)) (fun m hm => lm _ (by omega) (by omega) (by omega)), r6.rd ?_ q5 (ll 2 (by omega) (by omega) (by omega) (by omega)) ?_, r7.mv (ll 0 (by omega) (by omega) (by omega) (by omega)) (lm _ (by omega) (by omega) (by omega)), Or.inl ?_, r9.ex fE (by decide) f9⟩ q0
    · have ho := hid v (by omega)
      unfold idO at ho
      exact ⟨ll _ (by omega) (by omega) (by omega) (by omega), ll _ (by omega) (by omega) (by omega) (by omega)⟩
    · rw [lc _ (by omega), k2 _ (by omega) (by omega)]; exact hX.1
    · rw [lc _ (by omega), k2 _ (by omega) (by omega)]; exact hX.2.1
    · rw [lc (166 - kb + 1) (by omega), lc (166 - kb + 2) (by omega), k2 (166 - kb + 1) (by omega) (by omega), k2 (166 - kb + 2) (by omega) (by omega)]
      exact hX.2.2 i x hx
    · rw [f11, show 166 - (166 - kb) = kb by unfold idB at hkb; omega]
    · rw [lc 1 (by omega), hK2, up_n (by omega), up_s]
    · rw [lc 1 (by omega), hK2, up_n (by omega), up_n (by omega), h6, q6]
    · rw [lc 58 (by omega), hK2, up_s]
  · simp only [ixr_of, run_s, run_0, rH_book, rok_i, rok_z, bx_cons, bx_nil, eBP, eC0, eCV0, eCV1, eCV3, eGI, eGR, jIFne, eLA0, eLA3, eLI1, eLI2, eMIN, ePR, eRI, eSA3, eSI2, eSP, eSUB, fH_book_0, fH_book_50, fH_book_61, bH_book_0, bH_book_50, bH_book_61, ln_ximages, ln_xthought, rg_xmain_0, rg_xmain_1, rg_xmain_10, rg_xmain_2, rg_xmain_3, rg_xmain_4, rg_xmain_5, rg_xmain_6, rg_xmain_7, ty_xaqueduct, ty_xdiary, ty_xforesight, ty_ximages, ty_xmain, ty_xnow, ty_xopinionReader, ty_xtape, ty_xtasters, ty_xthought, Option.toList_some, Option.toList_none, List.cons_append, List.nil_append, List.length_cons, List.length_nil, List.mem_cons, List.not_mem_nil, or_false, false_or, or_true, true_or, ↓reduceIte, true_and, and_true, Nat.reduceEqDiff, Nat.reduceAdd, Nat.reduceLeDiff, Nat.reduceLT, dl_i, dl_r, dl_n, dl_u, eq_self, not_true_eq_false, not_false_eq_true, n10, n01, nm0, n0m, imp_t, imp_f]
    refine call0 (x_close ?_)
    obtain ⟨K2, hK2⟩ : ∃ K2, K2 = up K 1 1 (nI 0) := ⟨_, rfl⟩
    rw [← hK2]
    have k2 : ∀ i, i ≠ 1 → K2 i = K i := fun i a => by
      rw [hK2]
      funext j
      rw [up_n (by omega)]
    have e5 : K2 1 5 = nI e.1 := by rw [hK2, up_n (by omega)]; exact hE.1
    simp only [ixr_of, run_s, run_0, rH_book, rok_i, rok_z, bx_cons, bx_nil, eBP, eC0, eCV0, eCV1, eCV3, eGI, eGR, jIFne, eLA0, eLA3, eLI1, eLI2, eMIN, ePR, eRI, eSA3, eSI2, eSP, eSUB, fH_book_0, fH_book_50, fH_book_61, bH_book_0, bH_book_50, bH_book_61, ln_ximages, ln_xthought, rg_xmain_0, rg_xmain_1, rg_xmain_10, rg_xmain_2, rg_xmain_3, rg_xmain_4, rg_xmain_5, rg_xmain_6, rg_xmain_7, ty_xaqueduct, ty_xdiary, ty_xforesight, ty_ximages, ty_xmain, ty_xnow, ty_xopinionReader, ty_xtape, ty_xtasters, ty_xthought, Option.toList_some, Option.toList_none, List.cons_append, List.nil_append, List.length_cons, List.length_nil, List.mem_cons, List.not_mem_nil, or_false, false_or, or_true, true_or, ↓reduceIte, true_and, and_true, Nat.reduceEqDiff, Nat.reduceAdd, Nat.reduceLeDiff, Nat.reduceLT, dl_i, dl_r, dl_n, dl_u, eq_self, not_true_eq_false, not_false_eq_true, n10, n01, nm0, n0m, e5, imp_t, imp_f]
    have kk : ∀ i, i ≠ 1 → ¬ (166 - kb ≤ i ∧ i ≤ 166 - kb + 2) → K2 i = J i := fun i a e => by rw [k2 i a, hF.1 i a e, op0_o a]
    have km : ∀ i, 500000 ≤ i → K2 i = J i := fun i a => kk i (by omega) (by omega)
    have etx : tx K2 m = xt J m := xt_tx t5 (by omega) (km 500001 (by omega))
    refine hk _ K2 E (fun Γ l d kr kx hk2 => c_book (by rw [km 500000 (by omega)]; exact t2) t3 (fun c => absurd ⟨⟨hin.1, nI_le (by omega) (by omega)⟩, nI_le (by omega) (by omega)⟩ c) (fun m' e' L a1 a2 a3 her' hL => ?_) (fun m' ps' L a1 a2 a3 hok' _ => ?_))
    rotate_left
    · rw [nI_eq (by omega) (by omega)] at a3
      subst a3
      rw [etx, her] at hok'
      cases hok'
    rw [nI_eq (by omega) (by omega)] at a3
    subst a3
    rw [etx, her] at her'
    have : e = e' := Except.error.inj her'
    subst this
    obtain ⟨q1, q2, q0, q5, q6⟩ := hL
    have lm : ∀ i, 500000 < i → ¬ (500107 ≤ i ∧ i < 500119) → L i = J i := fun i a c => by rw [q1 i (by omega) c, km i (by omega)]
    have lc : ∀ i, i < 500000 ∨ 1000000 ≤ i → L i = K2 i := fun i a => q1 i (by omega) (by omega)
    have ll : ∀ i, i < 500000 ∨ 1000000 ≤ i → i ≠ 1 → ¬ (166 - kb ≤ i ∧ i ≤ 166 - kb + 2) → L i = J i := fun i a c f => by rw [lc i a, kk i c f]
    have lf : ∀ j, 8 < j → L 500000 j = J 500000 j := fun j a => by rw [q2 j a, km 500000 (by omega)]
    refine hk2 L (GS.tp (tp' := 0) r1 r2 r3 r4 r5 r7 r8 r9 EX.rf r9.2.1 (fun i a c => ll i (by unfold idT at hT; omega) (by unfold idT at hT; omega) (by unfold idT at hT; omega)) (fun v hv => ?_) (fun i a c => ll i (by unfold idB at hkb; omega) (by unfold idB at hkb; omega) (by unfold idB at hkb; omega)) (fun i hi => ll i (by omega) (by omega) (by omega)) (fun i hi => lm i (by unfold mL tw at hi; omega) (by unfold mL tw at hi; omega)) (fun j a c => lf j (by omega)) (r6.rd ?_ q5 (ll 2 (by omega) (by omega) (by omega)) ?_)) q0
    · have ho := hid v (by omega)
      unfold idO at ho
      exact ⟨ll _ (by omega) (by omega) (by omega), ll _ (by omega) (by omega) (by omega)⟩
    · rw [lc 1 (by omega), hK2, up_s]
    · rw [lc 1 (by omega), hK2, up_n (by omega), hE.2, q6]
