/-! public methods, 10: images -/
section Rcg2
variable {J K : Iv} {E : Ev} {S : Tn} {n n0 p c q : Nat} {mk : Nat → Nat}
theorem R3.cg (h : R3 J S n p c) (h9 : S.1.1 ≤ 9) (h71 : ∀ i, 71 ≤ i → i < 79 → K i = J i) (h24 : K 500124 = J 500124) (h23 : K 500123 = J 500123) (h37 : K 500000 37 = J 500000 37) (h38 : K 500000 38 = J 500000 38) : R3 K S n p c := by
  obtain ⟨⟨a1, a2⟩, h2, h3, h4, h5, h6⟩ := h
  refine ⟨⟨SayT.rf, ?_⟩, h2, by rw [h37]; exact h3, h4, by rw [h38]; exact h5, h6⟩
  rw [h24, h23, h37, h38]
  exact a2.mv h9 (fun i b c => h71 i (by omega) (by omega))
theorem pe_N (h9 : S.1.1 ≤ 9) (ht : SayT J K) (h23 : K 500123 = J 500123) (h37 : K 500000 37 = J 500000 37) (h38 : K 500000 38 = J 500000 38) : Pe S.1.1 (pmN K) (pmN J) := by
  refine ⟨fun v hv => ⟨?_, ?_, fun k hk => ?_⟩, rfl⟩
  · show plS _ v = plS _ v
    rw [h37]
  · show coS _ v = coS _ v
    rw [h38]
  · show snG K v k = snG J v k
    unfold snG
    rw [ht (500016 + v) (by unfold tw; omega), h23]
theorem g_N {r : Nat → Int32} {m : Nat} (hS : TnV S) (ht : SayT J K) (h23 : K 500123 = J 500123) (h37 : K 500000 37 = J 500000 37) (h38 : K 500000 38 = J 500000 38) : gR K S.1.1 S.1.2 (pmN K) r m = gR J S.1.1 S.1.2 (pmN J) r m := by
  unfold gR
  rw [it2_t ht hS.1 hS.2.1, it2_pe (pe_N hS.1 ht h23 h37 h38)]
theorem R4.cg (h : R4 J E S n n0 q mk) (hS : TnV S) (ht : SayT J K) (h79 : K 79 1 = J 79 1) (h24 : K 500124 = J 500124) (h25 : K 500125 = J 500125) (h23 : K 500123 = J 500123) (h37 : K 500000 37 = J 500000 37) (h38 : K 500000 38 = J 500000 38) (h39 : K 500000 39 = J 500000 39) (hm : ∀ i, 1000000 ≤ i → K i = J i) : R4 K E S n n0 q mk := by
  obtain ⟨d1, d2, d3, d4, d5, d6, d7, d8⟩ := h
  refine ⟨d1, d2, by rw [h79]; exact d3, d4, d5, by rw [h39]; exact d6, by rw [h24, h25, g_N hS ht h23 h37 h38]; exact d7, fun a ha => ?_⟩
  rw [h25, h23, h37, h38, g_N hS ht h23 h37 h38]
  exact (d8 a ha).mv hS.1 (fun i b c => hm i (by have := (d1.2.1 a (by omega)).2.2; omega))
theorem im_A {m : Nat} (hm : m < 3) : rget shN E 81 m = .ref (101 + 8 * m) ∧ DyA shN E (101 + 8 * m) := by
  rcases (show m = 0 ∨ m = 1 ∨ m = 2 by omega) with rfl | rfl | rfl
  · exact ⟨rg_ximages_0, dyA_101⟩
  · exact ⟨rg_ximages_1, dyA_109⟩
  · exact ⟨rg_ximages_2, dyA_117⟩
end Rcg2

theorem g_image {q z : Nat} {J : Iv} {E : Ev} (h : GS q z J E) : StX0 mH_image mM_image [] q z J E := by
  have hG0 := h
  obtain ⟨S, PS, t, op, bk, kb, n, n0, p, c, mk, tp, im, nim, rw', r1, r2, r3, r4, r5, r6, r7, r8, r9⟩ := h
  have hS := r1.1.1.2.2.2.1
  have s9 := hS.1
  have hVS := r1.1.2.2.1
  have hq32 := r4.1.1
  obtain ⟨g3, hT, hXt, -⟩ := id r1.1.1
  have tT : tyc shN E t = 10 := (hT.A (b := true) (E := E)).1
  have v7 := hXt.1
  have h40 := hVS.1
  have hD := r3.1.2.1
  have ty71 : tyc shN E 71 = 3 := dyA_71.1
  obtain ⟨-, ⟨y0, y1, y2, y3, y4, y5, y6⟩, ⟨b1, b2, b3, b4, b5, b6, b7⟩, l1, l2, l3, l4, l5, l6, l7⟩ := (dyA_71 (b := true) (E := E))
  have hm0 := (r4.1.2.1 0 (by have := r4.2.1; omega)).2.2
  obtain ⟨-, n9, a37, b37, a38, b38⟩ := id r3
  have en : J 71 9 = nI n := hD.2.1
  obtain ⟨i1, i3, i40, i4⟩ := id r5
  by_cases hi : im < 3
  rotate_left
  · have e3 : im = 3 := by omega
    subst e3
    refine ⟨(0, 0), q, z, Cst.no, hq32, fun Γ l d kr kx hG hk => ?_⟩
    refine ex_of (ls0 := [some (.ref 0)]) tH_image (by decide +kernel) kH_image rfl (Nat.le_of_ble_eq_true rfl) rfl ?_
    intro go hgo
    refine hgo 20 [] 0 _ _ _ _ _ ?_
    simp only [ixr_of, run_s, run_0, rH_image, rok_i, rok_z, bx_cons, bx_nil, eAALD105, eADD, eC1, eC3, eCV1, eCm1, eDUPr, eGI, eGR, jIClt, eLA0, ePI, eRI, fH_image_0, fH_image_8, fH_image_10, bH_image_0, bH_image_8, bH_image_10, ln_ximages, ln_xthought, rg_xmain_0, rg_xmain_1, rg_xmain_10, rg_xmain_2, rg_xmain_3, rg_xmain_4, rg_xmain_5, rg_xmain_6, rg_xmain_7, ty_xaqueduct, ty_xdiary, ty_xforesight, ty_ximages, ty_xmain, ty_xnow, ty_xopinionReader, ty_xtape, ty_xtasters, ty_xthought, Option.toList_some, Option.toList_none, List.cons_append, List.nil_append, List.length_cons, List.length_nil, List.mem_cons, List.not_mem_nil, or_false, false_or, or_true, true_or, ↓reduceIte, true_and, and_true, Nat.reduceEqDiff, Nat.reduceAdd, Nat.reduceLeDiff, Nat.reduceLT, dl_i, dl_r, dl_n, dl_u, eq_self, not_true_eq_false, not_false_eq_true, n10, n01, nm0, n0m, i1, ty71, imp_t, imp_f]
    refine ⟨fun c => absurd c (by decide), fun _ => ?_⟩
    exact hk _ J E (fun Γ l d kr kx hk2 => c_image i40 (Nat.le_refl _) (fun _ => hk2 _ hG0.th up_s) (fun c => absurd c (by omega)))
  obtain ⟨rI, dI⟩ := im_A (E := E) hi
  have tI := dI.1
  have c1 : (nI im < nI 3) = True := by rw [nIt (by omega) (by decide)]; exact eq_true (by omega)
  refine ⟨(0, 0), q, z, Cst.no, hq32, fun Γ l d kr kx hG hk => ?_⟩
  refine ex_of (ls0 := [some (.ref 0)]) tH_image (by decide +kernel) kH_image rfl (Nat.le_of_ble_eq_true rfl) rfl ?_
  intro go hgo
  refine hgo 20 [] 0 _ _ _ _ _ ?_
  simp only [ixr_of, run_s, run_0, rH_image, rok_i, rok_z, bx_cons, bx_nil, eAALD105, eADD, eC1, eC3, eCV1, eCm1, eDUPr, eGI, eGR, jIClt, eLA0, ePI, eRI, fH_image_0, fH_image_8, fH_image_10, bH_image_0, bH_image_8, bH_image_10, ln_ximages, ln_xthought, rg_xmain_0, rg_xmain_1, rg_xmain_10, rg_xmain_2, rg_xmain_3, rg_xmain_4, rg_xmain_5, rg_xmain_6, rg_xmain_7, ty_xaqueduct, ty_xdiary, ty_xforesight, ty_ximages, ty_xmain, ty_xnow, ty_xopinionReader, ty_xtape, ty_xtasters, ty_xthought, Option.toList_some, Option.toList_none, List.cons_append, List.nil_append, List.length_cons, List.length_nil, List.mem_cons, List.not_mem_nil, or_false, false_or, or_true, true_or, ↓reduceIte, true_and, and_true, Nat.reduceEqDiff, Nat.reduceAdd, Nat.reduceLeDiff, Nat.reduceLT, dl_i, dl_r, dl_n, dl_u, eq_self, not_true_eq_false, not_false_eq_true, n10, n01, nm0, n0m, i1, ty71, rI, tI, c1, hi, imp_t, imp_f]
  refine call0 (x_copyFrom dI dyA_71 (by omega) (fun K1 hK => ?_))
  have k0 : K1 0 = J 0 := hK.1 0 (by omega)
  have k12 : K1 0 12 = nI im := by rw [k0]; exact i1
  simp only [ixr_of, run_s, run_0, rH_image, rok_i, rok_z, bx_cons, bx_nil, eAALD105, eADD, eC1, eC3, eCV1, eCm1, eDUPr, eGI, eGR, jIClt, eLA0, ePI, eRI, fH_image_0, fH_image_8, fH_image_10, bH_image_0, bH_image_8, bH_image_10, ln_ximages, ln_xthought, rg_xmain_0, rg_xmain_1, rg_xmain_10, rg_xmain_2, rg_xmain_3, rg_xmain_4, rg_xmain_5, rg_xmain_6, rg_xmain_7, ty_xaqueduct, ty_xdiary, ty_xforesight, ty_ximages, ty_xmain, ty_xnow, ty_xopinionReader, ty_xtape, ty_xtasters, ty_xthought, Option.toList_some, Option.toList_none, List.cons_append, List.nil_append, List.length_cons, List.length_nil, List.mem_cons, List.not_mem_nil, or_false, false_or, or_true, true_or, ↓reduceIte, true_and, and_true, Nat.reduceEqDiff, Nat.reduceAdd, Nat.reduceLeDiff, Nat.reduceLT, dl_i, dl_r, dl_n, dl_u, eq_self, not_true_eq_false, not_false_eq_true, n10, n01, nm0, n0m, k12, nI_add, up_s, imp_t, imp_f]
  obtain ⟨K, hKe⟩ : ∃ K, K = up K1 0 12 (nI (im + 1)) := ⟨_, rfl⟩
  rw [← hKe]
  have kk : ∀ i, i ≠ 0 → ¬ (101 + 8 * im ≤ i ∧ i < 101 + 8 * im + 8) → K i = J i := fun i a c => by
    rw [hKe, ← hK.1 i c]
    funext j
    exact up_n (by omega)
  have kt : ∀ i, 500000 ≤ i → K i = J i := fun i a => kk i (by omega) (by omega)
  refine hk _ K E (fun Γ l d kr kx hk2 => c_image (by rw [kt 500000 (by omega)]; exact i40) i3 (fun c => absurd c (by omega)) (fun _ => ?_))
  obtain ⟨L, hL⟩ : ∃ L, L = up (sr (up K 500000 0 (nI 0)) (500120 + im) (imR K im 9)) 500000 40 (nI (im + 1)) := ⟨_, rfl⟩
  rw [← hL]
  have lo : ∀ i, i ≠ 500000 → i ≠ 500120 + im → L i = K i := fun i a c => by
    rw [hL]
    funext j
    rw [up_n (by omega), sr_n (by omega), up_n (by omega)]
  have lf : ∀ j, j ≠ 0 → j ≠ 40 → L 500000 j = J 500000 j := fun j a e => by
    rw [hL, up_n (by omega), sr_n (by omega), up_n (by omega), kt 500000 (by omega)]
  have lr : L (500120 + im) = imR K im 9 := by
    rw [hL]
    funext j
    rw [up_n (by omega), sr_s]
  have ll : ∀ i, i ≠ 0 → i ≠ 500000 → i ≠ 500120 + im → ¬ (101 + 8 * im ≤ i ∧ i < 101 + 8 * im + 8) → L i = J i := fun i a1 a2 a3 a4 => by rw [lo i a2 a3, kk i a1 a4]
  have hRF : RF J L := by
    refine ⟨fun i hi' => ll i ?_ ?_ ?_ ?_, lf 1 (by omega) (by omega), lf 3 (by omega) (by omega), lf 36 (by omega) (by omega)⟩ <;>
    · unfold Rk tw at hi'
      rcases hi' with h | ⟨o, ho, h⟩ | h | h | h | h | h | h | h | h | h <;> first | omega | (unfold idO at ho; omega)
  have l24 := ll 500124 (by omega) (by omega) (by omega) (by omega)
  have l23 := ll 500123 (by omega) (by omega) (by omega) (by omega)
  refine hk2 L (GS.re (n := n) (n0 := n0) (p := p) (c := c) (mk := mk) (im := im + 1) (nim := fun m => if m = im then n else nim m) r1 r2 r6 r8 r9 EX.rf r9.2.1 hRF (r3.cg s9 (fun i a e => ll i (by omega) (by omega) (by omega) (by omega)) l24 l23 (lf 37 (by omega) (by omega)) (lf 38 (by omega) (by omega))) (r4.cg hS hRF.t (by rw [ll 79 (by omega) (by omega) (by omega) (by omega)]) l24 (ll 500125 (by omega) (by omega) (by omega) (by omega)) l23 (lf 37 (by omega) (by omega)) (lf 38 (by omega) (by omega)) (lf 39 (by omega) (by omega)) (fun i a => ll i (by omega) (by omega) (by omega) (by omega))) ⟨?_, by omega, by rw [hL, up_s], fun m hm => ?_⟩ ?_) (by rw [hL, up_n (by omega), sr_n (by omega), up_s])
  · rw [lo 0 (by omega) (by omega), hKe, up_s]
  · dsimp only
    by_cases e : m = im
    · rw [if_pos e, e, lr]
      have nq := (r3.1.2.cp s9 hK)
      have nq2 : NQ L (101 + 8 * im) S n (J 500124) (J 500000 37) (J 500000 38) (J 500123) := nq.mv s9 (fun i a b => by rw [lo i (by omega) (by omega), hKe]; funext j; exact up_n (by omega))
      have g1 : ∀ k, k < 502 → imR K im 9 k = J 500124 k := fun k hk => by unfold imR; rw [if_pos hk, kt 500124 (by omega)]
      have g2 : imR K im 9 502 = J 500000 37 := by unfold imR; rw [if_neg (by omega), if_pos rfl, kt 500000 (by omega)]
      have g3 : imR K im 9 503 = J 500000 38 := by unfold imR; rw [if_neg (by omega), if_neg (by omega), if_pos rfl, kt 500000 (by omega)]
      refine ⟨n9, nq2.cgr g1 g2 g3 (fun v hv => ?_), p, c, b37, b38, by rw [g2]; exact a37, by rw [g3]; exact a38⟩
      unfold imR
      rw [if_neg (by omega), if_neg (by omega), if_neg (by omega), if_pos (by omega), Nat.add_sub_cancel_left, kt 500123 (by omega)]
    · rw [if_neg e, ll (500120 + m) (by omega) (by omega) (by omega) (by omega)]
      obtain ⟨b1', b2', b3'⟩ := i4 m (by omega)
      exact ⟨b1', b2'.mv s9 (fun i a b => ll i (by omega) (by omega) (by omega) (by omega)), b3'⟩
  · unfold R7
    rw [ll 500002 (by omega) (by omega) (by omega) (by omega), lo 0 (by omega) (by omega), hKe, up_n (by omega), up_n (by omega), k0]
    exact r7

theorem g_restore {q z : Nat} {J : Iv} {E : Ev} (h : GS q z J E) : StX0 mH_restore mM_restore [] q z J E := by
  have hG0 := h
  obtain ⟨S, PS, t, op, bk, kb, n, n0, p, c, mk, tp, im, nim, rw', r1, r2, r3, r4, r5, r6, r7, r8, r9⟩ := h
  have hS := r1.1.1.2.2.2.1
  have s9 := hS.1
  have hVS := r1.1.2.2.1
  have hq32 := r4.1.1
  obtain ⟨g3, hT, hXt, -⟩ := id r1.1.1
  have tT : tyc shN E t = 10 := (hT.A (b := true) (E := E)).1
  have v7 := hXt.1
  have h40 := hVS.1
  have hD := r3.1.2.1
  have ty71 : tyc shN E 71 = 3 := dyA_71.1
  obtain ⟨-, ⟨y0, y1, y2, y3, y4, y5, y6⟩, ⟨b1, b2, b3, b4, b5, b6, b7⟩, l1, l2, l3, l4, l5, l6, l7⟩ := (dyA_71 (b := true) (E := E))
  have hm0 := (r4.1.2.1 0 (by have := r4.2.1; omega)).2.2
  obtain ⟨-, n9, a37, b37, a38, b38⟩ := id r3
  have en : J 71 9 = nI n := hD.2.1
  obtain ⟨i1, i3, i40, i4⟩ := id r5
  by_cases hi : im = 0
  · subst hi
    refine ⟨(0, 0), q, z, Cst.no, hq32, fun Γ l d kr kx hG hk => ?_⟩
    refine ex_of (ls0 := [some (.ref 0)]) tH_restore (by decide +kernel) kH_restore rfl (Nat.le_of_ble_eq_true rfl) rfl ?_
    intro go hgo
    refine hgo 20 [] 0 _ _ _ _ _ ?_
    simp only [ixr_of, run_s, run_0, rH_restore, rok_i, rok_z, bx_cons, bx_nil, eAALD105, eC1, eCV1, eCm1, eDUPr, eGI, eGR, jIFgt, eLA0, ePI, eRI, eSUB, fH_restore_0, fH_restore_7, fH_restore_9, bH_restore_0, bH_restore_7, bH_restore_9, ln_ximages, ln_xthought, rg_xmain_0, rg_xmain_1, rg_xmain_10, rg_xmain_2, rg_xmain_3, rg_xmain_4, rg_xmain_5, rg_xmain_6, rg_xmain_7, ty_xaqueduct, ty_xdiary, ty_xforesight, ty_ximages, ty_xmain, ty_xnow, ty_xopinionReader, ty_xtape, ty_xtasters, ty_xthought, Option.toList_some, Option.toList_none, List.cons_append, List.nil_append, List.length_cons, List.length_nil, List.mem_cons, List.not_mem_nil, or_false, false_or, or_true, true_or, ↓reduceIte, true_and, and_true, Nat.reduceEqDiff, Nat.reduceAdd, Nat.reduceLeDiff, Nat.reduceLT, dl_i, dl_r, dl_n, dl_u, eq_self, not_true_eq_false, not_false_eq_true, n10, n01, nm0, n0m, i1, ty71, imp_t, imp_f]
    refine ⟨fun c => absurd c (by decide), fun _ => ?_⟩
    exact hk _ J E (fun Γ l d kr kx hk2 => c_restore i40 i3 (fun _ => hk2 _ hG0.th up_s) (fun k c => absurd c (by omega)))
  obtain ⟨m, rfl⟩ : ∃ m, im = m + 1 := ⟨im - 1, by omega⟩
  have hm3 : m < 3 := by omega
  obtain ⟨rI, dI⟩ := im_A (E := E) hm3
  have tI := dI.1
  have c1 : (nI 0 < nI (m + 1)) = True := by rw [nIt (by omega) (by omega)]; exact eq_true (by omega)
  have es : nI (m + 1) - nI 1 = nI m := by rw [nI_sb (by omega), Nat.add_sub_cancel]
  refine ⟨(0, 0), q, z, Cst.no, hq32, fun Γ l d kr kx hG hk => ?_⟩
  refine ex_of (ls0 := [some (.ref 0)]) tH_restore (by decide +kernel) kH_restore rfl (Nat.le_of_ble_eq_true rfl) rfl ?_
  intro go hgo
  refine hgo 20 [] 0 _ _ _ _ _ ?_
  simp only [ixr_of, run_s, run_0, rH_restore, rok_i, rok_z, bx_cons, bx_nil, eAALD105, eC1, eCV1, eCm1, eDUPr, eGI, eGR, jIFgt, eLA0, ePI, eRI, eSUB, fH_restore_0, fH_restore_7, fH_restore_9, bH_restore_0, bH_restore_7, bH_restore_9, ln_ximages, ln_xthought, rg_xmain_0, rg_xmain_1, rg_xmain_10, rg_xmain_2, rg_xmain_3, rg_xmain_4, rg_xmain_5, rg_xmain_6, rg_xmain_7, ty_xaqueduct, ty_xdiary, ty_xforesight, ty_ximages, ty_xmain, ty_xnow, ty_xopinionReader, ty_xtape, ty_xtasters, ty_xthought, Option.toList_some, Option.toList_none, List.cons_append, List.nil_append, List.length_cons, List.length_nil, List.mem_cons, List.not_mem_nil, or_false, false_or, or_true, true_or, ↓reduceIte, true_and, and_true, Nat.reduceEqDiff, Nat.reduceAdd, Nat.reduceLeDiff, Nat.reduceLT, dl_i, dl_r, dl_n, dl_u, eq_self, not_true_eq_false, not_false_eq_true, n10, n01, nm0, n0m, i1, ty71, rI, tI, c1, es, hm3, up_s, imp_t, imp_f]
  refine call0 (x_copyFrom dyA_71 dI (by omega) (fun J1 hJ1 => ?_))
  simp only [ixr_of, run_s, run_0, rH_restore, rok_i, rok_z, bx_cons, bx_nil, eAALD105, eC1, eCV1, eCm1, eDUPr, eGI, eGR, jIFgt, eLA0, ePI, eRI, eSUB, fH_restore_0, fH_restore_7, fH_restore_9, bH_restore_0, bH_restore_7, bH_restore_9, ln_ximages, ln_xthought, rg_xmain_0, rg_xmain_1, rg_xmain_10, rg_xmain_2, rg_xmain_3, rg_xmain_4, rg_xmain_5, rg_xmain_6, rg_xmain_7, ty_xaqueduct, ty_xdiary, ty_xforesight, ty_ximages, ty_xmain, ty_xnow, ty_xopinionReader, ty_xtape, ty_xtasters, ty_xthought, Option.toList_some, Option.toList_none, List.cons_append, List.nil_append, List.length_cons, List.length_nil, List.mem_cons, List.not_mem_nil, or_false, false_or, or_true, true_or, ↓reduceIte, true_and, and_true, Nat.reduceEqDiff, Nat.reduceAdd, Nat.reduceLeDiff, Nat.reduceLT, dl_i, dl_r, dl_n, dl_u, eq_self, not_true_eq_false, not_false_eq_true, n10, n01, nm0, n0m, imp_t, imp_f]
  obtain ⟨im9, inq, p', c', bp, bc, ep, ec⟩ := i4 m (by omega)
  have iu : NQ (up J 0 12 (nI m)) (101 + 8 * m) S (nim m) (J (500120 + m)) (J (500120 + m) 502) (J (500120 + m) 503) (fun v => J (500120 + m) (504 + v)) := inq.mv s9 (fun i a b => by funext j; exact up_n (by omega))
  have nq := iu.cp s9 hJ1
  refine call0 (x_dibegin r4.1 nq.1.2.1 im9 r9.2.1 (fun e => absurd e (by have := r4.2.1; omega)) (fun _ K hK => ?_) (fun e => absurd e (by have := r4.2.1; omega)))
  have j0 : J1 0 = up J 0 12 (nI m) 0 := hJ1.1 0 (by omega)
  have k12 : K 0 12 = nI m := by rw [hK.1 0 (by omega), up_n (by omega), j0, up_s]
  simp only [ixr_of, run_s, run_0, rH_restore, rok_i, rok_z, bx_cons, bx_nil, eAALD105, eC1, eCV1, eCm1, eDUPr, eGI, eGR, jIFgt, eLA0, ePI, eRI, eSUB, fH_restore_0, fH_restore_7, fH_restore_9, bH_restore_0, bH_restore_7, bH_restore_9, ln_ximages, ln_xthought, rg_xmain_0, rg_xmain_1, rg_xmain_10, rg_xmain_2, rg_xmain_3, rg_xmain_4, rg_xmain_5, rg_xmain_6, rg_xmain_7, ty_xaqueduct, ty_xdiary, ty_xforesight, ty_ximages, ty_xmain, ty_xnow, ty_xopinionReader, ty_xtape, ty_xtasters, ty_xthought, Option.toList_some, Option.toList_none, List.cons_append, List.nil_append, List.length_cons, List.length_nil, List.mem_cons, List.not_mem_nil, or_false, false_or, or_true, true_or, ↓reduceIte, true_and, and_true, Nat.reduceEqDiff, Nat.reduceAdd, Nat.reduceLeDiff, Nat.reduceLT, dl_i, dl_r, dl_n, dl_u, eq_self, not_true_eq_false, not_false_eq_true, n10, n01, nm0, n0m, k12, imp_t, imp_f]
  have kf : ∀ i, i ≠ 0 → ¬ (71 ≤ i ∧ i < 79) → J1 i = J i := fun i a c => by
    rw [hJ1.1 i c]
    funext j
    exact up_n (by omega)
  have kk : ∀ i, i ≠ 0 → ¬ (71 ≤ i ∧ i ≤ 79) → i < 1000000 → K i = J i := fun i a c e => by
    rw [hK.1 i (by omega), ← kf i a (by omega)]
    funext j
    exact up_n (by omega)
  refine hk _ K E (fun Γ l d kr kx hk2 => c_restore (by rw [kk 500000 (by omega) (by omega) (by omega)]; exact i40) i3 (fun c => absurd c (by omega)) (fun k e => ?_))
  have : k = m := by omega
  subst this
  obtain ⟨L, hL⟩ : ∃ L, L = up (sr (sr (up (up (sr (up (up K 500000 0 (nI 0)) 500000 40 (nI k)) 500124 (K (500120 + k))) 500000 37 (K (500120 + k) 502)) 500000 38 (K (500120 + k) 503)) 500123 (grR K k 9)) 500125 (K (500120 + k))) 500000 39 (nI 0) := ⟨_, rfl⟩
  rw [← hL]
  have kr' : K (500120 + k) = J (500120 + k) := kk _ (by omega) (by omega) (by omega)
  have lo : ∀ i, i ≠ 500000 → i ≠ 500123 → i ≠ 500124 → i ≠ 500125 → L i = K i := fun i a c e f => by
    rw [hL]
    funext j
    rw [up_n (by omega), sr_n (by omega), sr_n (by omega), up_n (by omega), up_n (by omega), sr_n (by omega), up_n (by omega), up_n (by omega)]
  have lf : ∀ j, j ≠ 0 → ¬ (37 ≤ j ∧ j ≤ 40) → L 500000 j = K 500000 j := fun j a e => by
    rw [hL, up_n (by omega), sr_n (by omega), sr_n (by omega), up_n (by omega), up_n (by omega), sr_n (by omega), up_n (by omega), up_n (by omega)]
  have l37 : L 500000 37 = J (500120 + k) 502 := by rw [hL, up_n (by omega), sr_n (by omega), sr_n (by omega), up_n (by omega), up_s, kr']
  have l38 : L 500000 38 = J (500120 + k) 503 := by rw [hL, up_n (by omega), sr_n (by omega), sr_n (by omega), up_s, kr']
  have l24 : L 500124 = J (500120 + k) := by
    rw [hL]
    funext j
    rw [up_n (by omega), sr_n (by omega), sr_n (by omega), up_n (by omega), up_n (by omega), sr_s, kr']
  have l25 : L 500125 = J (500120 + k) := by
    rw [hL]
    funext j
    rw [up_n (by omega), sr_s, kr']
  have l23 : ∀ v, v < 9 → L 500123 v = J (500120 + k) (504 + v) := fun v hv => by
    rw [hL, up_n (by omega), sr_n (by omega), sr_s]
    unfold grR
    rw [if_pos hv, kr']
  refine hk2 L (GS.m1 (p' := p') (c' := c') r1 r2 r4 r5 r6 r7 r8 r9 (fun i _ a b => kf i b a) hK (fun i a => lo i (by omega) (by omega) (by omega) (by omega)) (fun i a1 a2 a3 a4 a5 a6 => lo i (by omega) (by omega) (by omega) (by omega)) (fun j a c => lf j (by unfold scF at a; omega) c) (Nat.le_succ k) (by rw [j0, up_s]) (by rw [hL, up_n (by omega), sr_n (by omega), sr_n (by omega), up_n (by omega), up_n (by omega), sr_n (by omega), up_s]) ⟨by rw [j0, up_n (by omega)], by rw [j0, up_n (by omega)]⟩ ?_ im9 ⟨by rw [l37]; exact ep, bp⟩ ⟨by rw [l38]; exact ec, bc⟩ (by rw [hL, up_s]) (by rw [l25, l24])) ?_
  · rw [l24, l37, l38]
    exact nq.cgr (fun _ _ => rfl) rfl rfl (fun v hv => l23 v hv)
  · rw [hL, up_n (by omega), sr_n (by omega), sr_n (by omega), up_n (by omega), up_n (by omega), sr_n (by omega), up_n (by omega), up_s]
