/-! public methods, 12: days undone -/

theorem g_undo {q z : Nat} {J : Iv} {E : Ev} {x : Int32} (h : GS q z J E) : StX1 mH_undo mM_undo [.int x] 1 q z J E := by
  have hG0 := h
  obtain ⟨S, PS, t, op, bk, kb, n, n0, p, c, mk, tp, im, nim, rw', r1, r2, r3, r4, r5, r6, r7, r8, r9⟩ := h
  have hS := r1.1.1.2.2.2.1
  have s9 := hS.1
  have hVS := r1.1.2.2.1
  have hq32 := r4.1.1
  obtain ⟨g3, hT, hXt, -⟩ := id r1.1.1
  have tT : tyc shN E t = 10 := (hT.A (b := true) (E := E)).1
  have v7 := hXt.1
  have h40 := hVS.1
  have hD := r3.1.2.1
  have ty71 : tyc shN E 71 = 3 := dyA_71.1
  obtain ⟨-, ⟨y0, y1, y2, y3, y4, y5, y6⟩, ⟨b1, b2, b3, b4, b5, b6, b7⟩, l1, l2, l3, l4, l5, l6, l7⟩ := (dyA_71 (b := true) (E := E))
  have hm0 := (r4.1.2.1 0 (by have := r4.2.1; omega)).2.2
  obtain ⟨-, n9, a37, b37, a38, b38⟩ := id r3
  have en : J 71 9 = nI n := hD.2.1
  by_cases hin : nI 1 ≤ x ∧ x ≤ nI 99
  rotate_left
  · refine ⟨(1, 6), q, z, Cst.x, hq32, fun Γ l d kr kx hG _ hxI => ?_⟩
    refine ex_of (ls0 := [some (.ref 0), some (.int x), none, none, none]) tH_undo (by decide +kernel) kH_undo rfl (Nat.le_of_ble_eq_true rfl) rfl ?_
    intro go hgo
    refine hgo 20 [63] 0 _ _ _ _ _ ?_
    simp only [ixr_of, run_s, run_0, rH_undo, rok_i, rok_z, bx_cons, bx_nil, eBP, eC1, eCV1, eCV2, eCV3, eGI, eGO, eGR, jICge, jIFle, eINC4, eLA0, eLI1, eLI2, eLI3, eLI4, eMIN, eRI, eSI2, eSI3, eSI4, eSUB, fH_undo_0, fH_undo_32, fH_undo_63, fH_undo_69, fH_undo_86, bH_undo_0, bH_undo_32, bH_undo_63, bH_undo_69, bH_undo_86, ln_ximages, ln_xthought, rg_xmain_0, rg_xmain_1, rg_xmain_10, rg_xmain_2, rg_xmain_3, rg_xmain_4, rg_xmain_5, rg_xmain_6, rg_xmain_7, ty_xaqueduct, ty_xdiary, ty_xforesight, ty_ximages, ty_xmain, ty_xnow, ty_xopinionReader, ty_xtape, ty_xtasters, ty_xthought, Option.toList_some, Option.toList_none, List.cons_append, List.nil_append, List.length_cons, List.length_nil, List.mem_cons, List.not_mem_nil, or_false, false_or, or_true, true_or, ↓reduceIte, true_and, and_true, Nat.reduceEqDiff, Nat.reduceAdd, Nat.reduceLeDiff, Nat.reduceLT, dl_i, dl_r, dl_n, dl_u, eq_self, not_true_eq_false, not_false_eq_true, n10, n01, nm0, n0m, imp_t, imp_f]
    refine ⟨1, 6, fun _ => Nat.le_refl _, fun _ => Nat.le_refl _, x_needInX hG.1.1 hG.2.1 hG.2.2 hin (hxI _ _ (fun Γ l d kr kx hk => ?_))⟩
    exact c_undo (hVS.t say0) (by rw [up_n (by omega)]; exact r4.2.2.2.2.2.1) (by omega) (fun _ => hk _ (hG0.rf (rn := 1) (w := 1) (by decide)).1.un (hG0.rf (rn := 1) (w := 1) (by decide)).2) (fun c => absurd c hin) (fun k a b e => absurd (by rw [e]; exact rgI (by omega) (by omega) (by decide)) hin)
  obtain ⟨k0, hk1, hk9, rfl⟩ := rng1 (by decide) hin
  obtain ⟨d1, d2, d3, d4, d5, d6, d7, d8⟩ := id r4
  obtain ⟨g0, hg0⟩ : ∃ g0, g0 = n - n0 := ⟨_, rfl⟩
  have en0 : n = n0 + g0 := by omega
  have esub : nI n - nI n0 = nI g0 := by rw [nI_sb (by omega), ← hg0]
  have emin : miI (nI k0) (nI g0) = nI (min k0 g0) := miI_n (by omega) (by omega)
  obtain ⟨u0, hu0⟩ : ∃ u0, u0 = min k0 g0 := ⟨_, rfl⟩
  rw [← hu0] at emin
  by_cases hz : u0 = 0
  · have c0 : (nI 0 < nI u0) = False := by rw [nIt (by omega) (by omega)]; exact eq_false (by omega)
    have c0' : (nI u0 ≤ nI 0) = True := by rw [nIl (by omega) (by omega)]; exact eq_true (by omega)
    refine ⟨(0, 0), q, z, Cst.no, hq32, fun Γ l d kr kx hG hk _ => ?_⟩
    refine ex_of (ls0 := [some (.ref 0), some (.int (nI k0)), none, none, none]) tH_undo (by decide +kernel) kH_undo rfl (Nat.le_of_ble_eq_true rfl) rfl ?_
    intro go hgo
    refine hgo 20 [63] 0 _ _ _ _ _ ?_
    simp only [ixr_of, run_s, run_0, rH_undo, rok_i, rok_z, bx_cons, bx_nil, eBP, eC1, eCV1, eCV2, eCV3, eGI, eGO, eGR, jICge, jIFle, eINC4, eLA0, eLI1, eLI2, eLI3, eLI4, eMIN, eRI, eSI2, eSI3, eSI4, eSUB, fH_undo_0, fH_undo_32, fH_undo_63, fH_undo_69, fH_undo_86, bH_undo_0, bH_undo_32, bH_undo_63, bH_undo_69, bH_undo_86, ln_ximages, ln_xthought, rg_xmain_0, rg_xmain_1, rg_xmain_10, rg_xmain_2, rg_xmain_3, rg_xmain_4, rg_xmain_5, rg_xmain_6, rg_xmain_7, ty_xaqueduct, ty_xdiary, ty_xforesight, ty_ximages, ty_xmain, ty_xnow, ty_xopinionReader, ty_xtape, ty_xtasters, ty_xthought, Option.toList_some, Option.toList_none, List.cons_append, List.nil_append, List.length_cons, List.length_nil, List.mem_cons, List.not_mem_nil, or_false, false_or, or_true, true_or, ↓reduceIte, true_and, and_true, Nat.reduceEqDiff, Nat.reduceAdd, Nat.reduceLeDiff, Nat.reduceLT, dl_i, dl_r, dl_n, dl_u, eq_self, not_true_eq_false, not_false_eq_true, n10, n01, nm0, n0m, ty71, en, d3, esub, emin, c0, c0', imp_t, imp_f]
    refine call0 (x_needIn hin ?_)
    simp only [ixr_of, run_s, run_0, rH_undo, rok_i, rok_z, bx_cons, bx_nil, eBP, eC1, eCV1, eCV2, eCV3, eGI, eGO, eGR, jICge, jIFle, eINC4, eLA0, eLI1, eLI2, eLI3, eLI4, eMIN, eRI, eSI2, eSI3, eSI4, eSUB, fH_undo_0, fH_undo_32, fH_undo_63, fH_undo_69, fH_undo_86, bH_undo_0, bH_undo_32, bH_undo_63, bH_undo_69, bH_undo_86, ln_ximages, ln_xthought, rg_xmain_0, rg_xmain_1, rg_xmain_10, rg_xmain_2, rg_xmain_3, rg_xmain_4, rg_xmain_5, rg_xmain_6, rg_xmain_7, ty_xaqueduct, ty_xdiary, ty_xforesight, ty_ximages, ty_xmain, ty_xnow, ty_xopinionReader, ty_xtape, ty_xtasters, ty_xthought, Option.toList_some, Option.toList_none, List.cons_append, List.nil_append, List.length_cons, List.length_nil, List.mem_cons, List.not_mem_nil, or_false, false_or, or_true, true_or, ↓reduceIte, true_and, and_true, Nat.reduceEqDiff, Nat.reduceAdd, Nat.reduceLeDiff, Nat.reduceLT, dl_i, dl_r, dl_n, dl_u, eq_self, not_true_eq_false, not_false_eq_true, n10, n01, nm0, n0m, imp_t, imp_f]
    simp only [ixr_of, run_s, run_0, rH_undo, rok_i, rok_z, bx_cons, bx_nil, eBP, eC1, eCV1, eCV2, eCV3, eGI, eGO, eGR, jICge, jIFle, eINC4, eLA0, eLI1, eLI2, eLI3, eLI4, eMIN, eRI, eSI2, eSI3, eSI4, eSUB, fH_undo_0, fH_undo_32, fH_undo_63, fH_undo_69, fH_undo_86, bH_undo_0, bH_undo_32, bH_undo_63, bH_undo_69, bH_undo_86, ln_ximages, ln_xthought, rg_xmain_0, rg_xmain_1, rg_xmain_10, rg_xmain_2, rg_xmain_3, rg_xmain_4, rg_xmain_5, rg_xmain_6, rg_xmain_7, ty_xaqueduct, ty_xdiary, ty_xforesight, ty_ximages, ty_xmain, ty_xnow, ty_xopinionReader, ty_xtape, ty_xtasters, ty_xthought, Option.toList_some, Option.toList_none, List.cons_append, List.nil_append, List.length_cons, List.length_nil, List.mem_cons, List.not_mem_nil, or_false, false_or, or_true, true_or, ↓reduceIte, true_and, and_true, Nat.reduceEqDiff, Nat.reduceAdd, Nat.reduceLeDiff, Nat.reduceLT, dl_i, dl_r, dl_n, dl_u, eq_self, not_true_eq_false, not_false_eq_true, n10, n01, nm0, n0m, ty71, en, d3, esub, emin, c0, c0', imp_t, imp_f]
    refine hk _ J E (fun Γ l d kr kx hk2 => c_undo hVS d6 (by omega) (fun c => absurd hin c) (fun _ _ => ?_) (fun k a1 a2 a3 a4 => absurd (by rw [nI_eq (by omega) (by omega)] at a3; omega) a4))
    rw [hz] at hk2
    exact hk2 _ hG0.th up_s
  have c0 : (nI 0 < nI u0) = True := by rw [nIt (by omega) (by omega)]; exact eq_true (by omega)
  have c0' : (nI u0 ≤ nI 0) = False := by rw [nIl (by omega) (by omega)]; exact eq_false (by omega)
  obtain ⟨g, hg⟩ : ∃ g, g = g0 - u0 := ⟨_, rfl⟩
  have esu : nI n - nI u0 = nI (n0 + g) := by rw [nI_sb (by omega)]; congr 1; omega
  obtain ⟨G, hGd⟩ : ∃ G, G = gR J S.1.1 S.1.2 (pmN J) (J 500125) := ⟨_, rfl⟩
  refine ⟨(0, 0), q, z, Cst.no, hq32, fun Γ l d kr kx hG hk _ => ?_⟩
  refine ex_of (ls0 := [some (.ref 0), some (.int (nI k0)), none, none, none]) tH_undo (by decide +kernel) kH_undo rfl (Nat.le_of_ble_eq_true rfl) rfl ?_
  intro go hgo
  have fin : ∀ (K : Iv), (∀ i, i < 1000000 → ¬ (16 ≤ i ∧ i ≤ 19) → ¬ idV i → ¬ (71 ≤ i ∧ i < 79) → K i = J i) → NQ K 71 S (n0 + g) (G g) (J 500000 37) (J 500000 38) (J 500123) → (∀ a, 32 * a ≤ g → NQ K (mk a) S (n0 + 32 * a) (G (32 * a)) (J 500000 37) (J 500000 38) (J 500123)) → kr (some (.int (nI u0))) K E := by
    intro K hfr hN hmk'
    have md : ∀ i, 500000 ≤ i → i < 1000000 → K i = J i := fun i a e => hfr i e (by omega) (idV_n (by omega)) (by omega)
    have hms : Ms J K := md
    refine hk _ K E (fun Γ l d kr kx hk2 => c_undo (hVS.t hms.t) (by rw [md 500000 (by omega) (by omega)]; exact d6) (by omega) (fun c => absurd hin c) (fun _ c => absurd c (by omega)) (fun k' a1 a2 a3 a4 L hf hr => ?_))
    rw [nI_eq (by omega) (by omega)] at a3
    subst a3
    rw [← hg0, ← hu0] at hf hr ⊢
    rw [← hg] at hf hr
    have hM0 : MP K (up (asN K) 500000 0 (nI 0)) := MP.as.tr (MP.fl (by unfold scF; omega))
    have l1 : ∀ i, i ≠ 500000 → i ≠ 500124 → ¬ scA i → L i = K i := fun i a e f => by
      rw [hf.1 i e (by unfold scA at f; omega) (by unfold scA at f; omega) (by unfold scA at f; omega) (by unfold scA at f; omega) a, ← hM0.1 i a f]
      funext j
      exact up_n (by omega)
    have l2 : ∀ j, ¬ scF j → j ≠ 39 → L 500000 j = K 500000 j := fun j a e => by
      rw [hf.2 j (by unfold scF at a; omega), up_n (by omega), hM0.2 j a]
    have l24 : L 500124 = G g := by
      have e1 := congrArg Prod.fst hr
      dsimp only at e1
      rw [it2_as s9 hS.2.1, gR_of rfl, md 500125 (by omega) (by omega), hms.g hS (pmX_N s9 hms), ← hGd] at e1
      exact e1
    have l39 : L 500000 39 = nI g := by rw [hf.2 39 (by decide), up_s]
    have l0 : L 500000 0 = nI 0 := by rw [hf.2 0 (by decide), up_n (by omega), up_s]
    subst hGd
    exact hk2 L (GS.dy r1 r2 r3 r5 r6 r7 r8 r9 hfr hN (by omega) d1 (by omega) EX.rf r9.2.1 hmk' d3 l1 l2 l24 l39) l0
  have loop : ∀ (r k : Nat) (K : Iv), r + k = g → (∀ i, i < 1000000 → ¬ (16 ≤ i ∧ i ≤ 19) → ¬ idV i → ¬ (71 ≤ i ∧ i < 79) → K i = J i) → NQ K 71 S (n0 + k) (G k) (J 500000 37) (J 500000 38) (J 500123) → (∀ a, 32 * a ≤ g → NQ K (mk a) S (n0 + 32 * a) (G (32 * a)) (J 500000 37) (J 500000 38) (J 500123)) → go 63 [some (.ref 0), some (.int (nI k0)), some (.int (nI u0)), some (.int (nI (n0 + g))), some (.int (nI (n0 + k)))] [] K E (0, 0) := by
    intro r
    induction r with
    | zero =>
      intro k K hr hfr hN hmk'
      have : k = g := by omega
      subst this
      have c1 : (nI (n0 + k) ≤ nI (n0 + k)) = True := eq_true (Int32.le_refl _)
      refine hgo 20 [63] 63 _ _ _ _ _ ?_
      simp only [ixr_of, run_s, run_0, rH_undo, rok_i, rok_z, bx_cons, bx_nil, eBP, eC1, eCV1, eCV2, eCV3, eGI, eGO, eGR, jICge, jIFle, eINC4, eLA0, eLI1, eLI2, eLI3, eLI4, eMIN, eRI, eSI2, eSI3, eSI4, eSUB, fH_undo_0, fH_undo_32, fH_undo_63, fH_undo_69, fH_undo_86, bH_undo_0, bH_undo_32, bH_undo_63, bH_undo_69, bH_undo_86, ln_ximages, ln_xthought, rg_xmain_0, rg_xmain_1, rg_xmain_10, rg_xmain_2, rg_xmain_3, rg_xmain_4, rg_xmain_5, rg_xmain_6, rg_xmain_7, ty_xaqueduct, ty_xdiary, ty_xforesight, ty_ximages, ty_xmain, ty_xnow, ty_xopinionReader, ty_xtape, ty_xtasters, ty_xthought, Option.toList_some, Option.toList_none, List.cons_append, List.nil_append, List.length_cons, List.length_nil, List.mem_cons, List.not_mem_nil, or_false, false_or, or_true, true_or, ↓reduceIte, true_and, and_true, Nat.reduceEqDiff, Nat.reduceAdd, Nat.reduceLeDiff, Nat.reduceLT, dl_i, dl_r, dl_n, dl_u, eq_self, not_true_eq_false, not_false_eq_true, n10, n01, nm0, n0m, c1, imp_t, imp_f]
      exact fin K hfr hN hmk'
    | succ r ih =>
      intro k K hr hfr hN hmk'
      have c1 : (nI (n0 + g) ≤ nI (n0 + k)) = False := by rw [nIl (by omega) (by omega)]; exact eq_false (by omega)
      obtain ⟨hA, hT⟩ := r1.1.dy (F := E) EX.rf hfr
      refine hgo 20 [63] 63 _ _ _ _ _ ?_
      simp only [ixr_of, run_s, run_0, rH_undo, rok_i, rok_z, bx_cons, bx_nil, eBP, eC1, eCV1, eCV2, eCV3, eGI, eGO, eGR, jICge, jIFle, eINC4, eLA0, eLI1, eLI2, eLI3, eLI4, eMIN, eRI, eSI2, eSI3, eSI4, eSUB, fH_undo_0, fH_undo_32, fH_undo_63, fH_undo_69, fH_undo_86, bH_undo_0, bH_undo_32, bH_undo_63, bH_undo_69, bH_undo_86, ln_ximages, ln_xthought, rg_xmain_0, rg_xmain_1, rg_xmain_10, rg_xmain_2, rg_xmain_3, rg_xmain_4, rg_xmain_5, rg_xmain_6, rg_xmain_7, ty_xaqueduct, ty_xdiary, ty_xforesight, ty_ximages, ty_xmain, ty_xnow, ty_xopinionReader, ty_xtape, ty_xtasters, ty_xthought, Option.toList_some, Option.toList_none, List.cons_append, List.nil_append, List.length_cons, List.length_nil, List.mem_cons, List.not_mem_nil, or_false, false_or, or_true, true_or, ↓reduceIte, true_and, and_true, Nat.reduceEqDiff, Nat.reduceAdd, Nat.reduceLeDiff, Nat.reduceLT, dl_i, dl_r, dl_n, dl_u, eq_self, not_true_eq_false, not_false_eq_true, n10, n01, nm0, n0m, c1, imp_t, imp_f]
      rw [hGd] at hN
      refine call0 (x_nday hG.1 hA hN r1.1.2.1 hT (fun v _ => rfl) (by omega) (fun L hX hA2 hT2 hN2 => ?_))
      rw [show gR J S.1.1 S.1.2 (plS (J 500000 37), coS (J 500000 38), snG J, nI 0) (J 500125) (k + 1) = G (k + 1) by rw [hGd]; rfl] at hN2
      simp only [ixr_of, run_s, run_0, rH_undo, rok_i, rok_z, bx_cons, bx_nil, eBP, eC1, eCV1, eCV2, eCV3, eGI, eGO, eGR, jICge, jIFle, eINC4, eLA0, eLI1, eLI2, eLI3, eLI4, eMIN, eRI, eSI2, eSI3, eSI4, eSUB, fH_undo_0, fH_undo_32, fH_undo_63, fH_undo_69, fH_undo_86, bH_undo_0, bH_undo_32, bH_undo_63, bH_undo_69, bH_undo_86, ln_ximages, ln_xthought, rg_xmain_0, rg_xmain_1, rg_xmain_10, rg_xmain_2, rg_xmain_3, rg_xmain_4, rg_xmain_5, rg_xmain_6, rg_xmain_7, ty_xaqueduct, ty_xdiary, ty_xforesight, ty_ximages, ty_xmain, ty_xnow, ty_xopinionReader, ty_xtape, ty_xtasters, ty_xthought, Option.toList_some, Option.toList_none, List.cons_append, List.nil_append, List.length_cons, List.length_nil, List.mem_cons, List.not_mem_nil, or_false, false_or, or_true, true_or, ↓reduceIte, true_and, and_true, Nat.reduceEqDiff, Nat.reduceAdd, Nat.reduceLeDiff, Nat.reduceLT, dl_i, dl_r, dl_n, dl_u, eq_self, not_true_eq_false, not_false_eq_true, n10, n01, nm0, n0m, nI_add, imp_t, imp_f]
      refine ih (k + 1) L (by omega) (fun i a1 a2 a3 a4 => by rw [hX i a2 (by omega) a3, hfr i a1 a2 a3 a4]) hN2 (fun a ha => (hmk' a ha).mv s9 (fun i e f => by
        have := (d1.2.1 a (by omega)).2.2
        exact hX i (by omega) (by omega) (idV_n (by omega))))
  refine hgo 20 [63] 0 _ _ _ _ _ ?_
  simp only [ixr_of, run_s, run_0, rH_undo, rok_i, rok_z, bx_cons, bx_nil, eBP, eC1, eCV1, eCV2, eCV3, eGI, eGO, eGR, jICge, jIFle, eINC4, eLA0, eLI1, eLI2, eLI3, eLI4, eMIN, eRI, eSI2, eSI3, eSI4, eSUB, fH_undo_0, fH_undo_32, fH_undo_63, fH_undo_69, fH_undo_86, bH_undo_0, bH_undo_32, bH_undo_63, bH_undo_69, bH_undo_86, ln_ximages, ln_xthought, rg_xmain_0, rg_xmain_1, rg_xmain_10, rg_xmain_2, rg_xmain_3, rg_xmain_4, rg_xmain_5, rg_xmain_6, rg_xmain_7, ty_xaqueduct, ty_xdiary, ty_xforesight, ty_ximages, ty_xmain, ty_xnow, ty_xopinionReader, ty_xtape, ty_xtasters, ty_xthought, Option.toList_some, Option.toList_none, List.cons_append, List.nil_append, List.length_cons, List.length_nil, List.mem_cons, List.not_mem_nil, or_false, false_or, or_true, true_or, ↓reduceIte, true_and, and_true, Nat.reduceEqDiff, Nat.reduceAdd, Nat.reduceLeDiff, Nat.reduceLT, dl_i, dl_r, dl_n, dl_u, eq_self, not_true_eq_false, not_false_eq_true, n10, n01, nm0, n0m, imp_t, imp_f]
  refine call0 (x_needIn hin ?_)
  simp only [ixr_of, run_s, run_0, rH_undo, rok_i, rok_z, bx_cons, bx_nil, eBP, eC1, eCV1, eCV2, eCV3, eGI, eGO, eGR, jICge, jIFle, eINC4, eLA0, eLI1, eLI2, eLI3, eLI4, eMIN, eRI, eSI2, eSI3, eSI4, eSUB, fH_undo_0, fH_undo_32, fH_undo_63, fH_undo_69, fH_undo_86, bH_undo_0, bH_undo_32, bH_undo_63, bH_undo_69, bH_undo_86, ln_ximages, ln_xthought, rg_xmain_0, rg_xmain_1, rg_xmain_10, rg_xmain_2, rg_xmain_3, rg_xmain_4, rg_xmain_5, rg_xmain_6, rg_xmain_7, ty_xaqueduct, ty_xdiary, ty_xforesight, ty_ximages, ty_xmain, ty_xnow, ty_xopinionReader, ty_xtape, ty_xtasters, ty_xthought, Option.toList_some, Option.toList_none, List.cons_append, List.nil_append, List.length_cons, List.length_nil, List.mem_cons, List.not_mem_nil, or_false, false_or, or_true, true_or, ↓reduceIte, true_and, and_true, Nat.reduceEqDiff, Nat.reduceAdd, Nat.reduceLeDiff, Nat.reduceLT, dl_i, dl_r, dl_n, dl_u, eq_self, not_true_eq_false, not_false_eq_true, n10, n01, nm0, n0m, ty71, en, d3, esub, emin, c0, c0', esu, imp_t, imp_f]
  obtain ⟨p0, hp0⟩ : ∃ p0, p0 = g / 32 := ⟨_, rfl⟩
  have hm0 := (d1.2.1 p0 (by omega)).2.2
  refine call0 (x_goBack d1 d3 (by omega) (by omega) rfl (by omega) (fun K hK => ?_))
  rw [← hp0] at hK
  have q0 := d8 p0 (by omega)
  rw [← hGd] at q0
  have hN0 := q0.cp s9 hK
  have e9 : K 71 9 = nI (n0 + 32 * p0) := hN0.1.2.1
  simp only [ixr_of, run_s, run_0, rH_undo, rok_i, rok_z, bx_cons, bx_nil, eBP, eC1, eCV1, eCV2, eCV3, eGI, eGO, eGR, jICge, jIFle, eINC4, eLA0, eLI1, eLI2, eLI3, eLI4, eMIN, eRI, eSI2, eSI3, eSI4, eSUB, fH_undo_0, fH_undo_32, fH_undo_63, fH_undo_69, fH_undo_86, bH_undo_0, bH_undo_32, bH_undo_63, bH_undo_69, bH_undo_86, ln_ximages, ln_xthought, rg_xmain_0, rg_xmain_1, rg_xmain_10, rg_xmain_2, rg_xmain_3, rg_xmain_4, rg_xmain_5, rg_xmain_6, rg_xmain_7, ty_xaqueduct, ty_xdiary, ty_xforesight, ty_ximages, ty_xmain, ty_xnow, ty_xopinionReader, ty_xtape, ty_xtasters, ty_xthought, Option.toList_some, Option.toList_none, List.cons_append, List.nil_append, List.length_cons, List.length_nil, List.mem_cons, List.not_mem_nil, or_false, false_or, or_true, true_or, ↓reduceIte, true_and, and_true, Nat.reduceEqDiff, Nat.reduceAdd, Nat.reduceLeDiff, Nat.reduceLT, dl_i, dl_r, dl_n, dl_u, eq_self, not_true_eq_false, not_false_eq_true, n10, n01, nm0, n0m, ty71, e9, imp_t, imp_f]
  refine loop (g - 32 * p0) (32 * p0) K (by omega) (fun i a1 a2 a3 a4 => hK.1 i (by omega)) hN0 (fun a ha => ?_)
  have q1 := d8 a (by omega)
  rw [← hGd] at q1
  have := (d1.2.1 a (by omega)).2.2
  exact q1.mv s9 (fun i e f => hK.1 i (by omega))
