/-! public methods, 16: the town told -/
theorem pS_3_0 {b : Bool} : (shB b).2.2 3 0 = none := ps_n (pS_x (by decide) (by decide +kernel) (by decide +kernel))
theorem pS_0_8 {b : Bool} : (shB b).2.2 0 8 = none := ps_n (pS_x (by decide) (by decide +kernel) (by decide +kernel))
theorem XOq.nil {J : Iv} {o : Nat} (h2 : J o 2 = nI 0) (h3 : J o 3 = nI 0) (h4 : J o 4 = nI 0) (h5 : J o 5 = nI 0) : XOq J o [] := by
  refine ⟨⟨h2, fun i x hx => ?_⟩, h3, h4, ?_⟩
  · have : (stA [])[i]? = none := by simp [stA]
    rw [this] at hx
    cases hx
  · rw [h5]
    exact (bi_f (by simp [stA])).symm
/-- opinions are all apart -/
theorem idO_ne {a b : Nat} (h : idO a) (h2 : idO b) (hn : a ≠ b) : a ≠ b + 1 ∧ b ≠ a + 1 := by
  unfold idO at h h2
  omega
section XRr
variable {Γ : Gm} {l : Launch} {b : Bool} {d : Nat} {J : Iv} {E : Ev} {kr : Kr} {kx : Kxx} {op : Nat → Nat}
theorem x_forgetOpinions (h15 : ∀ v, v < 9 → rget (shB b) E 15 v = .ref (op v)) (hid : ∀ v, v < 9 → idO (op v)) (hinj : ∀ u v, u < 9 → v < 9 → op u = op v → u = v)
    (hk : ∀ K, (∀ i, (∀ v, v < 9 → i ≠ op v) → K i = J i) → (∀ v, v < 9 → K (op v) 2 = nI 0 ∧ K (op v) 3 = nI 0 ∧ K (op v) 4 = nI 0 ∧ K (op v) 5 = nI 0) → kr none K E) : Ex Γ l (shB b) (d + 2) (0, 0) mAq_forgetOpinions [.ref 3] J E kr kx := by
  refine ex_of (ls0 := [some (.ref 3), none]) tAq_forgetOpinions (by decide +kernel) kAq_forgetOpinions rfl (Nat.le_of_ble_eq_true rfl) rfl ?_
  intro go hgo
  have loop : ∀ (g k : Nat) (K : Iv), g + k = 9 → (∀ i, (∀ v, v < 9 → i ≠ op v) → K i = J i) → (∀ v, v < k → K (op v) 2 = nI 0 ∧ K (op v) 3 = nI 0 ∧ K (op v) 4 = nI 0 ∧ K (op v) 5 = nI 0) → go 2 [some (.ref 3), some (.int (nI k))] [] K E (0, 0) := by
    intro g
    induction g with
    | zero =>
      intro k K hg h1 h2
      have : k = 9 := by omega
      subst this
      refine hgo 20 [2] 2 _ _ _ _ _ ?_
      simp only [ixr_of, run_s, run_0, rAq_forgetOpinions, rok_i, rok_z, bx_cons, bx_nil, eAALD106, eBP, eC0, eCV0, eGO, eGR, jICge, eINC1, eLA0, eLI1, eRV, eSI1, fAq_forgetOpinions_0, fAq_forgetOpinions_2, fAq_forgetOpinions_8, fAq_forgetOpinions_23, bAq_forgetOpinions_0, bAq_forgetOpinions_2, bAq_forgetOpinions_8, bAq_forgetOpinions_23, ln_xaqueduct_change, ln_xaqueduct_decided, ln_xaqueduct_fresh, ln_xaqueduct_sight, ln_xopinions, rg_xaqueduct_1, rg_xaqueduct_2, rg_xaqueduct_3, rg_xaqueduct_4, rg_xaqueduct_5, ty_xaqueduct, ty_xaqueduct_change, ty_xaqueduct_decided, ty_xaqueduct_fresh, ty_xaqueduct_sight, ty_xopinions, Option.toList_some, Option.toList_none, List.cons_append, List.nil_append, List.length_cons, List.length_nil, List.mem_cons, List.not_mem_nil, or_false, false_or, or_true, true_or, ↓reduceIte, true_and, and_true, Nat.reduceEqDiff, Nat.reduceAdd, Nat.reduceLeDiff, Nat.reduceLT, dl_i, dl_r, dl_n, dl_u, eq_self, not_true_eq_false, not_false_eq_true, n10, n01, nm0, n0m, nIl, imp_t, imp_f]
      exact hk K h1 h2
    | succ g ih =>
      intro k K hg h1 h2
      have k9 : k < 9 := by omega
      have c1 : (nI 9 ≤ nI k) = False := by rw [nIl (by decide) (by omega)]; exact eq_false (by omega)
      have r15 := h15 k k9
      have hO := (hid k k9).A (b := b) (E := E)
      have tO := hO.1
      refine hgo 20 [2] 2 _ _ _ _ _ ?_
      simp only [ixr_of, run_s, run_0, rAq_forgetOpinions, rok_i, rok_z, bx_cons, bx_nil, eAALD106, eBP, eC0, eCV0, eGO, eGR, jICge, eINC1, eLA0, eLI1, eRV, eSI1, fAq_forgetOpinions_0, fAq_forgetOpinions_2, fAq_forgetOpinions_8, fAq_forgetOpinions_23, bAq_forgetOpinions_0, bAq_forgetOpinions_2, bAq_forgetOpinions_8, bAq_forgetOpinions_23, ln_xaqueduct_change, ln_xaqueduct_decided, ln_xaqueduct_fresh, ln_xaqueduct_sight, ln_xopinions, rg_xaqueduct_1, rg_xaqueduct_2, rg_xaqueduct_3, rg_xaqueduct_4, rg_xaqueduct_5, ty_xaqueduct, ty_xaqueduct_change, ty_xaqueduct_decided, ty_xaqueduct_fresh, ty_xaqueduct_sight, ty_xopinions, Option.toList_some, Option.toList_none, List.cons_append, List.nil_append, List.length_cons, List.length_nil, List.mem_cons, List.not_mem_nil, or_false, false_or, or_true, true_or, ↓reduceIte, true_and, and_true, Nat.reduceEqDiff, Nat.reduceAdd, Nat.reduceLeDiff, Nat.reduceLT, dl_i, dl_r, dl_n, dl_u, eq_self, not_true_eq_false, not_false_eq_true, n10, n01, nm0, n0m, c1, k9, r15, tO, imp_t, imp_f]
      refine call0 (x_oclear hO ?_)
      simp only [ixr_of, run_s, run_0, rAq_forgetOpinions, rok_i, rok_z, bx_cons, bx_nil, eAALD106, eBP, eC0, eCV0, eGO, eGR, jICge, eINC1, eLA0, eLI1, eRV, eSI1, fAq_forgetOpinions_0, fAq_forgetOpinions_2, fAq_forgetOpinions_8, fAq_forgetOpinions_23, bAq_forgetOpinions_0, bAq_forgetOpinions_2, bAq_forgetOpinions_8, bAq_forgetOpinions_23, ln_xaqueduct_change, ln_xaqueduct_decided, ln_xaqueduct_fresh, ln_xaqueduct_sight, ln_xopinions, rg_xaqueduct_1, rg_xaqueduct_2, rg_xaqueduct_3, rg_xaqueduct_4, rg_xaqueduct_5, ty_xaqueduct, ty_xaqueduct_change, ty_xaqueduct_decided, ty_xaqueduct_fresh, ty_xaqueduct_sight, ty_xopinions, Option.toList_some, Option.toList_none, List.cons_append, List.nil_append, List.length_cons, List.length_nil, List.mem_cons, List.not_mem_nil, or_false, false_or, or_true, true_or, ↓reduceIte, true_and, and_true, Nat.reduceEqDiff, Nat.reduceAdd, Nat.reduceLeDiff, Nat.reduceLT, dl_i, dl_r, dl_n, dl_u, eq_self, not_true_eq_false, not_false_eq_true, n10, n01, nm0, n0m, nI_add, imp_t, imp_f]
      refine ih (k + 1) _ (by omega) (fun i hi => ?_) (fun v hv => ?_)
      · have := hi k k9
        rw [← h1 i hi]
        funext j
        rw [up_n (by omega), up_n (by omega), up_n (by omega), up_n (by omega)]
      · by_cases e : v = k
        · subst e
          refine ⟨?_, ?_, ?_, up_s⟩
          · rw [up_n (by omega), up_n (by omega), up_n (by omega), up_s]
          · rw [up_n (by omega), up_n (by omega), up_s]
          · rw [up_n (by omega), up_s]
        · have hne : op v ≠ op k := fun c => e (hinj v k (by omega) k9 c)
          have en : ∀ j, up (up (up (up K (op k) 2 (nI 0)) (op k) 3 (nI 0)) (op k) 4 (nI 0)) (op k) 5 (nI 0) (op v) j = K (op v) j := fun j => by rw [up_n (by omega), up_n (by omega), up_n (by omega), up_n (by omega)]
          rw [en, en, en, en]
          exact h2 v (by omega)
  refine hgo 20 [2] 0 _ _ _ _ _ ?_
  simp only [ixr_of, run_s, run_0, rAq_forgetOpinions, rok_i, rok_z, bx_cons, bx_nil, eAALD106, eBP, eC0, eCV0, eGO, eGR, jICge, eINC1, eLA0, eLI1, eRV, eSI1, fAq_forgetOpinions_0, fAq_forgetOpinions_2, fAq_forgetOpinions_8, fAq_forgetOpinions_23, bAq_forgetOpinions_0, bAq_forgetOpinions_2, bAq_forgetOpinions_8, bAq_forgetOpinions_23, ln_xaqueduct_change, ln_xaqueduct_decided, ln_xaqueduct_fresh, ln_xaqueduct_sight, ln_xopinions, rg_xaqueduct_1, rg_xaqueduct_2, rg_xaqueduct_3, rg_xaqueduct_4, rg_xaqueduct_5, ty_xaqueduct, ty_xaqueduct_change, ty_xaqueduct_decided, ty_xaqueduct_fresh, ty_xaqueduct_sight, ty_xopinions, Option.toList_some, Option.toList_none, List.cons_append, List.nil_append, List.length_cons, List.length_nil, List.mem_cons, List.not_mem_nil, or_false, false_or, or_true, true_or, ↓reduceIte, true_and, and_true, Nat.reduceEqDiff, Nat.reduceAdd, Nat.reduceLeDiff, Nat.reduceLT, dl_i, dl_r, dl_n, dl_u, eq_self, not_true_eq_false, not_false_eq_true, n10, n01, nm0, n0m, imp_t, imp_f]
  exact loop 9 0 J (by omega) (fun _ _ => rfl) (fun v hv => absurd hv (by omega))
end XRr

theorem g_town {q z : Nat} {J : Iv} {E : Ev} {y : Int32} (h : GS q z J E) : StX1 mH_town mM_town [.int y] 1 q z J E := by
  have hG0 := h
  obtain ⟨S, PS, t, op, bk, kb, n, n0, p, c, mk, tp, im, nim, rw', r1, r2, r3, r4, r5, r6, r7, r8, r9⟩ := h
  have hS := r1.1.1.2.2.2.1
  have s9 := hS.1
  have hVS := r1.1.2.2.1
  have hq32 := r4.1.1
  obtain ⟨g3, hT, hXt, -⟩ := id r1.1.1
  have tT : tyc shN E t = 10 := (hT.A (b := true) (E := E)).1
  have v7 := hXt.1
  have h40 := hVS.1
  have hD := r3.1.2.1
  have ty71 : tyc shN E 71 = 3 := dyA_71.1
  obtain ⟨-, ⟨y0, y1, y2, y3, y4, y5, y6⟩, ⟨b1, b2, b3, b4, b5, b6, b7⟩, l1, l2, l3, l4, l5, l6, l7⟩ := (dyA_71 (b := true) (E := E))
  have hm0 := (r4.1.2.1 0 (by have := r4.2.1; omega)).2.2
  obtain ⟨-, n9, a37, b37, a38, b38⟩ := id r3
  have en : J 71 9 = nI n := hD.2.1
  obtain ⟨t1, t2, t3, t4, t5, t6⟩ := id r6
  by_cases hin : nI 0 ≤ y ∧ y ≤ nI tp
  rotate_left
  · refine ⟨(1, 6), q, z, Cst.x, hq32, fun Γ l d kr kx hG _ hxI => ?_⟩
    refine ex_of (ls0 := [some (.ref 0), some (.int y), none, none]) tH_town (by decide +kernel) kH_town rfl (Nat.le_of_ble_eq_true rfl) rfl ?_
    intro go hgo
    refine hgo 20 [] 0 _ _ _ _ _ ?_
    simp only [ixr_of, run_s, run_0, rH_town, rok_i, rok_z, bx_cons, bx_nil, eBP, eC0, eCV0, eCV1, eCV3, eGI, eGR, jIFne, eLA0, eLA3, eLI1, eLI2, ePI, ePR, eRI, eSA3, eSI2, eSUB, fH_town_0, fH_town_44, fH_town_55, bH_town_0, bH_town_44, bH_town_55, ln_ximages, ln_xthought, rg_xmain_0, rg_xmain_1, rg_xmain_10, rg_xmain_2, rg_xmain_3, rg_xmain_4, rg_xmain_5, rg_xmain_6, rg_xmain_7, ty_xaqueduct, ty_xdiary, ty_xforesight, ty_ximages, ty_xmain, ty_xnow, ty_xopinionReader, ty_xtape, ty_xtasters, ty_xthought, Option.toList_some, Option.toList_none, List.cons_append, List.nil_append, List.length_cons, List.length_nil, List.mem_cons, List.not_mem_nil, or_false, false_or, or_true, true_or, ↓reduceIte, true_and, and_true, Nat.reduceEqDiff, Nat.reduceAdd, Nat.reduceLeDiff, Nat.reduceLT, dl_i, dl_r, dl_n, dl_u, eq_self, not_true_eq_false, not_false_eq_true, n10, n01, nm0, n0m, t1, imp_t, imp_f]
    refine ⟨1, 6, fun _ => Nat.le_refl _, fun _ => Nat.le_refl _, x_needInX hG.1.1 hG.2.1 hG.2.2 hin (hxI _ _ (fun Γ l d kr kx hk => ?_))⟩
    exact c_town (by rw [up_n (by omega)]; exact t2) t3 (fun _ => hk _ (hG0.rf (rn := 1) (w := 1) (by decide)).1.un (hG0.rf (rn := 1) (w := 1) (by decide)).2) (fun k e L a f => absurd (by rw [f]; exact rgI (by omega) (by omega) (by omega)) hin) (fun k e L a f => absurd (by rw [f]; exact rgI (by omega) (by omega) (by omega)) hin)
  obtain ⟨m, hm, rfl⟩ := rng (by omega) hin
  obtain ⟨⟨a1, a2, a3, a4, a5, a6, a7, a8⟩, mt, mvs, mo⟩ := id r1.1
  obtain ⟨-, g8, g9, g68, g4, gbg⟩ := id r1
  obtain ⟨d1, d2, d3, d4, d5, d6, d7, d8⟩ := id r4
  obtain ⟨⟨b3, hkb, xb, bv⟩, b11, b36, bm⟩ := id r2
  have hsT : idT (87 - t) := by unfold idT at hT ⊢; omega
  have hTA := hsT.A (b := true) (E := E)
  have tT' := hTA.1
  have gT : (t = 4 ∧ 87 - t = 83) ∨ (t = 83 ∧ 87 - t = 4) := by unfold idT at hT; omega
  have kb2 : kb = 68 ∨ kb = 98 := hkb
  have oo : ∀ v, v < 10 → (20 ≤ op v ∧ op v ≤ 44) ∨ op v = 94 := fun v hv => by
    have := a6 v hv
    unfold idO at this
    omega
  refine ⟨(0, 0), q, z, Cst.no, hq32, fun Γ l d kr kx hG hk _ => ?_⟩
  refine ex_of (ls0 := [some (.ref 0), some (.int (nI m)), none, none]) tH_town (by decide +kernel) kH_town rfl (Nat.le_of_ble_eq_true rfl) rfl ?_
  intro go hgo
  refine hgo 20 [] 0 _ _ _ _ _ ?_
  simp only [ixr_of, run_s, run_0, rH_town, rok_i, rok_z, bx_cons, bx_nil, eBP, eC0, eCV0, eCV1, eCV3, eGI, eGR, jIFne, eLA0, eLA3, eLI1, eLI2, ePI, ePR, eRI, eSA3, eSI2, eSUB, fH_town_0, fH_town_44, fH_town_55, bH_town_0, bH_town_44, bH_town_55, ln_ximages, ln_xthought, rg_xmain_0, rg_xmain_1, rg_xmain_10, rg_xmain_2, rg_xmain_3, rg_xmain_4, rg_xmain_5, rg_xmain_6, rg_xmain_7, ty_xaqueduct, ty_xdiary, ty_xforesight, ty_ximages, ty_xmain, ty_xnow, ty_xopinionReader, ty_xtape, ty_xtasters, ty_xthought, Option.toList_some, Option.toList_none, List.cons_append, List.nil_append, List.length_cons, List.length_nil, List.mem_cons, List.not_mem_nil, or_false, false_or, or_true, true_or, ↓reduceIte, true_and, and_true, Nat.reduceEqDiff, Nat.reduceAdd, Nat.reduceLeDiff, Nat.reduceLT, dl_i, dl_r, dl_n, dl_u, eq_self, not_true_eq_false, not_false_eq_true, n10, n01, nm0, n0m, t1, imp_t, imp_f]
  refine call0 (x_needIn hin ?_)
  simp only [ixr_of, run_s, run_0, rH_town, rok_i, rok_z, bx_cons, bx_nil, eBP, eC0, eCV0, eCV1, eCV3, eGI, eGR, jIFne, eLA0, eLA3, eLI1, eLI2, ePI, ePR, eRI, eSA3, eSI2, eSUB, fH_town_0, fH_town_44, fH_town_55, bH_town_0, bH_town_44, bH_town_55, ln_ximages, ln_xthought, rg_xmain_0, rg_xmain_1, rg_xmain_10, rg_xmain_2, rg_xmain_3, rg_xmain_4, rg_xmain_5, rg_xmain_6, rg_xmain_7, ty_xaqueduct, ty_xdiary, ty_xforesight, ty_ximages, ty_xmain, ty_xnow, ty_xopinionReader, ty_xtape, ty_xtasters, ty_xthought, Option.toList_some, Option.toList_none, List.cons_append, List.nil_append, List.length_cons, List.length_nil, List.mem_cons, List.not_mem_nil, or_false, false_or, or_true, true_or, ↓reduceIte, true_and, and_true, Nat.reduceEqDiff, Nat.reduceAdd, Nat.reduceLeDiff, Nat.reduceLT, dl_i, dl_r, dl_n, dl_u, eq_self, not_true_eq_false, not_false_eq_true, n10, n01, nm0, n0m, imp_t, imp_f]
  refine call0 (x_open t1 t3 (by omega) ?_)
  simp only [ixr_of, run_s, run_0, rH_town, rok_i, rok_z, bx_cons, bx_nil, eBP, eC0, eCV0, eCV1, eCV3, eGI, eGR, jIFne, eLA0, eLA3, eLI1, eLI2, ePI, ePR, eRI, eSA3, eSI2, eSUB, fH_town_0, fH_town_44, fH_town_55, bH_town_0, bH_town_44, bH_town_55, ln_ximages, ln_xthought, rg_xmain_0, rg_xmain_1, rg_xmain_10, rg_xmain_2, rg_xmain_3, rg_xmain_4, rg_xmain_5, rg_xmain_6, rg_xmain_7, ty_xaqueduct, ty_xdiary, ty_xforesight, ty_ximages, ty_xmain, ty_xnow, ty_xopinionReader, ty_xtape, ty_xtasters, ty_xthought, Option.toList_some, Option.toList_none, List.cons_append, List.nil_append, List.length_cons, List.length_nil, List.mem_cons, List.not_mem_nil, or_false, false_or, or_true, true_or, ↓reduceIte, true_and, and_true, Nat.reduceEqDiff, Nat.reduceAdd, Nat.reduceLeDiff, Nat.reduceLT, dl_i, dl_r, dl_n, dl_u, eq_self, not_true_eq_false, not_false_eq_true, n10, n01, nm0, n0m, g8, tT', imp_t, imp_f]
  have hTS : TS (xt J m) m (op0 J m) 0 := ⟨op0_t t4 (by omega), op0_0.2.2.2.2.2⟩
  refine call0 (x_readTown hG.1 hTA (by omega) hTS (fun S' K hok hF h6 hX hV => ?_) (fun e K her hF hE => ?_))
  · simp only [ixr_of, run_s, run_0, rH_town, rok_i, rok_z, bx_cons, bx_nil, eBP, eC0, eCV0, eCV1, eCV3, eGI, eGR, jIFne, eLA0, eLA3, eLI1, eLI2, ePI, ePR, eRI, eSA3, eSI2, eSUB, fH_town_0, fH_town_44, fH_town_55, bH_town_0, bH_town_44, bH_town_55, ln_ximages, ln_xthought, rg_xmain_0, rg_xmain_1, rg_xmain_10, rg_xmain_2, rg_xmain_3, rg_xmain_4, rg_xmain_5, rg_xmain_6, rg_xmain_7, ty_xaqueduct, ty_xdiary, ty_xforesight, ty_ximages, ty_xmain, ty_xnow, ty_xopinionReader, ty_xtape, ty_xtasters, ty_xthought, Option.toList_some, Option.toList_none, List.cons_append, List.nil_append, List.length_cons, List.length_nil, List.mem_cons, List.not_mem_nil, or_false, false_or, or_true, true_or, ↓reduceIte, true_and, and_true, Nat.reduceEqDiff, Nat.reduceAdd, Nat.reduceLeDiff, Nat.reduceLT, dl_i, dl_r, dl_n, dl_u, eq_self, not_true_eq_false, not_false_eq_true, n10, n01, nm0, n0m, imp_t, imp_f]
    refine call0 (x_close ?_)
    simp only [ixr_of, run_s, run_0, rH_town, rok_i, rok_z, bx_cons, bx_nil, eBP, eC0, eCV0, eCV1, eCV3, eGI, eGR, jIFne, eLA0, eLA3, eLI1, eLI2, ePI, ePR, eRI, eSA3, eSI2, eSUB, fH_town_0, fH_town_44, fH_town_55, bH_town_0, bH_town_44, bH_town_55, ln_ximages, ln_xthought, rg_xmain_0, rg_xmain_1, rg_xmain_10, rg_xmain_2, rg_xmain_3, rg_xmain_4, rg_xmain_5, rg_xmain_6, rg_xmain_7, ty_xaqueduct, ty_xdiary, ty_xforesight, ty_ximages, ty_xmain, ty_xnow, ty_xopinionReader, ty_xtape, ty_xtasters, ty_xthought, Option.toList_some, Option.toList_none, List.cons_append, List.nil_append, List.length_cons, List.length_nil, List.mem_cons, List.not_mem_nil, or_false, false_or, or_true, true_or, ↓reduceIte, true_and, and_true, Nat.reduceEqDiff, Nat.reduceAdd, Nat.reduceLeDiff, Nat.reduceLT, dl_i, dl_r, dl_n, dl_u, eq_self, not_true_eq_false, not_false_eq_true, n10, n01, nm0, n0m, a1, g8, tT', tT, imp_t, imp_f]
    refine ⟨pS_3_0, pS_0_8, ?_⟩
    obtain ⟨F, hFe⟩ : ∃ F : Ev, F = (upR (upR E.1 3 0 (87 - t + 1)) 0 8 (t + 1), E.2) := ⟨_, rfl⟩
    rw [← hFe]
    have f1 : EX true (fun a j => (a = 3 ∧ j = 0) ∨ (a = 0 ∧ j = 8)) E F := by
      have z1 : EX true (fun a j => (a = 3 ∧ j = 0) ∨ (a = 0 ∧ j = 8)) E (upR E.1 3 0 (87 - t + 1), E.2) := EX.up (Or.inl ⟨rfl, rfl⟩)
      refine z1.tr ?_
      rw [hFe]
      exact EX.up (E := (upR E.1 3 0 (87 - t + 1), E.2)) (Or.inr ⟨rfl, rfl⟩)
    have f30 : rget shN F 3 0 = .ref (87 - t) := by
      have g : EX true (fun a j => a = 0 ∧ j = 8) (upR E.1 3 0 (87 - t + 1), E.2) F := by rw [hFe]; exact EX.up (E := (upR E.1 3 0 (87 - t + 1), E.2)) ⟨rfl, rfl⟩
      rw [g.1 3 0 (by rw [ty_xaqueduct]; decide) (by omega)]
      exact upR_r pS_3_0
    have f08 : rget shN F 0 8 = .ref t := by rw [hFe]; exact upR_r (E := (upR E.1 3 0 (87 - t + 1), E.2)) pS_0_8
    have f9 : tyc shN F 999999 = 0 := by rw [hFe]; exact r9.2.1
    have t15 : tyc shN E 15 ≠ 0 := by rw [ty_xopinions]; decide
    have f15 : ∀ v, v < 9 → rget shN F 15 v = .ref (op v) := fun v hv => by rw [f1.1 15 v t15 (by omega)]; exact a5 v hv
    have f583 : rget shN F 58 3 = .ref kb := by rw [f1.1 58 3 (by rw [ty_xtasters]; decide) (by omega)]; exact b3
    have tT2 : tyc shN F (87 - t) = 10 := (hsT.A (b := true) (E := F)).1
    have hBA := hkb.A (b := true) (E := F)
    have tB := hBA.1
    refine call0 (x_forgetOpinions f15 (fun v hv => a6 v (by omega)) (fun u v hu hv => a7 u v (by omega) (by omega)) (fun K1 k1 k1o => ?_))
    simp only [ixr_of, run_s, run_0, rH_town, rok_i, rok_z, bx_cons, bx_nil, eBP, eC0, eCV0, eCV1, eCV3, eGI, eGR, jIFne, eLA0, eLA3, eLI1, eLI2, ePI, ePR, eRI, eSA3, eSI2, eSUB, fH_town_0, fH_town_44, fH_town_55, bH_town_0, bH_town_44, bH_town_55, ln_ximages, ln_xthought, rg_xmain_0, rg_xmain_1, rg_xmain_10, rg_xmain_2, rg_xmain_3, rg_xmain_4, rg_xmain_5, rg_xmain_6, rg_xmain_7, ty_xaqueduct, ty_xdiary, ty_xforesight, ty_ximages, ty_xmain, ty_xnow, ty_xopinionReader, ty_xtape, ty_xtasters, ty_xthought, Option.toList_some, Option.toList_none, List.cons_append, List.nil_append, List.length_cons, List.length_nil, List.mem_cons, List.not_mem_nil, or_false, false_or, or_true, true_or, ↓reduceIte, true_and, and_true, Nat.reduceEqDiff, Nat.reduceAdd, Nat.reduceLeDiff, Nat.reduceLT, dl_i, dl_r, dl_n, dl_u, eq_self, not_true_eq_false, not_false_eq_true, n10, n01, nm0, n0m, f583, tB, imp_t, imp_f]
    refine call0 (x_bclear hBA ?_)
    simp only [ixr_of, run_s, run_0, rH_town, rok_i, rok_z, bx_cons, bx_nil, eBP, eC0, eCV0, eCV1, eCV3, eGI, eGR, jIFne, eLA0, eLA3, eLI1, eLI2, ePI, ePR, eRI, eSA3, eSI2, eSUB, fH_town_0, fH_town_44, fH_town_55, bH_town_0, bH_town_44, bH_town_55, ln_ximages, ln_xthought, rg_xmain_0, rg_xmain_1, rg_xmain_10, rg_xmain_2, rg_xmain_3, rg_xmain_4, rg_xmain_5, rg_xmain_6, rg_xmain_7, ty_xaqueduct, ty_xdiary, ty_xforesight, ty_ximages, ty_xmain, ty_xnow, ty_xopinionReader, ty_xtape, ty_xtasters, ty_xthought, Option.toList_some, Option.toList_none, List.cons_append, List.nil_append, List.length_cons, List.length_nil, List.mem_cons, List.not_mem_nil, or_false, false_or, or_true, true_or, ↓reduceIte, true_and, and_true, Nat.reduceEqDiff, Nat.reduceAdd, Nat.reduceLeDiff, Nat.reduceLT, dl_i, dl_r, dl_n, dl_u, eq_self, not_true_eq_false, not_false_eq_true, n10, n01, nm0, n0m, imp_t, imp_f]
    refine call0 (x_forget ?_)
    simp only [ixr_of, run_s, run_0, rH_town, rok_i, rok_z, bx_cons, bx_nil, eBP, eC0, eCV0, eCV1, eCV3, eGI, eGR, jIFne, eLA0, eLA3, eLI1, eLI2, ePI, ePR, eRI, eSA3, eSI2, eSUB, fH_town_0, fH_town_44, fH_town_55, bH_town_0, bH_town_44, bH_town_55, ln_ximages, ln_xthought, rg_xmain_0, rg_xmain_1, rg_xmain_10, rg_xmain_2, rg_xmain_3, rg_xmain_4, rg_xmain_5, rg_xmain_6, rg_xmain_7, ty_xaqueduct, ty_xdiary, ty_xforesight, ty_ximages, ty_xmain, ty_xnow, ty_xopinionReader, ty_xtape, ty_xtasters, ty_xthought, Option.toList_some, Option.toList_none, List.cons_append, List.nil_append, List.length_cons, List.length_nil, List.mem_cons, List.not_mem_nil, or_false, false_or, or_true, true_or, ↓reduceIte, true_and, and_true, Nat.reduceEqDiff, Nat.reduceAdd, Nat.reduceLeDiff, Nat.reduceLT, dl_i, dl_r, dl_n, dl_u, eq_self, not_true_eq_false, not_false_eq_true, n10, n01, nm0, n0m, f30, tT2, imp_t, imp_f]
    obtain ⟨K2, hK2⟩ : ∃ K2, K2 = up (up (up (up K1 kb 2 (nI 0)) kb 3 (nI 0)) 58 4 (nI 0)) 0 12 (nI 0) := ⟨_, rfl⟩
    rw [← hK2]
    have k2 : ∀ i, i ≠ 0 → i ≠ 58 → i ≠ kb → K2 i = K1 i := fun i a c e => by
      rw [hK2]
      funext j
      rw [up_n (by omega), up_n (by omega), up_n (by omega), up_n (by omega)]
    have no : ∀ i, i < 16 ∨ (47 ≤ i ∧ i < 94) ∨ 95 ≤ i → ∀ v, v < 9 → i ≠ op v := fun i hi v hv => by
      have := oo v (by omega)
      omega
    have k2k : ∀ i, i < 16 ∨ (47 ≤ i ∧ i < 94) ∨ 95 ≤ i → i ≠ 0 → i ≠ 1 → i ≠ 58 → i ≠ kb → K2 i = K i := fun i a c e f g => by
      rw [k2 i c f g, k1 i (no i a)]
      funext j
      exact up_n (by omega)
    have xT : XTn K2 (87 - t) S' := hX.mv (fun i a c => k2k i (by omega) (by omega) (by omega) (by omega) (by omega))
    have s9' := hV.1
    refine call0 (x_dbegin (lg := fun v => vz S' v 3) dyA_71 (hsT.A (b := true) (E := F)) xT.1 s9' (fun v hv => ⟨vz_5 hV, (xT.2.2.2.2.2.2.1 v (by omega)).2.2.1⟩) (by omega) (fun K3 hK3 => ?_))
    simp only [ixr_of, run_s, run_0, rH_town, rok_i, rok_z, bx_cons, bx_nil, eBP, eC0, eCV0, eCV1, eCV3, eGI, eGR, jIFne, eLA0, eLA3, eLI1, eLI2, ePI, ePR, eRI, eSA3, eSI2, eSUB, fH_town_0, fH_town_44, fH_town_55, bH_town_0, bH_town_44, bH_town_55, ln_ximages, ln_xthought, rg_xmain_0, rg_xmain_1, rg_xmain_10, rg_xmain_2, rg_xmain_3, rg_xmain_4, rg_xmain_5, rg_xmain_6, rg_xmain_7, ty_xaqueduct, ty_xdiary, ty_xforesight, ty_ximages, ty_xmain, ty_xnow, ty_xopinionReader, ty_xtape, ty_xtasters, ty_xthought, Option.toList_some, Option.toList_none, List.cons_append, List.nil_append, List.length_cons, List.length_nil, List.mem_cons, List.not_mem_nil, or_false, false_or, or_true, true_or, ↓reduceIte, true_and, and_true, Nat.reduceEqDiff, Nat.reduceAdd, Nat.reduceLeDiff, Nat.reduceLT, dl_i, dl_r, dl_n, dl_u, eq_self, not_true_eq_false, not_false_eq_true, n10, n01, nm0, n0m, imp_t, imp_f]
    have hDF : DiE true F q mk := d1.ex f1 (fun _ => by omega) (fun y j hy => by omega)
    refine call0 (x_dibegin (n := 0) hDF hK3.2.1.2.2.1 (by omega) f9 (fun e => absurd e (by omega)) (fun _ K4 hK4 => ?_) (fun e => absurd e (by omega)))
    have k3 : ∀ i, ¬ (71 ≤ i ∧ i < 79) → K3 i = K2 i := fun i a => hK3.1 i (by omega)
    have k4 : ∀ i, i ≠ 79 → i < 1000000 → K4 i = K3 i := fun i a c => by
      rw [hK4.1 i (by omega)]
      funext j
      exact up_n (by omega)
    have k42 : ∀ i, ¬ (71 ≤ i ∧ i ≤ 79) → i < 1000000 → K4 i = K2 i := fun i a c => by rw [k4 i (by omega) c, k3 i (by omega)]
    have ev : K4 (87 - t) 10 = nI S'.1.1 := by rw [k42 _ (by omega) (by omega)]; exact xT.1
    simp only [ixr_of, run_s, run_0, rH_town, rok_i, rok_z, bx_cons, bx_nil, eBP, eC0, eCV0, eCV1, eCV3, eGI, eGR, jIFne, eLA0, eLA3, eLI1, eLI2, ePI, ePR, eRI, eSA3, eSI2, eSUB, fH_town_0, fH_town_44, fH_town_55, bH_town_0, bH_town_44, bH_town_55, ln_ximages, ln_xthought, rg_xmain_0, rg_xmain_1, rg_xmain_10, rg_xmain_2, rg_xmain_3, rg_xmain_4, rg_xmain_5, rg_xmain_6, rg_xmain_7, ty_xaqueduct, ty_xdiary, ty_xforesight, ty_ximages, ty_xmain, ty_xnow, ty_xopinionReader, ty_xtape, ty_xtasters, ty_xthought, Option.toList_some, Option.toList_none, List.cons_append, List.nil_append, List.length_cons, List.length_nil, List.mem_cons, List.not_mem_nil, or_false, false_or, or_true, true_or, ↓reduceIte, true_and, and_true, Nat.reduceEqDiff, Nat.reduceAdd, Nat.reduceLeDiff, Nat.reduceLT, dl_i, dl_r, dl_n, dl_u, eq_self, not_true_eq_false, not_false_eq_true, n10, n01, nm0, n0m, f30, tT2, ev, imp_t, imp_f]
    have k4j : ∀ i, i < 1000000 → i < 16 ∨ (47 ≤ i ∧ i < 94) ∨ 95 ≤ i → i ≠ 0 → i ≠ 1 → i ≠ 58 → i ≠ kb → ¬ (71 ≤ i ∧ i ≤ 79) → ¬ (87 - t ≤ i ∧ i ≤ 87 - t + 10) → K4 i = J i := fun i h0 a c e f g h j => by rw [k42 i h h0, k2k i a c e f g, hF.1 i e j, op0_o e]
    have km : ∀ i, 500000 ≤ i → i < 1000000 → K4 i = J i := fun i a c => k4j i c (by omega) (by omega) (by omega) (by omega) (by omega) (by omega) (by omega)
    have etx : tx K4 m = xt J m := xt_tx t5 (by omega) (km 500001 (by omega) (by omega))
    refine hk _ K4 F (fun Γ l d kr kx hk2 => c_town (by rw [km 500000 (by omega) (by omega)]; exact t2) t3 (fun c => absurd hin c) (fun m' e L z3 z5 hok' _ => ?_) (fun m' S2 L z3 z5 hok' hL => ?_))
    · rw [nI_eq (by omega) (by omega)] at z5
      subst z5
      rw [etx, hok] at hok'
      cases hok'
    rw [nI_eq (by omega) (by omega)] at z5
    subst z5
    rw [etx, hok] at hok'
    have : S' = S2 := Except.ok.inj hok'
    subst this
    obtain ⟨q1, q2, q3, q0, q5, q6, ⟨w0, w1, w2, w3, w4, w5, w6⟩, q7, qb, q24, q25⟩ := hL
    have lc : ∀ i, i < 500000 ∨ 1000000 ≤ i → L i = K4 i := fun i a => q1 i (by omega) (by omega) (by omega) (by omega) (by omega) (by omega) (by omega) (by omega) (by omega) (by omega) (by omega) (by omega) (by omega)
    have l2 : L 500002 = J 500002 := by rw [q1 500002 (by omega) (by omega) (by omega) (by omega) (by omega) (by omega) (by omega) (by omega) (by omega) (by omega) (by omega) (by omega) (by omega), km 500002 (by omega) (by omega)]
    have lmt : MT L S' := ⟨w2, w3, fun c hc => ⟨w6 c 0 hc (by omega), w6 c 1 hc (by omega), w6 c 2 hc (by omega)⟩, fun v hv j hj => w5 v j hv hj⟩
    have lmo : MO L S'.1.1 (fun _ => []) := fun v hv => ⟨(q7 v (by omega)).1, fun a x hx => by simp at hx, fun a x hx => by simp [cdA] at hx, fun a ha => absurd ha (by simp), by simp [stA], by simp⟩
    have lvs : VS L S'.1.1 S'.1.2 := VS.of w0 w1 hV lmt lmo
    have nq3 : NQ K3 71 S' 0 (L 500127) (nI 0) (nI 0) (fun _ => nI 0) := NQ.beg (I := L) xT hV hK3 qb
    have nq4 : NQ (up K3 79 1 (nI 0)) 71 S' 0 (L 500127) (nI 0) (nI 0) (fun _ => nI 0) := nq3.mv s9' (fun i _ _ => by funext j; exact up_n (by omega))
    have mk0 := (d1.2.1 0 (by omega)).2.2
    have l37 : L 500000 37 = nI 0 := q3 37 (by omega)
    have l38 : L 500000 38 = nI 0 := q3 38 (by omega)
    have z0 : K4 0 = K2 0 := k42 0 (by omega) (by omega)
    have z13 : ∀ j, j ≠ 12 → K2 0 j = J 0 j := fun j hj => by
      rw [hK2, up_n (by omega), up_n (by omega), up_n (by omega), up_n (by omega), k1 0 (no 0 (by omega)), up_n (by omega), hF.1 0 (by omega) (by omega), op0_o (by omega)]
    have pos : ∀ S : Tn, 0 < 2 ^ S.1.1 := fun S => Nat.two_pow_pos _
    have cy : ∀ y, NQ L y S' 0 (L 500127) (nI 0) (nI 0) (fun _ => nI 0) → NQ L y S' 0 (L 500124) (L 500000 37) (L 500000 38) (L 500123) := fun y h => h.cgr (fun k _ => by rw [q24]) l37 l38 (fun v hv => (q7 v hv).2.2)
    refine hk2 L ⟨S', fun _ => [], 87 - t, op, [], kb, 0, 0, 0, 0, mk, 0, 0, nim, rw', ⟨⟨⟨f30, hsT, xT.mv (fun i b e => by rw [lc i (by omega), k42 i (by omega) (by omega)]), hV, f15, a6, a7, fun v hv => ⟨XOq.nil ?_ ?_ ?_ ?_, by simp [stA], by simp⟩⟩, lmt, lvs, lmo⟩, by rw [f08, show 87 - (87 - t) = t by omega], by rw [f1.1 0 9 (by rw [ty_xmain]; decide) (by omega)]; exact g9, fun v hv => ?_, w4, qb⟩, ⟨⟨f583, hkb, ⟨?_, ?_, fun i x hx => by simp at hx⟩, ⟨by simp, fun x hx => absurd hx (by simp)⟩⟩, by rw [f1.1 0 11 (by rw [ty_xmain]; decide) (by omega)]; exact b11, q3 36 (by omega), fun k x hx => by simp at hx⟩, ⟨⟨SayT.rf, cy 71 ?_⟩, by omega, l37, pos S', l38, pos S'⟩, ⟨hDF, d2, ?_, Nat.le_refl _, by omega, q3 39 (by omega), ?_, fun a ha => ?_⟩, ⟨?_, by omega, q3 40 (by omega), fun m hm => absurd hm (by omega)⟩, r6.rd ?_ q5 ?_ ?_, ?_, Or.inl ?_, r9.ex f1 (by omega) f9⟩ q0
    · rw [lc _ (by have := oo v (by omega); omega), k42 _ (by have := oo v (by omega); omega) (by have := oo v (by omega); omega), k2 _ (by have := oo v (by omega); omega) (by have := oo v (by omega); omega) (by have := oo v (by omega); omega)]
      exact (k1o v hv).1
    · rw [lc _ (by have := oo v (by omega); omega), k42 _ (by have := oo v (by omega); omega) (by have := oo v (by omega); omega), k2 _ (by have := oo v (by omega); omega) (by have := oo v (by omega); omega) (by have := oo v (by omega); omega)]
      exact (k1o v hv).2.1
    · rw [lc _ (by have := oo v (by omega); omega), k42 _ (by have := oo v (by omega); omega) (by have := oo v (by omega); omega), k2 _ (by have := oo v (by omega); omega) (by have := oo v (by omega); omega) (by have := oo v (by omega); omega)]
      exact (k1o v hv).2.2.1
    · rw [lc _ (by have := oo v (by omega); omega), k42 _ (by have := oo v (by omega); omega) (by have := oo v (by omega); omega), k2 _ (by have := oo v (by omega); omega) (by have := oo v (by omega); omega) (by have := oo v (by omega); omega)]
      exact (k1o v hv).2.2.2
    · rw [(q7 v (by omega)).2.1]
      exact (bi_f (by simp [stA])).symm
    · rw [lc _ (by omega), k42 _ (by omega) (by omega), hK2, up_n (by omega), up_n (by omega), up_n (by omega), up_s]
      rfl
    · rw [lc _ (by omega), k42 _ (by omega) (by omega), hK2, up_n (by omega), up_n (by omega), up_s]
      rfl
    · exact (nq4.mv s9' (fun i a e => hK4.1 i (by omega))).mv s9' (fun i a e => lc i (by omega))
    · rw [lc 79 (by omega), hK4.1 79 (by omega), up_s]
    · rw [q24, ← q25]
      rfl
    · have : a = 0 := by omega
      subst this
      have hh := cy (mk 0) ((nq4.cp s9' hK4).mv s9' (fun i a e => lc i (by omega)))
      rw [q24, ← q25] at hh
      exact hh
    · rw [lc 0 (by omega), z0, hK2, up_s]
    · rw [lc 1 (by omega), k42 1 (by omega) (by omega), k2 1 (by omega) (by omega) (by omega), k1 1 (no 1 (by omega)), up_s]
    · rw [lc 2 (by omega)]
      exact k4j 2 (by omega) (by omega) (by omega) (by omega) (by omega) (by omega) (by omega) (by omega)
    · rw [lc 1 (by omega), k42 1 (by omega) (by omega), k2 1 (by omega) (by omega) (by omega), k1 1 (no 1 (by omega)), up_n (by omega), h6, q6]
    · unfold R7
      rw [lc 0 (by omega), z0, l2, z13 13 (by omega), z13 14 (by omega)]
      exact r7
    · rw [lc 58 (by omega), k42 58 (by omega) (by omega), hK2, up_n (by omega), up_s]
  · simp only [ixr_of, run_s, run_0, rH_town, rok_i, rok_z, bx_cons, bx_nil, eBP, eC0, eCV0, eCV1, eCV3, eGI, eGR, jIFne, eLA0, eLA3, eLI1, eLI2, ePI, ePR, eRI, eSA3, eSI2, eSUB, fH_town_0, fH_town_44, fH_town_55, bH_town_0, bH_town_44, bH_town_55, ln_ximages, ln_xthought, rg_xmain_0, rg_xmain_1, rg_xmain_10, rg_xmain_2, rg_xmain_3, rg_xmain_4, rg_xmain_5, rg_xmain_6, rg_xmain_7, ty_xaqueduct, ty_xdiary, ty_xforesight, ty_ximages, ty_xmain, ty_xnow, ty_xopinionReader, ty_xtape, ty_xtasters, ty_xthought, Option.toList_some, Option.toList_none, List.cons_append, List.nil_append, List.length_cons, List.length_nil, List.mem_cons, List.not_mem_nil, or_false, false_or, or_true, true_or, ↓reduceIte, true_and, and_true, Nat.reduceEqDiff, Nat.reduceAdd, Nat.reduceLeDiff, Nat.reduceLT, dl_i, dl_r, dl_n, dl_u, eq_self, not_true_eq_false, not_false_eq_true, n10, n01, nm0, n0m, imp_t, imp_f]
    refine call0 (x_close ?_)
    obtain ⟨K2, hK2⟩ : ∃ K2, K2 = up K 1 1 (nI 0) := ⟨_, rfl⟩
    rw [← hK2]
    have k2 : ∀ i, i ≠ 1 → K2 i = K i := fun i a => by
      rw [hK2]
      funext j
      rw [up_n (by omega)]
    have e5 : K2 1 5 = nI e.1 := by rw [hK2, up_n (by omega)]; exact hE.1
    simp only [ixr_of, run_s, run_0, rH_town, rok_i, rok_z, bx_cons, bx_nil, eBP, eC0, eCV0, eCV1, eCV3, eGI, eGR, jIFne, eLA0, eLA3, eLI1, eLI2, ePI, ePR, eRI, eSA3, eSI2, eSUB, fH_town_0, fH_town_44, fH_town_55, bH_town_0, bH_town_44, bH_town_55, ln_ximages, ln_xthought, rg_xmain_0, rg_xmain_1, rg_xmain_10, rg_xmain_2, rg_xmain_3, rg_xmain_4, rg_xmain_5, rg_xmain_6, rg_xmain_7, ty_xaqueduct, ty_xdiary, ty_xforesight, ty_ximages, ty_xmain, ty_xnow, ty_xopinionReader, ty_xtape, ty_xtasters, ty_xthought, Option.toList_some, Option.toList_none, List.cons_append, List.nil_append, List.length_cons, List.length_nil, List.mem_cons, List.not_mem_nil, or_false, false_or, or_true, true_or, ↓reduceIte, true_and, and_true, Nat.reduceEqDiff, Nat.reduceAdd, Nat.reduceLeDiff, Nat.reduceLT, dl_i, dl_r, dl_n, dl_u, eq_self, not_true_eq_false, not_false_eq_true, n10, n01, nm0, n0m, e5, imp_t, imp_f]
    have kk : ∀ i, i ≠ 1 → ¬ (87 - t ≤ i ∧ i ≤ 87 - t + 10) → K2 i = J i := fun i a e => by rw [k2 i a, hF.1 i a e, op0_o a]
    have km : ∀ i, 500000 ≤ i → K2 i = J i := fun i a => kk i (by omega) (by omega)
    have etx : tx K2 m = xt J m := xt_tx t5 (by omega) (km 500001 (by omega))
    refine hk _ K2 E (fun Γ l d kr kx hk2 => c_town (by rw [km 500000 (by omega)]; exact t2) t3 (fun c => absurd hin c) (fun m' e' L z3 z5 her' hL => ?_) (fun m' ps' L z3 z5 hok' _ => ?_))
    rotate_left
    · rw [nI_eq (by omega) (by omega)] at z5
      subst z5
      rw [etx, her] at hok'
      cases hok'
    rw [nI_eq (by omega) (by omega)] at z5
    subst z5
    rw [etx, her] at her'
    have : e = e' := Except.error.inj her'
    subst this
    obtain ⟨q1, q2, q0, q5, q6⟩ := hL
    have lm : ∀ i, 500000 < i → i ≠ 500003 → ¬ (500006 ≤ i ∧ i < 500015) → ¬ (500026 ≤ i ∧ i < 500046) → L i = J i := fun i a c e f => by rw [q1 i (by omega) c e f, km i (by omega)]
    have lc : ∀ i, i < 500000 ∨ 1000000 ≤ i → L i = K2 i := fun i a => q1 i (by omega) (by omega) (by omega) (by omega)
    have ll : ∀ i, i < 500000 ∨ 1000000 ≤ i → i ≠ 1 → ¬ (87 - t ≤ i ∧ i ≤ 87 - t + 10) → L i = J i := fun i a c f => by rw [lc i a, kk i c f]
    have lf : ∀ j, 8 < j → L 500000 j = J 500000 j := fun j a => by rw [q2 j a, km 500000 (by omega)]
    refine hk2 L (GS.tp (tp' := 0) r1 r2 r3 r4 r5 r7 r8 r9 EX.rf r9.2.1 (fun i a c => ll i (by omega) (by omega) (by omega)) (fun v hv => ?_) (fun i a c => ll i (by omega) (by omega) (by omega)) (fun i hi => ll i (by omega) (by omega) (by omega)) (fun i hi => lm i (by unfold mL tw at hi; omega) (by unfold mL tw at hi; omega) (by unfold mL tw at hi; omega) (by unfold mL tw at hi; omega)) (fun j a c => lf j (by omega)) (r6.rd ?_ q5 (ll 2 (by omega) (by omega) (by omega)) ?_)) q0
    · have ho := oo v (by omega)
      exact ⟨ll _ (by omega) (by omega) (by omega), ll _ (by omega) (by omega) (by omega)⟩
    · rw [lc 1 (by omega), hK2, up_s]
    · rw [lc 1 (by omega), hK2, up_n (by omega), hE.2, q6]
