/-! public methods, 15: opinions told -/
theorem rl_15 {j : Nat} : rlk rTl 15 j = none := by
  have : ∀ (L : List (Nat × Nat × Nat)), (L.all (fun q => decide (¬ q.1 = 15))) = true → rlk L 15 j = none := by
    intro L
    induction L with
    | nil => intro _; rfl
    | cons q t ih =>
      intro hq
      simp only [List.all_cons, Bool.and_eq_true, decide_eq_true_eq] at hq
      unfold rlk
      rw [if_neg (fun c => hq.1 c.1)]
      exact ih hq.2
  exact this rTl (by decide +kernel)
theorem pS_15 {b : Bool} {j : Nat} : (shB b).2.2 15 j = none := ps_n (pS_x (by decide) (by decide +kernel) rl_15)
theorem pS_0_9 {b : Bool} : (shB b).2.2 0 9 = none := ps_n (pS_x (by decide) (by decide +kernel) (by decide +kernel))
section XRq
variable {Γ : Gm} {l : Launch} {b : Bool} {d : Nat} {J : Iv} {E : Ev} {kr : Kr} {kx : Kxx} {v o o' : Nat}
theorem x_opinionOf (hv : v < 9) (h15 : rget (shB b) E 15 v = .ref o) (hk : kr (some (.ref o)) J E) : Ex Γ l (shB b) (d + 1) (0, 0) mAq_opinionOf [.ref 3, .int (nI v)] J E kr kx := by
  refine ex_of (ls0 := [some (.ref 3), some (.int (nI v))]) tAq_opinionOf (by decide +kernel) kAq_opinionOf rfl (Nat.le_of_ble_eq_true rfl) rfl ?_
  intro go hgo
  refine hgo 20 [] 0 _ _ _ _ _ ?_
  simp only [ixr_of, run_s, run_0, rAq_opinionOf, rok_i, rok_z, bx_cons, bx_nil, eAALD106, eGR, eLA0, eLI1, eRA, fAq_opinionOf_0, bAq_opinionOf_0, ln_xaqueduct_change, ln_xaqueduct_decided, ln_xaqueduct_fresh, ln_xaqueduct_sight, ln_xopinions, rg_xaqueduct_1, rg_xaqueduct_2, rg_xaqueduct_3, rg_xaqueduct_4, rg_xaqueduct_5, ty_xaqueduct, ty_xaqueduct_change, ty_xaqueduct_decided, ty_xaqueduct_fresh, ty_xaqueduct_sight, ty_xopinions, Option.toList_some, Option.toList_none, List.cons_append, List.nil_append, List.length_cons, List.length_nil, List.mem_cons, List.not_mem_nil, or_false, false_or, or_true, true_or, ↓reduceIte, true_and, and_true, Nat.reduceEqDiff, Nat.reduceAdd, Nat.reduceLeDiff, Nat.reduceLT, dl_i, dl_r, dl_n, dl_u, eq_self, not_true_eq_false, not_false_eq_true, n10, n01, nm0, n0m, hv, h15, imp_t, imp_f]
  exact ⟨⟨_, rfl⟩, hk⟩
theorem x_tell (hv : v < 9) (h15 : rget (shB b) E 15 v = .ref o) (t6 : tyc (shB b) E o' = 6) (hk : kr (some (.ref o)) J (upR E.1 15 v (o' + 1), E.2)) : Ex Γ l (shB b) (d + 1) (0, 0) mAq_tell [.ref 3, .int (nI v), .ref o'] J E kr kx := by
  refine ex_of (ls0 := [some (.ref 3), some (.int (nI v)), some (.ref o'), none]) tAq_tell (by decide +kernel) kAq_tell rfl (Nat.le_of_ble_eq_true rfl) rfl ?_
  intro go hgo
  refine hgo 20 [] 0 _ _ _ _ _ ?_
  simp only [ixr_of, run_s, run_0, rAq_tell, rok_i, rok_z, bx_cons, bx_nil, eAALD106, eAAST106, eGR, eLA0, eLA2, eLA3, eLI1, eRA, eSA3, fAq_tell_0, bAq_tell_0, ln_xaqueduct_change, ln_xaqueduct_decided, ln_xaqueduct_fresh, ln_xaqueduct_sight, ln_xopinions, rg_xaqueduct_1, rg_xaqueduct_2, rg_xaqueduct_3, rg_xaqueduct_4, rg_xaqueduct_5, ty_xaqueduct, ty_xaqueduct_change, ty_xaqueduct_decided, ty_xaqueduct_fresh, ty_xaqueduct_sight, ty_xopinions, Option.toList_some, Option.toList_none, List.cons_append, List.nil_append, List.length_cons, List.length_nil, List.mem_cons, List.not_mem_nil, or_false, false_or, or_true, true_or, ↓reduceIte, true_and, and_true, Nat.reduceEqDiff, Nat.reduceAdd, Nat.reduceLeDiff, Nat.reduceLT, dl_i, dl_r, dl_n, dl_u, eq_self, not_true_eq_false, not_false_eq_true, n10, n01, nm0, n0m, hv, h15, t6, imp_t, imp_f]
  exact ⟨pS_15, ⟨_, rfl⟩, hk⟩
end XRq
theorem bi_iff {p q : Prop} [Decidable p] [Decidable q] (h : p ↔ q) : bi p = bi q := by
  by_cases hp : p
  · rw [bi_t hp, bi_t (h.mp hp)]
  · rw [bi_f hp, bi_f (fun c => hp (h.mpr c))]
theorem VS.of {L : Iv} {S : Tn} {PS : Nat → List Pt} (h0 : L 500004 0 = nI S.1.1) (h1 : L 500004 1 = nI S.1.2) (hS : TnV S) (hM : MT L S) (hO : MO L S.1.1 PS) : VS L S.1.1 S.1.2 := by
  have s9 := hS.1
  refine ⟨h0, s9, h1, hS.2.1, fun c hc => ⟨S.2.2.2 c 1, ?_, (hM.2.2.1 c hc).2.1⟩, fun v hv => ⟨S.2.2.1 v 3, (hS.2.2.2.2.2.2.2 v hv).2.2.1, hM.2.2.2 v hv 3 (by omega)⟩, fun v hv => ?_⟩
  · have := hS.2.2.2.2.2.1 c hc
    omega
  · obtain ⟨a1, a2, a3, a4, a5, a6⟩ := hO v hv
    refine ⟨(PS v).length, a6, a1, fun p hp => ?_⟩
    have hx : (PS v)[p]? = some (PS v)[p] := List.getElem?_eq_getElem hp
    have hl : (cdA (PS v)).length ≤ 160 := hO.cl hv
    obtain ⟨b1, b2, -⟩ := pvl_R (I := L) a2 a3 a4 hl hx
    exact ⟨⟨_, (a4 _ (List.getElem_mem hp)).1, b1⟩, b2⟩

theorem g_opinion {q z : Nat} {J : Iv} {E : Ev} {v y : Int32} (h : GS q z J E) : StX mH_opinion mM_opinion [.int v, .int y] 1 2 q z J E := by
  have hG0 := h
  obtain ⟨S, PS, t, op, bk, kb, n, n0, p, c, mk, tp, im, nim, rw', r1, r2, r3, r4, r5, r6, r7, r8, r9⟩ := h
  have hS := r1.1.1.2.2.2.1
  have s9 := hS.1
  have hVS := r1.1.2.2.1
  have hq32 := r4.1.1
  obtain ⟨g3, hT, hXt, -⟩ := id r1.1.1
  have tT : tyc shN E t = 10 := (hT.A (b := true) (E := E)).1
  have v7 := hXt.1
  have h40 := hVS.1
  have hD := r3.1.2.1
  have ty71 : tyc shN E 71 = 3 := dyA_71.1
  obtain ⟨-, ⟨y0, y1, y2, y3, y4, y5, y6⟩, ⟨b1, b2, b3, b4, b5, b6, b7⟩, l1, l2, l3, l4, l5, l6, l7⟩ := (dyA_71 (b := true) (E := E))
  have hm0 := (r4.1.2.1 0 (by have := r4.2.1; omega)).2.2
  obtain ⟨-, n9, a37, b37, a38, b38⟩ := id r3
  have en : J 71 9 = nI n := hD.2.1
  obtain ⟨t1, t2, t3, t4, t5, t6⟩ := id r6
  have emin : miI (nI 150) (nI tp) = nI (min 150 tp) := miI_n (by omega) (by omega)
  by_cases hv : ∃ w, w < S.1.1 ∧ v = nI w
  rotate_left
  · refine ⟨(1, 6), q, z, Cst.x, hq32, fun Γ l d kr kx hG _ hxN hxI => ?_⟩
    refine ex_of (ls0 := [some (.ref 0), some (.int v), some (.int y), none]) tH_opinion (by decide +kernel) kH_opinion rfl (Nat.le_of_ble_eq_true rfl) rfl ?_
    intro go hgo
    refine hgo 20 [] 0 _ _ _ _ _ ?_
    simp only [ixr_of, run_s, run_0, rH_opinion, rok_i, rok_z, bx_cons, bx_nil, eBP, eC0, eCV0, eCV1, eCV2, eCV3, eGI, eGR, jIFne, eLA0, eLI1, eLI2, eLI3, eMIN, ePR, eRI, eSI3, eSP, eSUB, fH_opinion_0, fH_opinion_55, fH_opinion_66, bH_opinion_0, bH_opinion_55, bH_opinion_66, ln_ximages, ln_xthought, rg_xmain_0, rg_xmain_1, rg_xmain_10, rg_xmain_2, rg_xmain_3, rg_xmain_4, rg_xmain_5, rg_xmain_6, rg_xmain_7, ty_xaqueduct, ty_xdiary, ty_xforesight, ty_ximages, ty_xmain, ty_xnow, ty_xopinionReader, ty_xtape, ty_xtasters, ty_xthought, Option.toList_some, Option.toList_none, List.cons_append, List.nil_append, List.length_cons, List.length_nil, List.mem_cons, List.not_mem_nil, or_false, false_or, or_true, true_or, ↓reduceIte, true_and, and_true, Nat.reduceEqDiff, Nat.reduceAdd, Nat.reduceLeDiff, Nat.reduceLT, dl_i, dl_r, dl_n, dl_u, eq_self, not_true_eq_false, not_false_eq_true, n10, n01, nm0, n0m, imp_t, imp_f]
    refine ⟨1, 6, fun _ => Nat.le_refl _, fun _ => Nat.le_refl _, x_needVillageX hG.1.1 hG.2.1 hG.2.2 g3 tT v7 (vin_n s9 hv) (hxN _ _ (fun Γ l d kr kx hk => ?_))⟩
    exact c_opinion (by rw [up_n (by omega)]; exact h40) s9 (by rw [up_n (by omega)]; exact t2) t3 (fun _ => hk _ (hG0.rf (rn := 0) (w := 1) (by decide)).1.un (hG0.rf (rn := 0) (w := 1) (by decide)).2) (fun c _ => absurd c (vim_n (by rw [up_n (by omega)]; exact h40) s9 hv)) (fun w _ _ _ a e _ _ _ _ => absurd ⟨w, a, e⟩ hv) (fun w _ _ _ a e _ _ _ _ => absurd ⟨w, a, e⟩ hv)
  obtain ⟨w, hw, rfl⟩ := hv
  by_cases hin : nI 0 ≤ y ∧ y ≤ nI (min 150 tp)
  rotate_left
  · refine ⟨(1, 6), q, z, Cst.x, hq32, fun Γ l d kr kx hG _ hxN hxI => ?_⟩
    refine ex_of (ls0 := [some (.ref 0), some (.int (nI w)), some (.int y), none]) tH_opinion (by decide +kernel) kH_opinion rfl (Nat.le_of_ble_eq_true rfl) rfl ?_
    intro go hgo
    refine hgo 20 [] 0 _ _ _ _ _ ?_
    simp only [ixr_of, run_s, run_0, rH_opinion, rok_i, rok_z, bx_cons, bx_nil, eBP, eC0, eCV0, eCV1, eCV2, eCV3, eGI, eGR, jIFne, eLA0, eLI1, eLI2, eLI3, eMIN, ePR, eRI, eSI3, eSP, eSUB, fH_opinion_0, fH_opinion_55, fH_opinion_66, bH_opinion_0, bH_opinion_55, bH_opinion_66, ln_ximages, ln_xthought, rg_xmain_0, rg_xmain_1, rg_xmain_10, rg_xmain_2, rg_xmain_3, rg_xmain_4, rg_xmain_5, rg_xmain_6, rg_xmain_7, ty_xaqueduct, ty_xdiary, ty_xforesight, ty_ximages, ty_xmain, ty_xnow, ty_xopinionReader, ty_xtape, ty_xtasters, ty_xthought, Option.toList_some, Option.toList_none, List.cons_append, List.nil_append, List.length_cons, List.length_nil, List.mem_cons, List.not_mem_nil, or_false, false_or, or_true, true_or, ↓reduceIte, true_and, and_true, Nat.reduceEqDiff, Nat.reduceAdd, Nat.reduceLeDiff, Nat.reduceLT, dl_i, dl_r, dl_n, dl_u, eq_self, not_true_eq_false, not_false_eq_true, n10, n01, nm0, n0m, imp_t, imp_f]
    refine call0 (x_needVillage g3 tT v7 (vin rfl ⟨hw, s9⟩) ?_)
    simp only [ixr_of, run_s, run_0, rH_opinion, rok_i, rok_z, bx_cons, bx_nil, eBP, eC0, eCV0, eCV1, eCV2, eCV3, eGI, eGR, jIFne, eLA0, eLI1, eLI2, eLI3, eMIN, ePR, eRI, eSI3, eSP, eSUB, fH_opinion_0, fH_opinion_55, fH_opinion_66, bH_opinion_0, bH_opinion_55, bH_opinion_66, ln_ximages, ln_xthought, rg_xmain_0, rg_xmain_1, rg_xmain_10, rg_xmain_2, rg_xmain_3, rg_xmain_4, rg_xmain_5, rg_xmain_6, rg_xmain_7, ty_xaqueduct, ty_xdiary, ty_xforesight, ty_ximages, ty_xmain, ty_xnow, ty_xopinionReader, ty_xtape, ty_xtasters, ty_xthought, Option.toList_some, Option.toList_none, List.cons_append, List.nil_append, List.length_cons, List.length_nil, List.mem_cons, List.not_mem_nil, or_false, false_or, or_true, true_or, ↓reduceIte, true_and, and_true, Nat.reduceEqDiff, Nat.reduceAdd, Nat.reduceLeDiff, Nat.reduceLT, dl_i, dl_r, dl_n, dl_u, eq_self, not_true_eq_false, not_false_eq_true, n10, n01, nm0, n0m, t1, emin, imp_t, imp_f]
    refine ⟨1, 6, fun _ => Nat.le_refl _, fun _ => Nat.le_refl _, x_needInX hG.1.1 hG.2.1 hG.2.2 hin (hxI _ _ (fun Γ l d kr kx hk => ?_))⟩
    exact c_opinion (by rw [up_n (by omega)]; exact h40) s9 (by rw [up_n (by omega)]; exact t2) t3 (fun c => absurd (vim (by rw [up_n (by omega)]; exact h40) s9 hw rfl) c) (fun _ _ => hk _ (hG0.rf (rn := 1) (w := 2) (by decide)).1.un (hG0.rf (rn := 1) (w := 2) (by decide)).2) (fun w k e L _ _ a b f => absurd (by rw [f]; exact rgI (by omega) (by omega) (by omega)) hin) (fun w k e L _ _ a b f => absurd (by rw [f]; exact rgI (by omega) (by omega) (by omega)) hin)
  obtain ⟨m, hm, rfl⟩ := rng (by omega) hin
  obtain ⟨⟨a1, a2, a3, a4, a5, a6, a7, a8⟩, mt, mvs, mo⟩ := id r1.1
  obtain ⟨-, g8, g9, g68, g4, gbg⟩ := id r1
  obtain ⟨d1, d2, d3, d4, d5, d6, d7, d8⟩ := id r4
  have ho9 := a6 9 (by omega)
  have hOA := ho9.A (b := true) (E := E)
  have tO := hOA.1
  have w9 : w < 9 := by omega
  have ow := a5 w w9
  have n9o : (20 ≤ op 9 ∧ op 9 ≤ 44) ∨ op 9 = 94 := by unfold idO at ho9; omega
  have hkb := r2.1.2.1
  refine ⟨(0, 0), q, z, Cst.no, hq32, fun Γ l d kr kx hG hk _ _ => ?_⟩
  refine ex_of (ls0 := [some (.ref 0), some (.int (nI w)), some (.int (nI m)), none]) tH_opinion (by decide +kernel) kH_opinion rfl (Nat.le_of_ble_eq_true rfl) rfl ?_
  intro go hgo
  refine hgo 20 [] 0 _ _ _ _ _ ?_
  simp only [ixr_of, run_s, run_0, rH_opinion, rok_i, rok_z, bx_cons, bx_nil, eBP, eC0, eCV0, eCV1, eCV2, eCV3, eGI, eGR, jIFne, eLA0, eLI1, eLI2, eLI3, eMIN, ePR, eRI, eSI3, eSP, eSUB, fH_opinion_0, fH_opinion_55, fH_opinion_66, bH_opinion_0, bH_opinion_55, bH_opinion_66, ln_ximages, ln_xthought, rg_xmain_0, rg_xmain_1, rg_xmain_10, rg_xmain_2, rg_xmain_3, rg_xmain_4, rg_xmain_5, rg_xmain_6, rg_xmain_7, ty_xaqueduct, ty_xdiary, ty_xforesight, ty_ximages, ty_xmain, ty_xnow, ty_xopinionReader, ty_xtape, ty_xtasters, ty_xthought, Option.toList_some, Option.toList_none, List.cons_append, List.nil_append, List.length_cons, List.length_nil, List.mem_cons, List.not_mem_nil, or_false, false_or, or_true, true_or, ↓reduceIte, true_and, and_true, Nat.reduceEqDiff, Nat.reduceAdd, Nat.reduceLeDiff, Nat.reduceLT, dl_i, dl_r, dl_n, dl_u, eq_self, not_true_eq_false, not_false_eq_true, n10, n01, nm0, n0m, imp_t, imp_f]
  refine call0 (x_needVillage g3 tT v7 (vin rfl ⟨hw, s9⟩) ?_)
  simp only [ixr_of, run_s, run_0, rH_opinion, rok_i, rok_z, bx_cons, bx_nil, eBP, eC0, eCV0, eCV1, eCV2, eCV3, eGI, eGR, jIFne, eLA0, eLI1, eLI2, eLI3, eMIN, ePR, eRI, eSI3, eSP, eSUB, fH_opinion_0, fH_opinion_55, fH_opinion_66, bH_opinion_0, bH_opinion_55, bH_opinion_66, ln_ximages, ln_xthought, rg_xmain_0, rg_xmain_1, rg_xmain_10, rg_xmain_2, rg_xmain_3, rg_xmain_4, rg_xmain_5, rg_xmain_6, rg_xmain_7, ty_xaqueduct, ty_xdiary, ty_xforesight, ty_ximages, ty_xmain, ty_xnow, ty_xopinionReader, ty_xtape, ty_xtasters, ty_xthought, Option.toList_some, Option.toList_none, List.cons_append, List.nil_append, List.length_cons, List.length_nil, List.mem_cons, List.not_mem_nil, or_false, false_or, or_true, true_or, ↓reduceIte, true_and, and_true, Nat.reduceEqDiff, Nat.reduceAdd, Nat.reduceLeDiff, Nat.reduceLT, dl_i, dl_r, dl_n, dl_u, eq_self, not_true_eq_false, not_false_eq_true, n10, n01, nm0, n0m, imp_t, imp_f]
  simp only [ixr_of, run_s, run_0, rH_opinion, rok_i, rok_z, bx_cons, bx_nil, eBP, eC0, eCV0, eCV1, eCV2, eCV3, eGI, eGR, jIFne, eLA0, eLI1, eLI2, eLI3, eMIN, ePR, eRI, eSI3, eSP, eSUB, fH_opinion_0, fH_opinion_55, fH_opinion_66, bH_opinion_0, bH_opinion_55, bH_opinion_66, ln_ximages, ln_xthought, rg_xmain_0, rg_xmain_1, rg_xmain_10, rg_xmain_2, rg_xmain_3, rg_xmain_4, rg_xmain_5, rg_xmain_6, rg_xmain_7, ty_xaqueduct, ty_xdiary, ty_xforesight, ty_ximages, ty_xmain, ty_xnow, ty_xopinionReader, ty_xtape, ty_xtasters, ty_xthought, Option.toList_some, Option.toList_none, List.cons_append, List.nil_append, List.length_cons, List.length_nil, List.mem_cons, List.not_mem_nil, or_false, false_or, or_true, true_or, ↓reduceIte, true_and, and_true, Nat.reduceEqDiff, Nat.reduceAdd, Nat.reduceLeDiff, Nat.reduceLT, dl_i, dl_r, dl_n, dl_u, eq_self, not_true_eq_false, not_false_eq_true, n10, n01, nm0, n0m, t1, emin, imp_t, imp_f]
  refine call0 (x_needIn hin ?_)
  simp only [ixr_of, run_s, run_0, rH_opinion, rok_i, rok_z, bx_cons, bx_nil, eBP, eC0, eCV0, eCV1, eCV2, eCV3, eGI, eGR, jIFne, eLA0, eLI1, eLI2, eLI3, eMIN, ePR, eRI, eSI3, eSP, eSUB, fH_opinion_0, fH_opinion_55, fH_opinion_66, bH_opinion_0, bH_opinion_55, bH_opinion_66, ln_ximages, ln_xthought, rg_xmain_0, rg_xmain_1, rg_xmain_10, rg_xmain_2, rg_xmain_3, rg_xmain_4, rg_xmain_5, rg_xmain_6, rg_xmain_7, ty_xaqueduct, ty_xdiary, ty_xforesight, ty_ximages, ty_xmain, ty_xnow, ty_xopinionReader, ty_xtape, ty_xtasters, ty_xthought, Option.toList_some, Option.toList_none, List.cons_append, List.nil_append, List.length_cons, List.length_nil, List.mem_cons, List.not_mem_nil, or_false, false_or, or_true, true_or, ↓reduceIte, true_and, and_true, Nat.reduceEqDiff, Nat.reduceAdd, Nat.reduceLeDiff, Nat.reduceLT, dl_i, dl_r, dl_n, dl_u, eq_self, not_true_eq_false, not_false_eq_true, n10, n01, nm0, n0m, imp_t, imp_f]
  refine call0 (x_open t1 t3 (by omega) ?_)
  simp only [ixr_of, run_s, run_0, rH_opinion, rok_i, rok_z, bx_cons, bx_nil, eBP, eC0, eCV0, eCV1, eCV2, eCV3, eGI, eGR, jIFne, eLA0, eLI1, eLI2, eLI3, eMIN, ePR, eRI, eSI3, eSP, eSUB, fH_opinion_0, fH_opinion_55, fH_opinion_66, bH_opinion_0, bH_opinion_55, bH_opinion_66, ln_ximages, ln_xthought, rg_xmain_0, rg_xmain_1, rg_xmain_10, rg_xmain_2, rg_xmain_3, rg_xmain_4, rg_xmain_5, rg_xmain_6, rg_xmain_7, ty_xaqueduct, ty_xdiary, ty_xforesight, ty_ximages, ty_xmain, ty_xnow, ty_xopinionReader, ty_xtape, ty_xtasters, ty_xthought, Option.toList_some, Option.toList_none, List.cons_append, List.nil_append, List.length_cons, List.length_nil, List.mem_cons, List.not_mem_nil, or_false, false_or, or_true, true_or, ↓reduceIte, true_and, and_true, Nat.reduceEqDiff, Nat.reduceAdd, Nat.reduceLeDiff, Nat.reduceLT, dl_i, dl_r, dl_n, dl_u, eq_self, not_true_eq_false, not_false_eq_true, n10, n01, nm0, n0m, g9, tO, imp_t, imp_f]
  have hTS : TS (xt J m) m (op0 J m) 0 := ⟨op0_t t4 (by omega), op0_0.2.2.2.2.2⟩
  obtain ⟨E1, hE1⟩ : ∃ E1 : Ev, E1 = (upR E.1 97 1 (op 9 + 1), E.2) := ⟨_, rfl⟩
  have e97 : EX true (fun a j => a = 97) E E1 := by rw [hE1]; exact EX.up rfl
  have e1t : tyc shN E1 999999 = 0 := by rw [hE1]; exact r9.2.1
  refine call0 (x_oread hG.1 hOA (by omega) hTS (by omega) (fun ps K hok hF h6 hX hln => ?_) (fun e K her hF hE => ?_))
  · rw [← hE1]
    simp only [ixr_of, run_s, run_0, rH_opinion, rok_i, rok_z, bx_cons, bx_nil, eBP, eC0, eCV0, eCV1, eCV2, eCV3, eGI, eGR, jIFne, eLA0, eLI1, eLI2, eLI3, eMIN, ePR, eRI, eSI3, eSP, eSUB, fH_opinion_0, fH_opinion_55, fH_opinion_66, bH_opinion_0, bH_opinion_55, bH_opinion_66, ln_ximages, ln_xthought, rg_xmain_0, rg_xmain_1, rg_xmain_10, rg_xmain_2, rg_xmain_3, rg_xmain_4, rg_xmain_5, rg_xmain_6, rg_xmain_7, ty_xaqueduct, ty_xdiary, ty_xforesight, ty_ximages, ty_xmain, ty_xnow, ty_xopinionReader, ty_xtape, ty_xtasters, ty_xthought, Option.toList_some, Option.toList_none, List.cons_append, List.nil_append, List.length_cons, List.length_nil, List.mem_cons, List.not_mem_nil, or_false, false_or, or_true, true_or, ↓reduceIte, true_and, and_true, Nat.reduceEqDiff, Nat.reduceAdd, Nat.reduceLeDiff, Nat.reduceLT, dl_i, dl_r, dl_n, dl_u, eq_self, not_true_eq_false, not_false_eq_true, n10, n01, nm0, n0m, imp_t, imp_f]
    refine call0 (x_close ?_)
    have g9' : rget shN E1 0 9 = .ref (op 9) := by rw [e97.1 0 9 (by rw [ty_xmain]; decide) (by omega)]; exact g9
    have tO' : tyc shN E1 (op 9) = 6 := (ho9.A (b := true) (E := E1)).1
    have ow' : rget shN E1 15 w = .ref (op w) := by rw [e97.1 15 w (by rw [ty_xopinions]; decide) (by omega)]; exact ow
    simp only [ixr_of, run_s, run_0, rH_opinion, rok_i, rok_z, bx_cons, bx_nil, eBP, eC0, eCV0, eCV1, eCV2, eCV3, eGI, eGR, jIFne, eLA0, eLI1, eLI2, eLI3, eMIN, ePR, eRI, eSI3, eSP, eSUB, fH_opinion_0, fH_opinion_55, fH_opinion_66, bH_opinion_0, bH_opinion_55, bH_opinion_66, ln_ximages, ln_xthought, rg_xmain_0, rg_xmain_1, rg_xmain_10, rg_xmain_2, rg_xmain_3, rg_xmain_4, rg_xmain_5, rg_xmain_6, rg_xmain_7, ty_xaqueduct, ty_xdiary, ty_xforesight, ty_ximages, ty_xmain, ty_xnow, ty_xopinionReader, ty_xtape, ty_xtasters, ty_xthought, Option.toList_some, Option.toList_none, List.cons_append, List.nil_append, List.length_cons, List.length_nil, List.mem_cons, List.not_mem_nil, or_false, false_or, or_true, true_or, ↓reduceIte, true_and, and_true, Nat.reduceEqDiff, Nat.reduceAdd, Nat.reduceLeDiff, Nat.reduceLT, dl_i, dl_r, dl_n, dl_u, eq_self, not_true_eq_false, not_false_eq_true, n10, n01, nm0, n0m, g9', tO', imp_t, imp_f]
    refine call0 (x_tell w9 ow' tO' ?_)
    simp only [ixr_of, run_s, run_0, rH_opinion, rok_i, rok_z, bx_cons, bx_nil, eBP, eC0, eCV0, eCV1, eCV2, eCV3, eGI, eGR, jIFne, eLA0, eLI1, eLI2, eLI3, eMIN, ePR, eRI, eSI3, eSP, eSUB, fH_opinion_0, fH_opinion_55, fH_opinion_66, bH_opinion_0, bH_opinion_55, bH_opinion_66, ln_ximages, ln_xthought, rg_xmain_0, rg_xmain_1, rg_xmain_10, rg_xmain_2, rg_xmain_3, rg_xmain_4, rg_xmain_5, rg_xmain_6, rg_xmain_7, ty_xaqueduct, ty_xdiary, ty_xforesight, ty_ximages, ty_xmain, ty_xnow, ty_xopinionReader, ty_xtape, ty_xtasters, ty_xthought, Option.toList_some, Option.toList_none, List.cons_append, List.nil_append, List.length_cons, List.length_nil, List.mem_cons, List.not_mem_nil, or_false, false_or, or_true, true_or, ↓reduceIte, true_and, and_true, Nat.reduceEqDiff, Nat.reduceAdd, Nat.reduceLeDiff, Nat.reduceLT, dl_i, dl_r, dl_n, dl_u, eq_self, not_true_eq_false, not_false_eq_true, n10, n01, nm0, n0m, imp_t, imp_f]
    refine ⟨pS_0_9, ?_⟩
    obtain ⟨F, hFe⟩ : ∃ F : Ev, F = (upR (upR E1.1 15 w (op 9 + 1)) 0 9 (op w + 1), E1.2) := ⟨_, rfl⟩
    rw [← hFe]
    have f1 : EX true (fun a j => (a = 97) ∨ (a = 15 ∧ j = w) ∨ (a = 0 ∧ j = 9)) E F := by
      have z0 : EX true (fun a j => (a = 97) ∨ (a = 15 ∧ j = w) ∨ (a = 0 ∧ j = 9)) E E1 := e97.mono (fun a j h => Or.inl h)
      have z1 : EX true (fun a j => (a = 97) ∨ (a = 15 ∧ j = w) ∨ (a = 0 ∧ j = 9)) E1 (upR E1.1 15 w (op 9 + 1), E1.2) := EX.up (Or.inr (Or.inl ⟨rfl, rfl⟩))
      refine (z0.tr z1).tr ?_
      rw [hFe]
      exact EX.up (E := (upR E1.1 15 w (op 9 + 1), E1.2)) (Or.inr (Or.inr ⟨rfl, rfl⟩))
    have f15 : rget shN F 15 w = .ref (op 9) := by
      have g : EX true (fun a j => a = 0 ∧ j = 9) (upR E1.1 15 w (op 9 + 1), E1.2) F := by rw [hFe]; exact EX.up (E := (upR E1.1 15 w (op 9 + 1), E1.2)) ⟨rfl, rfl⟩
      rw [g.1 15 w (by rw [ty_xopinions]; decide) (by omega)]
      exact upR_r pS_15
    have f09 : rget shN F 0 9 = .ref (op w) := by rw [hFe]; exact upR_r (E := (upR E1.1 15 w (op 9 + 1), E1.2)) pS_0_9
    have f9 : tyc shN F 999999 = 0 := by rw [hFe]; exact e1t
    refine call0 (x_forget ?_)
    simp only [ixr_of, run_s, run_0, rH_opinion, rok_i, rok_z, bx_cons, bx_nil, eBP, eC0, eCV0, eCV1, eCV2, eCV3, eGI, eGR, jIFne, eLA0, eLI1, eLI2, eLI3, eMIN, ePR, eRI, eSI3, eSP, eSUB, fH_opinion_0, fH_opinion_55, fH_opinion_66, bH_opinion_0, bH_opinion_55, bH_opinion_66, ln_ximages, ln_xthought, rg_xmain_0, rg_xmain_1, rg_xmain_10, rg_xmain_2, rg_xmain_3, rg_xmain_4, rg_xmain_5, rg_xmain_6, rg_xmain_7, ty_xaqueduct, ty_xdiary, ty_xforesight, ty_ximages, ty_xmain, ty_xnow, ty_xopinionReader, ty_xtape, ty_xtasters, ty_xthought, Option.toList_some, Option.toList_none, List.cons_append, List.nil_append, List.length_cons, List.length_nil, List.mem_cons, List.not_mem_nil, or_false, false_or, or_true, true_or, ↓reduceIte, true_and, and_true, Nat.reduceEqDiff, Nat.reduceAdd, Nat.reduceLeDiff, Nat.reduceLT, dl_i, dl_r, dl_n, dl_u, eq_self, not_true_eq_false, not_false_eq_true, n10, n01, nm0, n0m, imp_t, imp_f]
    obtain ⟨K2, hK2⟩ : ∃ K2, K2 = up (up K 1 1 (nI 0)) 58 4 (nI 0) := ⟨_, rfl⟩
    rw [← hK2]
    have k2 : ∀ i, i ≠ 1 → i ≠ 58 → K2 i = K i := fun i a c => by
      rw [hK2]
      funext j
      rw [up_n (by omega), up_n (by omega)]
    have k2j : ∀ i, i ≠ 1 → i ≠ 58 → i ≠ 97 → ¬ (op 9 ≤ i ∧ i ≤ op 9 + 1) → K2 i = J i := fun i a c e f => by rw [k2 i a c, hF.1 i a e f, op0_o a]
    have hDF : DiE true F q mk := d1.ex f1 (fun _ => by omega) (fun y j hy => by omega)
    have nq : NQ K2 71 S n (J 500124) (J 500000 37) (J 500000 38) (J 500123) := r3.1.2.mv s9 (fun i a c => k2j i (by omega) (by omega) (by omega) (by omega))
    refine call0 (x_dibegin hDF nq.1.2.1 n9 f9 (fun e => absurd e (by omega)) (fun _ K3 hK3 => ?_) (fun e => absurd e (by omega)))
    simp only [ixr_of, run_s, run_0, rH_opinion, rok_i, rok_z, bx_cons, bx_nil, eBP, eC0, eCV0, eCV1, eCV2, eCV3, eGI, eGR, jIFne, eLA0, eLI1, eLI2, eLI3, eMIN, ePR, eRI, eSI3, eSP, eSUB, fH_opinion_0, fH_opinion_55, fH_opinion_66, bH_opinion_0, bH_opinion_55, bH_opinion_66, ln_ximages, ln_xthought, rg_xmain_0, rg_xmain_1, rg_xmain_10, rg_xmain_2, rg_xmain_3, rg_xmain_4, rg_xmain_5, rg_xmain_6, rg_xmain_7, ty_xaqueduct, ty_xdiary, ty_xforesight, ty_ximages, ty_xmain, ty_xnow, ty_xopinionReader, ty_xtape, ty_xtasters, ty_xthought, Option.toList_some, Option.toList_none, List.cons_append, List.nil_append, List.length_cons, List.length_nil, List.mem_cons, List.not_mem_nil, or_false, false_or, or_true, true_or, ↓reduceIte, true_and, and_true, Nat.reduceEqDiff, Nat.reduceAdd, Nat.reduceLeDiff, Nat.reduceLT, dl_i, dl_r, dl_n, dl_u, eq_self, not_true_eq_false, not_false_eq_true, n10, n01, nm0, n0m, imp_t, imp_f]
    refine call0 (x_opinionOf w9 f15 ?_)
    have tO2 : tyc shN F (op 9) = 6 := (ho9.A (b := true) (E := F)).1
    have k3 : ∀ i, i ≠ 79 → i < 1000000 → K3 i = K2 i := fun i a c => by
      rw [hK3.1 i (by omega)]
      funext j
      exact up_n (by omega)
    have eln : K3 (op 9) 3 = nI ps.length := by rw [k3 _ (by omega) (by omega), k2 _ (by omega) (by omega)]; exact hX.2.1
    simp only [ixr_of, run_s, run_0, rH_opinion, rok_i, rok_z, bx_cons, bx_nil, eBP, eC0, eCV0, eCV1, eCV2, eCV3, eGI, eGR, jIFne, eLA0, eLI1, eLI2, eLI3, eMIN, ePR, eRI, eSI3, eSP, eSUB, fH_opinion_0, fH_opinion_55, fH_opinion_66, bH_opinion_0, bH_opinion_55, bH_opinion_66, ln_ximages, ln_xthought, rg_xmain_0, rg_xmain_1, rg_xmain_10, rg_xmain_2, rg_xmain_3, rg_xmain_4, rg_xmain_5, rg_xmain_6, rg_xmain_7, ty_xaqueduct, ty_xdiary, ty_xforesight, ty_ximages, ty_xmain, ty_xnow, ty_xopinionReader, ty_xtape, ty_xtasters, ty_xthought, Option.toList_some, Option.toList_none, List.cons_append, List.nil_append, List.length_cons, List.length_nil, List.mem_cons, List.not_mem_nil, or_false, false_or, or_true, true_or, ↓reduceIte, true_and, and_true, Nat.reduceEqDiff, Nat.reduceAdd, Nat.reduceLeDiff, Nat.reduceLT, dl_i, dl_r, dl_n, dl_u, eq_self, not_true_eq_false, not_false_eq_true, n10, n01, nm0, n0m, tO2, eln, imp_t, imp_f]
    have kk : ∀ i, i ≠ 1 → i ≠ 58 → i ≠ 97 → i ≠ 79 → i < 1000000 → ¬ (op 9 ≤ i ∧ i ≤ op 9 + 1) → K3 i = J i := fun i a c e f g h => by rw [k3 i f g, k2j i a c e h]
    have km : ∀ i, 500000 ≤ i → i < 1000000 → K3 i = J i := fun i a c => kk i (by omega) (by omega) (by omega) (by omega) c (by omega)
    have etx : tx K3 m = xt J m := xt_tx t5 (by omega) (km 500001 (by omega) (by omega))
    have k40 : K3 500004 0 = nI S.1.1 := by rw [km 500004 (by omega) (by omega)]; exact h40
    refine hk _ K3 F (fun Γ l d kr kx hk2 => c_opinion k40 s9 (by rw [km 500000 (by omega) (by omega)]; exact t2) t3 (fun c => absurd (vim k40 s9 hw rfl) c) (fun _ c => absurd ⟨⟨hin.1, nI_le (by omega) (by omega)⟩, nI_le (by omega) (by omega)⟩ c) (fun w' m' e L b1 b2 b3 b4 b5 hok' _ => ?_) (fun w' m' ps' L b1 b2 b3 b4 b5 hok' hL => ?_))
    · rw [nI_eq (by omega) (by omega)] at b5
      subst b5
      rw [etx, hok] at hok'
      cases hok'
    rw [nI_eq (by omega) (by omega)] at b5 b2
    subst b5
    subst b2
    rw [etx, hok] at hok'
    have : ps = ps' := Except.ok.inj hok'
    subst this
    obtain ⟨q1, q2, q67, q68, qP, qC, q25, q39, q0, q5, q6⟩ := hL
    have lm : ∀ i, 500000 < i → i < 1000000 → i ≠ 500067 → i ≠ 500068 → i ≠ 500070 + w → i ≠ 500080 + w → i ≠ 500089 → i ≠ 500090 → i ≠ 500125 → L i = J i := fun i a b c e f g h j k => by rw [q1 i (by omega) c e f g h j k, km i (by omega) b]
    have lc : ∀ i, i < 500000 ∨ 1000000 ≤ i → L i = K3 i := fun i a => q1 i (by omega) (by omega) (by omega) (by omega) (by omega) (by omega) (by omega) (by omega)
    have ll : ∀ i, i < 500000 → i ≠ 1 → i ≠ 58 → i ≠ 97 → i ≠ 79 → ¬ (op 9 ≤ i ∧ i ≤ op 9 + 1) → L i = J i := fun i a c e f g h => by rw [lc i (by omega), kk i c e f g (by omega) h]
    have lf : ∀ j, 8 < j → j ≠ 25 → j ≠ 26 → j ≠ 27 → j ≠ 39 → L 500000 j = J 500000 j := fun j a b c e f => by rw [q2 j a b c e f, km 500000 (by omega) (by omega)]
    have l4 : L 500004 = J 500004 := lm _ (by omega) (by omega) (by omega) (by omega) (by omega) (by omega) (by omega) (by omega) (by omega)
    have l23 : L 500123 = J 500123 := lm _ (by omega) (by omega) (by omega) (by omega) (by omega) (by omega) (by omega) (by omega) (by omega)
    have l24 : L 500124 = J 500124 := lm _ (by omega) (by omega) (by omega) (by omega) (by omega) (by omega) (by omega) (by omega) (by omega)
    have l27 : L 500127 = J 500127 := lm _ (by omega) (by omega) (by omega) (by omega) (by omega) (by omega) (by omega) (by omega) (by omega)
    have l25 : L 500125 = L 500124 := by rw [q25, l24, km 500124 (by omega) (by omega)]
    have l37 := lf 37 (by omega) (by omega) (by omega) (by omega) (by omega)
    have l38 := lf 38 (by omega) (by omega) (by omega) (by omega) (by omega)
    have lmt : MT L S := by
      obtain ⟨m1, m2, m3, m4⟩ := mt
      have c20 := hS.2.1
      refine ⟨by rw [l4]; exact m1, by rw [l4]; exact m2, fun c hc => ?_, fun u hu j hj => ?_⟩
      · rw [lm (500047 + c) (by omega) (by omega) (by omega) (by omega) (by omega) (by omega) (by omega) (by omega) (by omega)]; exact m3 c hc
      · rw [lm (500016 + u) (by omega) (by omega) (by omega) (by omega) (by omega) (by omega) (by omega) (by omega) (by omega)]; exact m4 u hu j hj
    obtain ⟨pv, p6⟩ := opS_v hok
    obtain ⟨PS', hPS⟩ : ∃ PS' : Nat → List Pt, PS' = fun u => if u = w then ps else PS u := ⟨_, rfl⟩
    obtain ⟨op', hop⟩ : ∃ op' : Nat → Nat, op' = fun u => if u = w then op 9 else if u = 9 then op w else op u := ⟨_, rfl⟩
    have pw : PS' w = ps := by rw [hPS]; exact if_pos rfl
    have pn : ∀ u, u ≠ w → PS' u = PS u := fun u hu => by rw [hPS]; exact if_neg hu
    have ow1 : op' w = op 9 := by rw [hop]; exact if_pos rfl
    have o91 : op' 9 = op w := by rw [hop]; dsimp only; rw [if_neg (by omega), if_pos rfl]
    have on : ∀ u, u ≠ w → u < 9 → op' u = op u := fun u hu h9 => by rw [hop]; dsimp only; rw [if_neg hu, if_neg (by omega)]
    have lmo : MO L S.1.1 PS' := fun u hu => by
      by_cases e : u = w
      · subst e
        rw [pw]
        refine ⟨by rw [q67, ru_s], qP, qC, pv, by omega, p6⟩
      · rw [pn u e]
        obtain ⟨c1, c2, c3, c4⟩ := mo u hu
        refine ⟨by rw [q67, ru_n e, km 500067 (by omega) (by omega)]; exact c1, ?_, ?_, c4⟩
        · rw [lm (500070 + u) (by omega) (by omega) (by omega) (by omega) (by omega) (by omega) (by omega) (by omega) (by omega)]; exact c2
        · rw [lm (500080 + u) (by omega) (by omega) (by omega) (by omega) (by omega) (by omega) (by omega) (by omega) (by omega)]; exact c3
    have lvs : VS L S.1.1 S.1.2 := VS.of (by rw [l4]; exact h40) (by rw [l4]; exact hVS.2.2.1) hS lmt lmo
    have mk0 := (d1.2.1 0 (by omega)).2.2
    have q71 : NQ (up K2 79 1 (nI n)) 71 S n (J 500124) (J 500000 37) (J 500000 38) (J 500123) := nq.mv s9 (fun i _ _ => by funext j; exact up_n (by omega))
    have t15 : tyc shN E 15 ≠ 0 := by rw [ty_xopinions]; decide
    refine hk2 L ⟨S, PS', t, op', bk, kb, n, n, p, c, mk, 0, im, nim, rw', ⟨⟨⟨by rw [f1.1 3 0 (by rw [ty_xaqueduct]; decide) (by omega)]; exact a1, a2, a3.mv (fun i b e => ll i (by unfold idT at hT; omega) (by unfold idT at hT; omega) (by unfold idT at hT; omega) (by unfold idT at hT; omega) (by unfold idT at hT; omega) (by unfold idT at hT; omega)), hS, fun u hu => ?_, fun u hu => ?_, fun u u' hu hu' he => ?_, fun u hu => ?_⟩, lmt, lvs, lmo⟩, by rw [f1.1 0 8 (by rw [ty_xmain]; decide) (by omega)]; exact g8, by rw [f09, o91], fun u hu => ?_, by rw [l4]; exact g4, fun k hk => by rw [l27]; exact gbg k hk⟩, (r2.fi (fun i b e => ll i (by unfold idB at hkb; omega) (by unfold idB at hkb; omega) (by unfold idB at hkb; omega) (by unfold idB at hkb; omega) (by unfold idB at hkb; omega) (by unfold idB at hkb; omega)) (lf 36 (by omega) (by omega) (by omega) (by omega) (by omega)) (fun i b e => lm i (by omega) (by omega) (by omega) (by omega) (by omega) (by omega) (by omega) (by omega) (by omega))).ex f1 (by omega) (by omega), r3.cg s9 (fun i b e => ll i (by omega) (by omega) (by omega) (by omega) (by omega) (by omega)) l24 l23 l37 l38, ⟨hDF, d2, ?_, Nat.le_refl _, by omega, by rw [q39, Nat.sub_self], by rw [Nat.sub_self, ← l25]; rfl, fun a ha => ?_⟩, r5.cg s9 (Nat.le_refl _) (by rw [ll 0 (by omega) (by omega) (by omega) (by omega) (by omega) (by omega)]; exact r5.1) (by rw [lf 40 (by omega) (by omega) (by omega) (by omega) (by omega)]; exact r5.2.2.1) (fun i b e => ll i (by omega) (by omega) (by omega) (by omega) (by omega) (by omega)) (fun m hm => lm _ (by omega) (by omega) (by omega) (by omega) (by omega) (by omega) (by omega) (by omega) (by omega)), r6.rd ?_ q5 (ll 2 (by omega) (by omega) (by omega) (by omega) (by omega) (by omega)) ?_, r7.mv (ll 0 (by omega) (by omega) (by omega) (by omega) (by omega) (by omega)) (lm _ (by omega) (by omega) (by omega) (by omega) (by omega) (by omega) (by omega) (by omega) (by omega)), Or.inl ?_, r9.ex f1 (by omega) f9⟩ q0
    · by_cases e : u = w
      · rw [e, ow1]; exact f15
      · rw [on u e hu, f1.1 15 u t15 (by omega)]; exact a5 u hu
    · by_cases e : u = w
      · rw [e, ow1]; exact ho9
      · by_cases e9 : u = 9
        · rw [e9, o91]; exact a6 w (by omega)
        · rw [on u e (by omega)]; exact a6 u hu
    · by_cases e : u = w
      · by_cases e' : u' = w
        · rw [e, e']
        · exfalso
          rw [e, ow1] at he
          by_cases e9 : u' = 9
          · rw [e9, o91] at he
            have := a7 9 w (by omega) (by omega) he
            omega
          · rw [on u' e' (by omega)] at he
            have := a7 9 u' (by omega) (by omega) he
            omega
      · by_cases e' : u' = w
        · exfalso
          rw [e', ow1] at he
          by_cases e9 : u = 9
          · rw [e9, o91] at he
            have := a7 w 9 (by omega) (by omega) he
            omega
          · rw [on u e (by omega)] at he
            have := a7 u 9 (by omega) (by omega) he
            omega
        · by_cases e9 : u = 9
          · by_cases e9' : u' = 9
            · rw [e9, e9']
            · exfalso
              rw [e9, o91, on u' e' (by omega)] at he
              have := a7 w u' (by omega) (by omega) he
              omega
          · by_cases e9' : u' = 9
            · exfalso
              rw [e9', o91, on u e (by omega)] at he
              have := a7 u w (by omega) (by omega) he
              omega
            · rw [on u e (by omega), on u' e' (by omega)] at he
              exact a7 u u' (by omega) (by omega) he
    · by_cases e : u = w
      · rw [e, ow1, pw]
        refine ⟨hX.mv ?_ ?_, by omega, p6⟩
        · rw [lc _ (by omega), k3 _ (by omega) (by omega), k2 _ (by omega) (by omega)]
        · rw [lc _ (by omega), k3 _ (by omega) (by omega), k2 _ (by omega) (by omega)]
      · rw [on u e hu, pn u e]
        have hou := a6 u (by omega)
        have hne : op u ≠ op 9 := fun c => by
          have := a7 u 9 (by omega) (by omega) c
          omega
        have bo : (20 ≤ op u ∧ op u ≤ 44) ∨ op u = 94 := by unfold idO at hou; omega
        have hd : ¬ (op 9 ≤ op u ∧ op u ≤ op 9 + 1) ∧ ¬ (op 9 ≤ op u + 1 ∧ op u + 1 ≤ op 9 + 1) := by
          unfold idO at hou ho9
          omega
        exact ⟨(a8 u hu).1.mv (ll _ (by omega) (by omega) (by omega) (by omega) (by omega) hd.1) (ll _ (by omega) (by omega) (by omega) (by omega) (by omega) hd.2), (a8 u hu).2⟩
    · by_cases e : u = w
      · rw [e, pw, q68, ru_s]
        exact bi_iff (st_1004 ps pv).symm
      · rw [pn u e, q68, ru_n e, km 500068 (by omega) (by omega)]
        exact g68 u hu
    · rw [lc 79 (by omega), hK3.1 79 (by omega), up_s]
    · have : a = 0 := by omega
      subst this
      rw [Nat.mul_zero, Nat.add_zero, l23, l37, l38, show gR L S.1.1 S.1.2 (pmN L) (L 500125) 0 = J 500124 by rw [l25, l24]; rfl]
      exact (q71.cp s9 hK3).mv s9 (fun i b e => lc i (by omega))
    · rw [lc 1 (by omega), k3 1 (by omega) (by omega), hK2, up_n (by omega), up_s]
    · rw [lc 1 (by omega), k3 1 (by omega) (by omega), hK2, up_n (by omega), up_n (by omega), h6, q6]
    · rw [lc 58 (by omega), k3 58 (by omega) (by omega), hK2, up_s]
  · rw [← hE1]
    simp only [ixr_of, run_s, run_0, rH_opinion, rok_i, rok_z, bx_cons, bx_nil, eBP, eC0, eCV0, eCV1, eCV2, eCV3, eGI, eGR, jIFne, eLA0, eLI1, eLI2, eLI3, eMIN, ePR, eRI, eSI3, eSP, eSUB, fH_opinion_0, fH_opinion_55, fH_opinion_66, bH_opinion_0, bH_opinion_55, bH_opinion_66, ln_ximages, ln_xthought, rg_xmain_0, rg_xmain_1, rg_xmain_10, rg_xmain_2, rg_xmain_3, rg_xmain_4, rg_xmain_5, rg_xmain_6, rg_xmain_7, ty_xaqueduct, ty_xdiary, ty_xforesight, ty_ximages, ty_xmain, ty_xnow, ty_xopinionReader, ty_xtape, ty_xtasters, ty_xthought, Option.toList_some, Option.toList_none, List.cons_append, List.nil_append, List.length_cons, List.length_nil, List.mem_cons, List.not_mem_nil, or_false, false_or, or_true, true_or, ↓reduceIte, true_and, and_true, Nat.reduceEqDiff, Nat.reduceAdd, Nat.reduceLeDiff, Nat.reduceLT, dl_i, dl_r, dl_n, dl_u, eq_self, not_true_eq_false, not_false_eq_true, n10, n01, nm0, n0m, imp_t, imp_f]
    refine call0 (x_close ?_)
    obtain ⟨K2, hK2⟩ : ∃ K2, K2 = up K 1 1 (nI 0) := ⟨_, rfl⟩
    rw [← hK2]
    have k2 : ∀ i, i ≠ 1 → K2 i = K i := fun i a => by
      rw [hK2]
      funext j
      rw [up_n (by omega)]
    have e5 : K2 1 5 = nI e.1 := by rw [hK2, up_n (by omega)]; exact hE.1
    simp only [ixr_of, run_s, run_0, rH_opinion, rok_i, rok_z, bx_cons, bx_nil, eBP, eC0, eCV0, eCV1, eCV2, eCV3, eGI, eGR, jIFne, eLA0, eLI1, eLI2, eLI3, eMIN, ePR, eRI, eSI3, eSP, eSUB, fH_opinion_0, fH_opinion_55, fH_opinion_66, bH_opinion_0, bH_opinion_55, bH_opinion_66, ln_ximages, ln_xthought, rg_xmain_0, rg_xmain_1, rg_xmain_10, rg_xmain_2, rg_xmain_3, rg_xmain_4, rg_xmain_5, rg_xmain_6, rg_xmain_7, ty_xaqueduct, ty_xdiary, ty_xforesight, ty_ximages, ty_xmain, ty_xnow, ty_xopinionReader, ty_xtape, ty_xtasters, ty_xthought, Option.toList_some, Option.toList_none, List.cons_append, List.nil_append, List.length_cons, List.length_nil, List.mem_cons, List.not_mem_nil, or_false, false_or, or_true, true_or, ↓reduceIte, true_and, and_true, Nat.reduceEqDiff, Nat.reduceAdd, Nat.reduceLeDiff, Nat.reduceLT, dl_i, dl_r, dl_n, dl_u, eq_self, not_true_eq_false, not_false_eq_true, n10, n01, nm0, n0m, e5, imp_t, imp_f]
    have kk : ∀ i, i ≠ 1 → i ≠ 97 → ¬ (op 9 ≤ i ∧ i ≤ op 9 + 1) → K2 i = J i := fun i a c e => by rw [k2 i a, hF.1 i a c e, op0_o a]
    have km : ∀ i, 500000 ≤ i → K2 i = J i := fun i a => kk i (by omega) (by omega) (by omega)
    have etx : tx K2 m = xt J m := xt_tx t5 (by omega) (km 500001 (by omega))
    have k40 : K2 500004 0 = nI S.1.1 := by rw [km 500004 (by omega)]; exact h40
    refine hk _ K2 E1 (fun Γ l d kr kx hk2 => c_opinion k40 s9 (by rw [km 500000 (by omega)]; exact t2) t3 (fun c => absurd (vim k40 s9 hw rfl) c) (fun _ c => absurd ⟨⟨hin.1, nI_le (by omega) (by omega)⟩, nI_le (by omega) (by omega)⟩ c) (fun w' m' e' L b1 b2 b3 b4 b5 her' hL => ?_) (fun w' m' ps' L b1 b2 b3 b4 b5 hok' _ => ?_))
    rotate_left
    · rw [nI_eq (by omega) (by omega)] at b5
      subst b5
      rw [etx, her] at hok'
      cases hok'
    rw [nI_eq (by omega) (by omega)] at b5
    subst b5
    rw [etx, her] at her'
    have : e = e' := Except.error.inj her'
    subst this
    obtain ⟨q1, q2, q0, q5, q6⟩ := hL
    have lm : ∀ i, 500000 < i → i ≠ 500090 → i ≠ 500089 → L i = J i := fun i a c e => by rw [q1 i (by omega) c e, km i (by omega)]
    have lc : ∀ i, i < 500000 ∨ 1000000 ≤ i → L i = K2 i := fun i a => q1 i (by omega) (by omega) (by omega)
    have ll : ∀ i, i < 500000 ∨ 1000000 ≤ i → i ≠ 1 → i ≠ 97 → ¬ (op 9 ≤ i ∧ i ≤ op 9 + 1) → L i = J i := fun i a c e f => by rw [lc i a, kk i c e f]
    have lf : ∀ j, 36 ≤ j → j ≤ 40 → L 500000 j = J 500000 j := fun j a b => by rw [q2 j (by omega) (by omega) (by omega) (by omega), km 500000 (by omega)]
    refine hk2 L (GS.tp (tp' := 0) r1 r2 r3 r4 r5 r7 r8 r9 e97 e1t (fun i a c => ll i (by unfold idT at hT; omega) (by unfold idT at hT; omega) (by unfold idT at hT; omega) (by unfold idT at hT; omega)) (fun u hu => ?_) (fun i a c => ll i (by unfold idB at hkb; omega) (by unfold idB at hkb; omega) (by unfold idB at hkb; omega) (by unfold idB at hkb; omega)) (fun i hi => ll i (by omega) (by omega) (by omega) (by omega)) (fun i hi => lm i (by unfold mL tw at hi; omega) (by unfold mL tw at hi; omega) (by unfold mL tw at hi; omega)) (fun j a c => lf j a c) (r6.rd ?_ q5 (ll 2 (by omega) (by omega) (by omega) (by omega)) ?_)) q0
    · have hou := a6 u (by omega)
      have hne : op u ≠ op 9 := fun c => by
        have := a7 u 9 (by omega) (by omega) c
        omega
      have bo : (20 ≤ op u ∧ op u ≤ 44) ∨ op u = 94 := by unfold idO at hou; omega
      have hd : ¬ (op 9 ≤ op u ∧ op u ≤ op 9 + 1) ∧ ¬ (op 9 ≤ op u + 1 ∧ op u + 1 ≤ op 9 + 1) := by
        unfold idO at hou ho9
        omega
      exact ⟨ll _ (by omega) (by omega) (by omega) hd.1, ll _ (by omega) (by omega) (by omega) hd.2⟩
    · rw [lc 1 (by omega), hK2, up_s]
    · rw [lc 1 (by omega), hK2, up_n (by omega), hE.2, q6]
