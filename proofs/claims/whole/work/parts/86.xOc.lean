/-! contracts of the class, 17: opinions, read: conditions -/
def wtb (w : Nat) : Int32 := if w = 0 then nI 0 else nI 1
section XOc
variable {T : Nat → Int32} {n : Nat} {val : Nat → Rs}
theorem ea_W : eachW T n val = prG T n (spW T n w_and 10) val := by
  funext a
  unfold eachW prG
  rw [lpG_W]
theorem an_W {a : Nat} : anyW T n val a = bnd (val a) (rwG T n (spW T n w_and 10) (spW T n w_or 11) val 0) := by
  rw [← rwG_0, ← ea_W, lpG_W]
  rfl
theorem rd_cond {f : Nat} (hT : Tx T n) (hf6 : f ≤ 6) (hGs : Gs n val) (hval : RdX T n mOr_readTest 10 f val) : RdX T n mOr_readCondition 11 f (anyW T n val) := by
  intro Γ l b d J E kr kx a o L hG hR h h1 h2
  refine ex_of (ls0 := [some (.ref 97), none, none, none]) tOr_readCondition (by decide +kernel) kOr_readCondition rfl (Nat.le_of_ble_eq_true rfl) rfl ?_
  intro go hgo
  have ha := h.1.1.2.2.2.2.2
  have hl := h.2.2.2.1
  have r1 := hR.2.1
  have tO := hR.1.1
  have ho := hR.2.2
  have hG1 := hG.1
  have h150 := h.2.1
  rw [an_W] at h1 h2
  obtain ⟨R, hRe⟩ : ∃ R, R = bnd (val a) (rwG T n (spW T n w_and 10) (spW T n w_or 11) val 0) := ⟨_, rfl⟩
  rw [← hRe] at h1 h2
  have hS : SpG T n (spW T n w_and 10) := spW_g (by decide)
  have hS2 : SpG T n (spW T n w_or 11) := spW_g (by decide)
  have bad9 : ∀ (K : Iv) (e : Nat × Nat) (i : Int32) (x : Option Value), R = .error e → Fz o J K → XEr K o e → go 9 [some (.ref 97), x, some (.int (nI 0)), some (.int i)] [] K E (0, 0) := by
    intro K e i x hR' hF hX
    refine hgo 20 [9] 9 _ _ _ _ _ ?_
    simp only [ixr_of, run_s, run_0, rOr_readCondition, rok_i, rok_z, bx_cons, bx_nil, eC0, eC1, eCV0, eCV1, eGO, eGR, eGS, jICge, jIFeq, jIFne, eINC3, eLA0, eLI1, eLI2, eLI3, eRI, eSI1, eSI2, eSI3, eSP, fOr_readCondition_0, fOr_readCondition_9, fOr_readCondition_16, fOr_readCondition_20, fOr_readCondition_33, fOr_readCondition_51, fOr_readCondition_55, fOr_readCondition_65, fOr_readCondition_80, fOr_readCondition_82, fOr_readCondition_87, fOr_readCondition_93, bOr_readCondition_0, bOr_readCondition_9, bOr_readCondition_16, bOr_readCondition_20, bOr_readCondition_33, bOr_readCondition_51, bOr_readCondition_55, bOr_readCondition_65, bOr_readCondition_80, bOr_readCondition_82, bOr_readCondition_87, bOr_readCondition_93, rg_xopinionReader_0, ty_xopinionReader, ty_xtape, Option.toList_some, Option.toList_none, List.cons_append, List.nil_append, List.length_cons, List.length_nil, List.mem_cons, List.not_mem_nil, or_false, false_or, or_true, true_or, ↓reduceIte, true_and, and_true, Nat.reduceEqDiff, Nat.reduceAdd, Nat.reduceLeDiff, Nat.reduceLT, dl_i, dl_r, dl_n, dl_u, eq_self, not_true_eq_false, not_false_eq_true, n10, n01, nm0, n0m, imp_t, imp_f]
    have := h2 e K hR' hF hX
    refine ⟨fun _ => ?_, fun _ => ?_⟩ <;> exact this
  have bad : ∀ (K : Iv) (e : Nat × Nat) (i : Int32) (x : Option Value), R = .error e → Fz o J K → XEr K o e → go 87 [some (.ref 97), x, some (.int (nI 0)), some (.int i)] [] K E (0, 0) := by
    intro K e i x hR' hF hX
    refine hgo 20 [9] 87 _ _ _ _ _ ?_
    simp only [ixr_of, run_s, run_0, rOr_readCondition, rok_i, rok_z, bx_cons, bx_nil, eC0, eC1, eCV0, eCV1, eGO, eGR, eGS, jICge, jIFeq, jIFne, eINC3, eLA0, eLI1, eLI2, eLI3, eRI, eSI1, eSI2, eSI3, eSP, fOr_readCondition_0, fOr_readCondition_9, fOr_readCondition_16, fOr_readCondition_20, fOr_readCondition_33, fOr_readCondition_51, fOr_readCondition_55, fOr_readCondition_65, fOr_readCondition_80, fOr_readCondition_82, fOr_readCondition_87, fOr_readCondition_93, bOr_readCondition_0, bOr_readCondition_9, bOr_readCondition_16, bOr_readCondition_20, bOr_readCondition_33, bOr_readCondition_51, bOr_readCondition_55, bOr_readCondition_65, bOr_readCondition_80, bOr_readCondition_82, bOr_readCondition_87, bOr_readCondition_93, rg_xopinionReader_0, ty_xopinionReader, ty_xtape, Option.toList_some, Option.toList_none, List.cons_append, List.nil_append, List.length_cons, List.length_nil, List.mem_cons, List.not_mem_nil, or_false, false_or, or_true, true_or, ↓reduceIte, true_and, and_true, Nat.reduceEqDiff, Nat.reduceAdd, Nat.reduceLeDiff, Nat.reduceLT, dl_i, dl_r, dl_n, dl_u, eq_self, not_true_eq_false, not_false_eq_true, n10, n01, nm0, n0m, imp_t, imp_f]
    exact bad9 K e _ x hR' hF hX
  have loop : ∀ (g i c w : Nat) (M : List Cd) (K : Iv), n < c + g → i < c → (w = 0 ∨ w = 11) → (¬ w = 0 → (L ++ M.map enc).length + 1 ≤ c) → R = bnd (.ok (c, M)) (rwG T n (spW T n w_and 10) (spW T n w_or 11) val w) → Fz o J K → OXS T n K c o (6 - f) (L ++ M.map enc) → go 9 [some (.ref 97), some (.int (wtb w)), some (.int (nI 1)), some (.int (nI i))] [] K E (0, 0) := by
    intro g
    induction g with
    | zero => intro i c w M K hg _ _ _ _ _ hK; have := hK.1.1.2.2.2.2.2; omega
    | succ g ih =>
      intro i c w M K hg hi hw hwl hRc hF hK
      have hcn := hK.1.1.2.2.2.2.2
      have hlc := hK.2.2.2.1
      have hs := sk_b (t := T) hcn
      have hss := sk_sk (T := T) hcn
      obtain ⟨s, hse⟩ : ∃ s, s = sk T n c := ⟨_, rfl⟩
      rw [← hse] at hs hss
      have nxt : ∀ (j c' w' : Nat) (M' : List Cd) (K' : Iv), j < c' → c < c' → j = i → (w' = 0 ∨ w' = 11) → (¬ w' = 0 → (L ++ M'.map enc).length + 1 ≤ c') → R = bnd (.ok (c', M')) (rwG T n (spW T n w_and 10) (spW T n w_or 11) val w') → Fz o J K' → OXS T n K' c' o (6 - f) (L ++ M'.map enc) → go 87 [some (.ref 97), some (.int (wtb w')), some (.int (nI 1)), some (.int (nI j))] [] K' E (0, 0) := by
        intro j c' w' M' K' hj hc' hji hw' hwl' hR' hF' hK'
        refine hgo 20 [9] 87 _ _ _ _ _ ?_
        simp only [ixr_of, run_s, run_0, rOr_readCondition, rok_i, rok_z, bx_cons, bx_nil, eC0, eC1, eCV0, eCV1, eGO, eGR, eGS, jICge, jIFeq, jIFne, eINC3, eLA0, eLI1, eLI2, eLI3, eRI, eSI1, eSI2, eSI3, eSP, fOr_readCondition_0, fOr_readCondition_9, fOr_readCondition_16, fOr_readCondition_20, fOr_readCondition_33, fOr_readCondition_51, fOr_readCondition_55, fOr_readCondition_65, fOr_readCondition_80, fOr_readCondition_82, fOr_readCondition_87, fOr_readCondition_93, bOr_readCondition_0, bOr_readCondition_9, bOr_readCondition_16, bOr_readCondition_20, bOr_readCondition_33, bOr_readCondition_51, bOr_readCondition_55, bOr_readCondition_65, bOr_readCondition_80, bOr_readCondition_82, bOr_readCondition_87, bOr_readCondition_93, rg_xopinionReader_0, ty_xopinionReader, ty_xtape, Option.toList_some, Option.toList_none, List.cons_append, List.nil_append, List.length_cons, List.length_nil, List.mem_cons, List.not_mem_nil, or_false, false_or, or_true, true_or, ↓reduceIte, true_and, and_true, Nat.reduceEqDiff, Nat.reduceAdd, Nat.reduceLeDiff, Nat.reduceLT, dl_i, dl_r, dl_n, dl_u, eq_self, not_true_eq_false, not_false_eq_true, n10, n01, nm0, n0m, nI_add, imp_t, imp_f]
        exact ih (j + 1) c' w' M' K' (by omega) (by omega) hw' hwl' hR' hF' hK'
      have a65 : ∀ (M' : List Cd) (K' : Iv) (x : Option Value), ¬ wcode T n s = w_and → (∀ G, bnd (.ok (c, M)) (fun _ => bnd (emS w s) G) = bnd (.ok (s, M')) G) → Fz o J K' → OXS T n K' s o (6 - f) (L ++ M'.map enc) → go 65 [some (.ref 97), x, some (.int (nI 1)), some (.int (nI i))] [] K' E (0, 0) := by
        intro M' K' x n1 hM hF' hK'
        have hlk := hK'.2.2.2.1
        have e00 : spW T n w_and 10 c = none := by unfold spW; rw [← hse, if_neg n1]
        refine hgo 20 [9, 87] 65 _ _ _ _ _ ?_
        simp only [ixr_of, run_s, run_0, rOr_readCondition, rok_i, rok_z, bx_cons, bx_nil, eC0, eC1, eCV0, eCV1, eGO, eGR, eGS, jICge, jIFeq, jIFne, eINC3, eLA0, eLI1, eLI2, eLI3, eRI, eSI1, eSI2, eSI3, eSP, fOr_readCondition_0, fOr_readCondition_9, fOr_readCondition_16, fOr_readCondition_20, fOr_readCondition_33, fOr_readCondition_51, fOr_readCondition_55, fOr_readCondition_65, fOr_readCondition_80, fOr_readCondition_82, fOr_readCondition_87, fOr_readCondition_93, bOr_readCondition_0, bOr_readCondition_9, bOr_readCondition_16, bOr_readCondition_20, bOr_readCondition_33, bOr_readCondition_51, bOr_readCondition_55, bOr_readCondition_65, bOr_readCondition_80, bOr_readCondition_82, bOr_readCondition_87, bOr_readCondition_93, rg_xopinionReader_0, ty_xopinionReader, ty_xtape, Option.toList_some, Option.toList_none, List.cons_append, List.nil_append, List.length_cons, List.length_nil, List.mem_cons, List.not_mem_nil, or_false, false_or, or_true, true_or, ↓reduceIte, true_and, and_true, Nat.reduceEqDiff, Nat.reduceAdd, Nat.reduceLeDiff, Nat.reduceLT, dl_i, dl_r, dl_n, dl_u, eq_self, not_true_eq_false, not_false_eq_true, n10, n01, nm0, n0m, hG1, imp_t, imp_f]
        refine call0 (x_takes (v := 16) hG hK'.1.1 (by decide) (fun q => ?_) (fun q => ?_))
        · rw [hss] at q ⊢
          have q' : wcode T n s = w_or := q
          have hsp : spW T n w_or 11 c = some (11, wEnd T n s) := by unfold spW; rw [← hse, if_pos q']
          have hlt := wEnd_lt hs.2 q' (by decide)
          have hRk : R = bnd (.ok (s, M')) (fun _ => bnd (val (wEnd T n s)) (rwG T n (spW T n w_and 10) (spW T n w_or 11) val 11)) := by
            rw [hRc, ← hM]
            refine bnd_c (fun c' N hc' => ?_)
            cases hc'
            rw [rwG_2 hS hS2 hGs.gd hcn e00 hsp (by omega), ← hse]
          simp only [ixr_of, run_s, run_0, rOr_readCondition, rok_i, rok_z, bx_cons, bx_nil, eC0, eC1, eCV0, eCV1, eGO, eGR, eGS, jICge, jIFeq, jIFne, eINC3, eLA0, eLI1, eLI2, eLI3, eRI, eSI1, eSI2, eSI3, eSP, fOr_readCondition_0, fOr_readCondition_9, fOr_readCondition_16, fOr_readCondition_20, fOr_readCondition_33, fOr_readCondition_51, fOr_readCondition_55, fOr_readCondition_65, fOr_readCondition_80, fOr_readCondition_82, fOr_readCondition_87, fOr_readCondition_93, bOr_readCondition_0, bOr_readCondition_9, bOr_readCondition_16, bOr_readCondition_20, bOr_readCondition_33, bOr_readCondition_51, bOr_readCondition_55, bOr_readCondition_65, bOr_readCondition_80, bOr_readCondition_82, bOr_readCondition_87, bOr_readCondition_93, rg_xopinionReader_0, ty_xopinionReader, ty_xtape, Option.toList_some, Option.toList_none, List.cons_append, List.nil_append, List.length_cons, List.length_nil, List.mem_cons, List.not_mem_nil, or_false, false_or, or_true, true_or, ↓reduceIte, true_and, and_true, Nat.reduceEqDiff, Nat.reduceAdd, Nat.reduceLeDiff, Nat.reduceLT, dl_i, dl_r, dl_n, dl_u, eq_self, not_true_eq_false, not_false_eq_true, n10, n01, nm0, n0m, imp_t, imp_f]
          refine call0 (hval _ _ _ _ _ _ _ _ _ _ _ hG hR (hK'.at ho.1 hlt.2 (by omega)) (fun c' M2 K2 e2 F2 K2s => ?_) (fun e K2 e2 F2 K2s => ?_))
          · have hgc := hGs _ _ _ hlt.2 e2
            simp only [ixr_of, run_s, run_0, rOr_readCondition, rok_i, rok_z, bx_cons, bx_nil, eC0, eC1, eCV0, eCV1, eGO, eGR, eGS, jICge, jIFeq, jIFne, eINC3, eLA0, eLI1, eLI2, eLI3, eRI, eSI1, eSI2, eSI3, eSP, fOr_readCondition_0, fOr_readCondition_9, fOr_readCondition_16, fOr_readCondition_20, fOr_readCondition_33, fOr_readCondition_51, fOr_readCondition_55, fOr_readCondition_65, fOr_readCondition_80, fOr_readCondition_82, fOr_readCondition_87, fOr_readCondition_93, bOr_readCondition_0, bOr_readCondition_9, bOr_readCondition_16, bOr_readCondition_20, bOr_readCondition_33, bOr_readCondition_51, bOr_readCondition_55, bOr_readCondition_65, bOr_readCondition_80, bOr_readCondition_82, bOr_readCondition_87, bOr_readCondition_93, rg_xopinionReader_0, ty_xopinionReader, ty_xtape, Option.toList_some, Option.toList_none, List.cons_append, List.nil_append, List.length_cons, List.length_nil, List.mem_cons, List.not_mem_nil, or_false, false_or, or_true, true_or, ↓reduceIte, true_and, and_true, Nat.reduceEqDiff, Nat.reduceAdd, Nat.reduceLeDiff, Nat.reduceLT, dl_i, dl_r, dl_n, dl_u, eq_self, not_true_eq_false, not_false_eq_true, n10, n01, nm0, n0m, imp_t, imp_f]
            refine nxt i c' 11 (M' ++ M2) _ (by omega) (by omega) rfl (Or.inr rfl) (fun _ => by rw [map_e, List.length_append, List.length_map]; omega) ?_ ((hF'.tr (Fz.tp ho.1)).tr F2) ?_
            · rw [hRk, e2]
              exact bnd_st rfl
            · rw [map_e]
              exact K2s
          · simp only [ixr_of, run_s, run_0, rOr_readCondition, rok_i, rok_z, bx_cons, bx_nil, eC0, eC1, eCV0, eCV1, eGO, eGR, eGS, jICge, jIFeq, jIFne, eINC3, eLA0, eLI1, eLI2, eLI3, eRI, eSI1, eSI2, eSI3, eSP, fOr_readCondition_0, fOr_readCondition_9, fOr_readCondition_16, fOr_readCondition_20, fOr_readCondition_33, fOr_readCondition_51, fOr_readCondition_55, fOr_readCondition_65, fOr_readCondition_80, fOr_readCondition_82, fOr_readCondition_87, fOr_readCondition_93, bOr_readCondition_0, bOr_readCondition_9, bOr_readCondition_16, bOr_readCondition_20, bOr_readCondition_33, bOr_readCondition_51, bOr_readCondition_55, bOr_readCondition_65, bOr_readCondition_80, bOr_readCondition_82, bOr_readCondition_87, bOr_readCondition_93, rg_xopinionReader_0, ty_xopinionReader, ty_xtape, Option.toList_some, Option.toList_none, List.cons_append, List.nil_append, List.length_cons, List.length_nil, List.mem_cons, List.not_mem_nil, or_false, false_or, or_true, true_or, ↓reduceIte, true_and, and_true, Nat.reduceEqDiff, Nat.reduceAdd, Nat.reduceLeDiff, Nat.reduceLT, dl_i, dl_r, dl_n, dl_u, eq_self, not_true_eq_false, not_false_eq_true, n10, n01, nm0, n0m, imp_t, imp_f]
            refine bad _ e _ _ ?_ ((hF'.tr (Fz.tp ho.1)).tr F2) K2s
            rw [hRk, e2]
            exact bnd_se rfl
        · rw [hss] at q ⊢
          have q' : ¬ wcode T n s = w_or := q
          have e01 : spW T n w_or 11 c = none := by unfold spW; rw [← hse, if_neg q']
          simp only [ixr_of, run_s, run_0, rOr_readCondition, rok_i, rok_z, bx_cons, bx_nil, eC0, eC1, eCV0, eCV1, eGO, eGR, eGS, jICge, jIFeq, jIFne, eINC3, eLA0, eLI1, eLI2, eLI3, eRI, eSI1, eSI2, eSI3, eSP, fOr_readCondition_0, fOr_readCondition_9, fOr_readCondition_16, fOr_readCondition_20, fOr_readCondition_33, fOr_readCondition_51, fOr_readCondition_55, fOr_readCondition_65, fOr_readCondition_80, fOr_readCondition_82, fOr_readCondition_87, fOr_readCondition_93, bOr_readCondition_0, bOr_readCondition_9, bOr_readCondition_16, bOr_readCondition_20, bOr_readCondition_33, bOr_readCondition_51, bOr_readCondition_55, bOr_readCondition_65, bOr_readCondition_80, bOr_readCondition_82, bOr_readCondition_87, bOr_readCondition_93, rg_xopinionReader_0, ty_xopinionReader, ty_xtape, Option.toList_some, Option.toList_none, List.cons_append, List.nil_append, List.length_cons, List.length_nil, List.mem_cons, List.not_mem_nil, or_false, false_or, or_true, true_or, ↓reduceIte, true_and, and_true, Nat.reduceEqDiff, Nat.reduceAdd, Nat.reduceLeDiff, Nat.reduceLT, dl_i, dl_r, dl_n, dl_u, eq_self, not_true_eq_false, not_false_eq_true, n10, n01, nm0, n0m, imp_t, imp_f]
          refine h1 s M' _ ?_ (hF'.tr (Fz.tp ho.1)) (hK'.at ho.1 (by omega) (by omega))
          have e3 : rwG T n (spW T n w_and 10) (spW T n w_or 11) val w c = bnd (emS w s) (fun c => .ok (c, [])) := by
            rw [rwG_3 hS2 hcn e00 e01, ← hse]
            unfold emS
            by_cases hw0 : w = 0
            · rw [if_pos hw0]; rfl
            · rw [if_neg hw0]; rfl
          have e4 := hM (fun c => .ok (c, []))
          rw [hRc]
          refine Eq.trans ?_ (e4.trans ?_)
          · refine bnd_c (fun c' N hc' => ?_)
            cases hc'
            exact e3
          · rw [bnd_o]
            dsimp only
            rw [List.append_nil]
      refine hgo 20 [9, 65, 87] 9 _ _ _ _ _ ?_
      simp only [ixr_of, run_s, run_0, rOr_readCondition, rok_i, rok_z, bx_cons, bx_nil, eC0, eC1, eCV0, eCV1, eGO, eGR, eGS, jICge, jIFeq, jIFne, eINC3, eLA0, eLI1, eLI2, eLI3, eRI, eSI1, eSI2, eSI3, eSP, fOr_readCondition_0, fOr_readCondition_9, fOr_readCondition_16, fOr_readCondition_20, fOr_readCondition_33, fOr_readCondition_51, fOr_readCondition_55, fOr_readCondition_65, fOr_readCondition_80, fOr_readCondition_82, fOr_readCondition_87, fOr_readCondition_93, bOr_readCondition_0, bOr_readCondition_9, bOr_readCondition_16, bOr_readCondition_20, bOr_readCondition_33, bOr_readCondition_51, bOr_readCondition_55, bOr_readCondition_65, bOr_readCondition_80, bOr_readCondition_82, bOr_readCondition_87, bOr_readCondition_93, rg_xopinionReader_0, ty_xopinionReader, ty_xtape, Option.toList_some, Option.toList_none, List.cons_append, List.nil_append, List.length_cons, List.length_nil, List.mem_cons, List.not_mem_nil, or_false, false_or, or_true, true_or, ↓reduceIte, true_and, and_true, Nat.reduceEqDiff, Nat.reduceAdd, Nat.reduceLeDiff, Nat.reduceLT, dl_i, dl_r, dl_n, dl_u, eq_self, not_true_eq_false, not_false_eq_true, n10, n01, nm0, n0m, hG1, imp_t, imp_f]
      rw [nIl (by omega) (by omega)]
      refine ⟨fun q => absurd q (by omega), fun _ => ?_⟩
      refine call0 (x_takes (v := 17) hG hK.1.1 (by decide) (fun q => ?_) (fun q => ?_))
      · rw [← hse] at q ⊢
        have q' : wcode T n s = w_and := q
        have hsp : spW T n w_and 10 c = some (10, wEnd T n s) := by unfold spW; rw [← hse, if_pos q']
        have hq := hS.1 c 10 _ hcn hsp
        have hlt := wEnd_lt hs.2 q' (by decide)
        rw [bnd_st (N := []) (s := c) (G := fun _ => bnd (val (wEnd T n s)) (fun c => bnd (say1 (10, 0) c) (rwG T n (spW T n w_and 10) (spW T n w_or 11) val w))) (by rw [rwG_1 hS hGs.gd hcn hsp, bnd_n]), List.append_nil] at hRc
        simp only [ixr_of, run_s, run_0, rOr_readCondition, rok_i, rok_z, bx_cons, bx_nil, eC0, eC1, eCV0, eCV1, eGO, eGR, eGS, jICge, jIFeq, jIFne, eINC3, eLA0, eLI1, eLI2, eLI3, eRI, eSI1, eSI2, eSI3, eSP, fOr_readCondition_0, fOr_readCondition_9, fOr_readCondition_16, fOr_readCondition_20, fOr_readCondition_33, fOr_readCondition_51, fOr_readCondition_55, fOr_readCondition_65, fOr_readCondition_80, fOr_readCondition_82, fOr_readCondition_87, fOr_readCondition_93, bOr_readCondition_0, bOr_readCondition_9, bOr_readCondition_16, bOr_readCondition_20, bOr_readCondition_33, bOr_readCondition_51, bOr_readCondition_55, bOr_readCondition_65, bOr_readCondition_80, bOr_readCondition_82, bOr_readCondition_87, bOr_readCondition_93, rg_xopinionReader_0, ty_xopinionReader, ty_xtape, Option.toList_some, Option.toList_none, List.cons_append, List.nil_append, List.length_cons, List.length_nil, List.mem_cons, List.not_mem_nil, or_false, false_or, or_true, true_or, ↓reduceIte, true_and, and_true, Nat.reduceEqDiff, Nat.reduceAdd, Nat.reduceLeDiff, Nat.reduceLT, dl_i, dl_r, dl_n, dl_u, eq_self, not_true_eq_false, not_false_eq_true, n10, n01, nm0, n0m, imp_t, imp_f]
        refine call0 (hval _ _ _ _ _ _ _ _ _ _ _ hG hR (hK.at ho.1 hq.2 (by omega)) (fun c' M' K2 e2 F2 K2s => ?_) (fun e K2 e2 F2 K2s => ?_))
        · have hgc := hGs _ _ _ hq.2 e2
          have hlm : (L ++ M.map enc ++ M'.map enc).length + 1 ≤ c' := by
            rw [List.length_append, List.length_map]
            omega
          have hc150 := K2s.1.1.2.2.2.2.2
          simp only [ixr_of, run_s, run_0, rOr_readCondition, rok_i, rok_z, bx_cons, bx_nil, eC0, eC1, eCV0, eCV1, eGO, eGR, eGS, jICge, jIFeq, jIFne, eINC3, eLA0, eLI1, eLI2, eLI3, eRI, eSI1, eSI2, eSI3, eSP, fOr_readCondition_0, fOr_readCondition_9, fOr_readCondition_16, fOr_readCondition_20, fOr_readCondition_33, fOr_readCondition_51, fOr_readCondition_55, fOr_readCondition_65, fOr_readCondition_80, fOr_readCondition_82, fOr_readCondition_87, fOr_readCondition_93, bOr_readCondition_0, bOr_readCondition_9, bOr_readCondition_16, bOr_readCondition_20, bOr_readCondition_33, bOr_readCondition_51, bOr_readCondition_55, bOr_readCondition_65, bOr_readCondition_80, bOr_readCondition_82, bOr_readCondition_87, bOr_readCondition_93, rg_xopinionReader_0, ty_xopinionReader, ty_xtape, Option.toList_some, Option.toList_none, List.cons_append, List.nil_append, List.length_cons, List.length_nil, List.mem_cons, List.not_mem_nil, or_false, false_or, or_true, true_or, ↓reduceIte, true_and, and_true, Nat.reduceEqDiff, Nat.reduceAdd, Nat.reduceLeDiff, Nat.reduceLT, dl_i, dl_r, dl_n, dl_u, eq_self, not_true_eq_false, not_false_eq_true, n10, n01, nm0, n0m, r1, tO, imp_t, imp_f]
          refine call0 (x_add hR.1 K2s.2.2.1.1 (by omega) ?_)
          simp only [ixr_of, run_s, run_0, rOr_readCondition, rok_i, rok_z, bx_cons, bx_nil, eC0, eC1, eCV0, eCV1, eGO, eGR, eGS, jICge, jIFeq, jIFne, eINC3, eLA0, eLI1, eLI2, eLI3, eRI, eSI1, eSI2, eSI3, eSP, fOr_readCondition_0, fOr_readCondition_9, fOr_readCondition_16, fOr_readCondition_20, fOr_readCondition_33, fOr_readCondition_51, fOr_readCondition_55, fOr_readCondition_65, fOr_readCondition_80, fOr_readCondition_82, fOr_readCondition_87, fOr_readCondition_93, bOr_readCondition_0, bOr_readCondition_9, bOr_readCondition_16, bOr_readCondition_20, bOr_readCondition_33, bOr_readCondition_51, bOr_readCondition_55, bOr_readCondition_65, bOr_readCondition_80, bOr_readCondition_82, bOr_readCondition_87, bOr_readCondition_93, rg_xopinionReader_0, ty_xopinionReader, ty_xtape, Option.toList_some, Option.toList_none, List.cons_append, List.nil_append, List.length_cons, List.length_nil, List.mem_cons, List.not_mem_nil, or_false, false_or, or_true, true_or, ↓reduceIte, true_and, and_true, Nat.reduceEqDiff, Nat.reduceAdd, Nat.reduceLeDiff, Nat.reduceLT, dl_i, dl_r, dl_n, dl_u, eq_self, not_true_eq_false, not_false_eq_true, n10, n01, nm0, n0m, imp_t, imp_f]
          refine nxt i c' w (M ++ (M' ++ [(10, 0)])) _ (by omega) (by omega) rfl hw (fun q => by have := hwl q; rw [map_e, map_e, List.length_append, List.length_append, List.length_map, List.length_map]; simp only [List.length_cons, List.length_nil]; omega) ?_ (((hF.tr (Fz.tp ho.1)).tr F2).tr (Fz.ad ho.1)) ?_
          · rw [hRc, e2]
            refine bnd_st ?_
            exact bnd_st bnd_1
          · rw [map_e, map_e, List.map_singleton]
            exact K2s.ad ho hlm (by decide)
        · simp only [ixr_of, run_s, run_0, rOr_readCondition, rok_i, rok_z, bx_cons, bx_nil, eC0, eC1, eCV0, eCV1, eGO, eGR, eGS, jICge, jIFeq, jIFne, eINC3, eLA0, eLI1, eLI2, eLI3, eRI, eSI1, eSI2, eSI3, eSP, fOr_readCondition_0, fOr_readCondition_9, fOr_readCondition_16, fOr_readCondition_20, fOr_readCondition_33, fOr_readCondition_51, fOr_readCondition_55, fOr_readCondition_65, fOr_readCondition_80, fOr_readCondition_82, fOr_readCondition_87, fOr_readCondition_93, bOr_readCondition_0, bOr_readCondition_9, bOr_readCondition_16, bOr_readCondition_20, bOr_readCondition_33, bOr_readCondition_51, bOr_readCondition_55, bOr_readCondition_65, bOr_readCondition_80, bOr_readCondition_82, bOr_readCondition_87, bOr_readCondition_93, rg_xopinionReader_0, ty_xopinionReader, ty_xtape, Option.toList_some, Option.toList_none, List.cons_append, List.nil_append, List.length_cons, List.length_nil, List.mem_cons, List.not_mem_nil, or_false, false_or, or_true, true_or, ↓reduceIte, true_and, and_true, Nat.reduceEqDiff, Nat.reduceAdd, Nat.reduceLeDiff, Nat.reduceLT, dl_i, dl_r, dl_n, dl_u, eq_self, not_true_eq_false, not_false_eq_true, n10, n01, nm0, n0m, r1, tO, imp_t, imp_f]
          refine call0 (x_addw ho.1 hR.1 K2s (fun K3 F3 K3s => ?_))
          simp only [ixr_of, run_s, run_0, rOr_readCondition, rok_i, rok_z, bx_cons, bx_nil, eC0, eC1, eCV0, eCV1, eGO, eGR, eGS, jICge, jIFeq, jIFne, eINC3, eLA0, eLI1, eLI2, eLI3, eRI, eSI1, eSI2, eSI3, eSP, fOr_readCondition_0, fOr_readCondition_9, fOr_readCondition_16, fOr_readCondition_20, fOr_readCondition_33, fOr_readCondition_51, fOr_readCondition_55, fOr_readCondition_65, fOr_readCondition_80, fOr_readCondition_82, fOr_readCondition_87, fOr_readCondition_93, bOr_readCondition_0, bOr_readCondition_9, bOr_readCondition_16, bOr_readCondition_20, bOr_readCondition_33, bOr_readCondition_51, bOr_readCondition_55, bOr_readCondition_65, bOr_readCondition_80, bOr_readCondition_82, bOr_readCondition_87, bOr_readCondition_93, rg_xopinionReader_0, ty_xopinionReader, ty_xtape, Option.toList_some, Option.toList_none, List.cons_append, List.nil_append, List.length_cons, List.length_nil, List.mem_cons, List.not_mem_nil, or_false, false_or, or_true, true_or, ↓reduceIte, true_and, and_true, Nat.reduceEqDiff, Nat.reduceAdd, Nat.reduceLeDiff, Nat.reduceLT, dl_i, dl_r, dl_n, dl_u, eq_self, not_true_eq_false, not_false_eq_true, n10, n01, nm0, n0m, imp_t, imp_f]
          refine bad _ e _ _ ?_ (((hF.tr (Fz.tp ho.1)).tr F2).tr F3) K3s
          rw [hRc, e2]
          exact bnd_se rfl
      · rw [← hse] at q ⊢
        have n1 : ¬ wcode T n s = w_and := q
        have hKs := hK.at (s := s) ho.1 hs.2 (by omega)
        by_cases hw0 : w = 0
        · have hwt : wtb w = nI 0 := by rw [hw0]; rfl
          simp only [ixr_of, run_s, run_0, rOr_readCondition, rok_i, rok_z, bx_cons, bx_nil, eC0, eC1, eCV0, eCV1, eGO, eGR, eGS, jICge, jIFeq, jIFne, eINC3, eLA0, eLI1, eLI2, eLI3, eRI, eSI1, eSI2, eSI3, eSP, fOr_readCondition_0, fOr_readCondition_9, fOr_readCondition_16, fOr_readCondition_20, fOr_readCondition_33, fOr_readCondition_51, fOr_readCondition_55, fOr_readCondition_65, fOr_readCondition_80, fOr_readCondition_82, fOr_readCondition_87, fOr_readCondition_93, bOr_readCondition_0, bOr_readCondition_9, bOr_readCondition_16, bOr_readCondition_20, bOr_readCondition_33, bOr_readCondition_51, bOr_readCondition_55, bOr_readCondition_65, bOr_readCondition_80, bOr_readCondition_82, bOr_readCondition_87, bOr_readCondition_93, rg_xopinionReader_0, ty_xopinionReader, ty_xtape, Option.toList_some, Option.toList_none, List.cons_append, List.nil_append, List.length_cons, List.length_nil, List.mem_cons, List.not_mem_nil, or_false, false_or, or_true, true_or, ↓reduceIte, true_and, and_true, Nat.reduceEqDiff, Nat.reduceAdd, Nat.reduceLeDiff, Nat.reduceLT, dl_i, dl_r, dl_n, dl_u, eq_self, not_true_eq_false, not_false_eq_true, n10, n01, nm0, n0m, hwt, imp_t, imp_f]
          refine a65 M _ _ n1 (fun G => ?_) (hF.tr (Fz.tp ho.1)) hKs
          rw [hw0]
          refine (bnd_st (N := []) rfl).trans ?_
          rw [List.append_nil]
        · have hwt : wtb w = nI 1 := if_neg hw0
          have hw' : w = 11 := hw.resolve_left hw0
          have hl1 := hwl hw0
          have hs150 := hs.2
          simp only [ixr_of, run_s, run_0, rOr_readCondition, rok_i, rok_z, bx_cons, bx_nil, eC0, eC1, eCV0, eCV1, eGO, eGR, eGS, jICge, jIFeq, jIFne, eINC3, eLA0, eLI1, eLI2, eLI3, eRI, eSI1, eSI2, eSI3, eSP, fOr_readCondition_0, fOr_readCondition_9, fOr_readCondition_16, fOr_readCondition_20, fOr_readCondition_33, fOr_readCondition_51, fOr_readCondition_55, fOr_readCondition_65, fOr_readCondition_80, fOr_readCondition_82, fOr_readCondition_87, fOr_readCondition_93, bOr_readCondition_0, bOr_readCondition_9, bOr_readCondition_16, bOr_readCondition_20, bOr_readCondition_33, bOr_readCondition_51, bOr_readCondition_55, bOr_readCondition_65, bOr_readCondition_80, bOr_readCondition_82, bOr_readCondition_87, bOr_readCondition_93, rg_xopinionReader_0, ty_xopinionReader, ty_xtape, Option.toList_some, Option.toList_none, List.cons_append, List.nil_append, List.length_cons, List.length_nil, List.mem_cons, List.not_mem_nil, or_false, false_or, or_true, true_or, ↓reduceIte, true_and, and_true, Nat.reduceEqDiff, Nat.reduceAdd, Nat.reduceLeDiff, Nat.reduceLT, dl_i, dl_r, dl_n, dl_u, eq_self, not_true_eq_false, not_false_eq_true, n10, n01, nm0, n0m, hwt, r1, tO, imp_t, imp_f]
          refine call0 (x_add hR.1 hKs.2.2.1.1 (by omega) ?_)
          simp only [ixr_of, run_s, run_0, rOr_readCondition, rok_i, rok_z, bx_cons, bx_nil, eC0, eC1, eCV0, eCV1, eGO, eGR, eGS, jICge, jIFeq, jIFne, eINC3, eLA0, eLI1, eLI2, eLI3, eRI, eSI1, eSI2, eSI3, eSP, fOr_readCondition_0, fOr_readCondition_9, fOr_readCondition_16, fOr_readCondition_20, fOr_readCondition_33, fOr_readCondition_51, fOr_readCondition_55, fOr_readCondition_65, fOr_readCondition_80, fOr_readCondition_82, fOr_readCondition_87, fOr_readCondition_93, bOr_readCondition_0, bOr_readCondition_9, bOr_readCondition_16, bOr_readCondition_20, bOr_readCondition_33, bOr_readCondition_51, bOr_readCondition_55, bOr_readCondition_65, bOr_readCondition_80, bOr_readCondition_82, bOr_readCondition_87, bOr_readCondition_93, rg_xopinionReader_0, ty_xopinionReader, ty_xtape, Option.toList_some, Option.toList_none, List.cons_append, List.nil_append, List.length_cons, List.length_nil, List.mem_cons, List.not_mem_nil, or_false, false_or, or_true, true_or, ↓reduceIte, true_and, and_true, Nat.reduceEqDiff, Nat.reduceAdd, Nat.reduceLeDiff, Nat.reduceLT, dl_i, dl_r, dl_n, dl_u, eq_self, not_true_eq_false, not_false_eq_true, n10, n01, nm0, n0m, imp_t, imp_f]
          refine a65 (M ++ [(w, 0)]) _ _ n1 (fun G => ?_) ((hF.tr (Fz.tp ho.1)).tr (Fz.ad ho.1)) ?_
          · refine bnd_st ?_
            rw [show emS w s = say1 (w, 0) s from if_neg hw0]
            rfl
          · subst hw'
            rw [map_e, List.map_singleton]
            exact hKs.ad ho (by omega) (by decide)
  refine hgo 20 [9] 0 _ _ _ _ _ ?_
  simp only [ixr_of, run_s, run_0, rOr_readCondition, rok_i, rok_z, bx_cons, bx_nil, eC0, eC1, eCV0, eCV1, eGO, eGR, eGS, jICge, jIFeq, jIFne, eINC3, eLA0, eLI1, eLI2, eLI3, eRI, eSI1, eSI2, eSI3, eSP, fOr_readCondition_0, fOr_readCondition_9, fOr_readCondition_16, fOr_readCondition_20, fOr_readCondition_33, fOr_readCondition_51, fOr_readCondition_55, fOr_readCondition_65, fOr_readCondition_80, fOr_readCondition_82, fOr_readCondition_87, fOr_readCondition_93, bOr_readCondition_0, bOr_readCondition_9, bOr_readCondition_16, bOr_readCondition_20, bOr_readCondition_33, bOr_readCondition_51, bOr_readCondition_55, bOr_readCondition_65, bOr_readCondition_80, bOr_readCondition_82, bOr_readCondition_87, bOr_readCondition_93, rg_xopinionReader_0, ty_xopinionReader, ty_xtape, Option.toList_some, Option.toList_none, List.cons_append, List.nil_append, List.length_cons, List.length_nil, List.mem_cons, List.not_mem_nil, or_false, false_or, or_true, true_or, ↓reduceIte, true_and, and_true, Nat.reduceEqDiff, Nat.reduceAdd, Nat.reduceLeDiff, Nat.reduceLT, dl_i, dl_r, dl_n, dl_u, eq_self, not_true_eq_false, not_false_eq_true, n10, n01, nm0, n0m, imp_t, imp_f]
  refine call0 (hval _ _ _ _ _ _ _ _ _ _ _ hG hR h (fun c M K e1 F1 K1 => ?_) (fun e K e1 F1 K1 => ?_))
  · have hg := hGs _ _ _ ha e1
    simp only [ixr_of, run_s, run_0, rOr_readCondition, rok_i, rok_z, bx_cons, bx_nil, eC0, eC1, eCV0, eCV1, eGO, eGR, eGS, jICge, jIFeq, jIFne, eINC3, eLA0, eLI1, eLI2, eLI3, eRI, eSI1, eSI2, eSI3, eSP, fOr_readCondition_0, fOr_readCondition_9, fOr_readCondition_16, fOr_readCondition_20, fOr_readCondition_33, fOr_readCondition_51, fOr_readCondition_55, fOr_readCondition_65, fOr_readCondition_80, fOr_readCondition_82, fOr_readCondition_87, fOr_readCondition_93, bOr_readCondition_0, bOr_readCondition_9, bOr_readCondition_16, bOr_readCondition_20, bOr_readCondition_33, bOr_readCondition_51, bOr_readCondition_55, bOr_readCondition_65, bOr_readCondition_80, bOr_readCondition_82, bOr_readCondition_87, bOr_readCondition_93, rg_xopinionReader_0, ty_xopinionReader, ty_xtape, Option.toList_some, Option.toList_none, List.cons_append, List.nil_append, List.length_cons, List.length_nil, List.mem_cons, List.not_mem_nil, or_false, false_or, or_true, true_or, ↓reduceIte, true_and, and_true, Nat.reduceEqDiff, Nat.reduceAdd, Nat.reduceLeDiff, Nat.reduceLT, dl_i, dl_r, dl_n, dl_u, eq_self, not_true_eq_false, not_false_eq_true, n10, n01, nm0, n0m, imp_t, imp_f]
    refine loop (n + 1) 0 c 0 M K (by omega) (by omega) (Or.inl rfl) (fun q => absurd rfl q) (by rw [hRe, e1]) F1 K1
  · simp only [ixr_of, run_s, run_0, rOr_readCondition, rok_i, rok_z, bx_cons, bx_nil, eC0, eC1, eCV0, eCV1, eGO, eGR, eGS, jICge, jIFeq, jIFne, eINC3, eLA0, eLI1, eLI2, eLI3, eRI, eSI1, eSI2, eSI3, eSP, fOr_readCondition_0, fOr_readCondition_9, fOr_readCondition_16, fOr_readCondition_20, fOr_readCondition_33, fOr_readCondition_51, fOr_readCondition_55, fOr_readCondition_65, fOr_readCondition_80, fOr_readCondition_82, fOr_readCondition_87, fOr_readCondition_93, bOr_readCondition_0, bOr_readCondition_9, bOr_readCondition_16, bOr_readCondition_20, bOr_readCondition_33, bOr_readCondition_51, bOr_readCondition_55, bOr_readCondition_65, bOr_readCondition_80, bOr_readCondition_82, bOr_readCondition_87, bOr_readCondition_93, rg_xopinionReader_0, ty_xopinionReader, ty_xtape, Option.toList_some, Option.toList_none, List.cons_append, List.nil_append, List.length_cons, List.length_nil, List.mem_cons, List.not_mem_nil, or_false, false_or, or_true, true_or, ↓reduceIte, true_and, and_true, Nat.reduceEqDiff, Nat.reduceAdd, Nat.reduceLeDiff, Nat.reduceLT, dl_i, dl_r, dl_n, dl_u, eq_self, not_true_eq_false, not_false_eq_true, n10, n01, nm0, n0m, imp_t, imp_f]
    exact bad9 K e _ _ (by rw [hRe, e1]; rfl) F1 K1
theorem rd_oneD (hT : Tx T n) : ∀ f, f ≤ 6 → RdX T n mOr_readTest 10 f (oneD T n f)
  | 0, h => rd_test hT h (fun g e => by omega) (fun g e => by omega)
  | f + 1, h => rd_test hT h (fun g e => by cases e; exact rd_oneD hT f (by omega)) (fun g e => by cases e; exact rd_cond hT (by omega) (oneD_g hT f) (rd_oneD hT f (by omega)))
theorem rd_anyD (hT : Tx T n) {f : Nat} (h : f ≤ 6) : RdX T n mOr_readCondition 11 f (anyW T n (oneD T n f)) := rd_cond hT h (oneD_g hT f) (rd_oneD hT f h)
end XOc
