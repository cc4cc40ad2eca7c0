/-! tasters: by the book, by the basins -/
theorem NQ.beg {I J K : Iv} {y t : Nat} {S : Tn} (hX : XTn J t S) (hS : TnV S) (hB : BgD J K y t S.1.1 (fun v => vz S v 3)) (hr : ∀ k, k < 502 → I 500127 k = bgR S k) : NQ K y S 0 (I 500127) (nI 0) (nI 0) (fun _ => nI 0) := by
  have h := begin_rel hX hS hB hr
  obtain ⟨-, ⟨k7, k8, k9, k10, k11, k12, k13, k14, k15, k16, k17⟩, kb, kp, kz⟩ := hB
  exact ⟨h, k10, k11, fun v _ => ⟨by rw [kz 6 (by decide) (by decide)], 0, by omega, rfl⟩, k14, k17⟩
theorem NQ.pe0 {I J : Iv} {y n : Nat} {S : Tn} {r : Nat → Int32} {pl co : Int32} (hS : TnV S) (hq : NQ J y S n r pl co (fun _ => nI 0)) (hM : MT I S) : Pe S.1.1 (PmD J y S) (plS pl, coS co, sn0 I, nI 0) := by
  have s9 := hS.1
  refine ⟨fun v hv => ⟨?_, ?_, fun h hh => ?_⟩, hq.2.2.2.2.2⟩
  · show (!plX J y v) = plS pl v
    unfold plX
    rw [hq.2.1]
    exact pl_n
  · show coX J y v = coS co v
    unfold coX coS
    rw [hq.2.2.1]
  · show snX S (J (y + 6)) (J y 14, J y 15) v h = sn0 I v h
    rw [hq.sn hS hv hh, sn_mt hM hv hh, nI_zero, Int32.add_zero]
theorem vw_8 {r : Nat → Int32} : ∃ k, k < 8 ∧ vwI r = nI k := by
  unfold vwI
  by_cases a : nI 0 < r 498 <;> by_cases b : nI 0 < r 499 <;> by_cases c : nI 0 < r 500
  · exact ⟨7, by decide, by rw [if_pos a, if_pos b, if_pos c]; decide⟩
  · exact ⟨3, by decide, by rw [if_pos a, if_pos b, if_neg c]; decide⟩
  · exact ⟨5, by decide, by rw [if_pos a, if_neg b, if_pos c]; decide⟩
  · exact ⟨1, by decide, by rw [if_pos a, if_neg b, if_neg c]; decide⟩
  · exact ⟨6, by decide, by rw [if_neg a, if_pos b, if_pos c]; decide⟩
  · exact ⟨2, by decide, by rw [if_neg a, if_pos b, if_neg c]; decide⟩
  · exact ⟨4, by decide, by rw [if_neg a, if_neg b, if_pos c]; decide⟩
  · exact ⟨0, by decide, by rw [if_neg a, if_neg b, if_neg c]; decide⟩
/-- the view behind d days from the begin, x the contrary -/
def vwB (I : Iv) (nV nC : Nat) (x : Int32) (d : Nat) : Int32 := vwI (gR I nV nC (pmB I x) (I 500127) d)
def LnP (I : Iv) (nV nC : Nat) (x : Int32) (p : Nat × Nat) : Prop := vwB I nV nC x p.1 = nI p.2
/-- a town begun as the model has it -/
def BgM (I : Iv) (S : Tn) : Prop := ∀ k, k < 502 → I 500127 k = bgR S k
def BkE (b : Bool) (E : Ev) (J : Iv) (kb : Nat) (bk : List (Nat × Nat)) : Prop := rget (shB b) E 58 3 = .ref kb ∧ idB kb ∧ XBk J kb bk ∧ BkV bk
theorem lsD_mm {x : Nat × Nat} : ∀ (ps : List (Nat × Nat)), x ∈ ps → x.1 ≤ lsD ps
  | [], h => absurd h (by simp)
  | p :: ps, h => by
    show _ ≤ max p.1 (lsD ps)
    rcases List.mem_cons.mp h with e | e
    · rw [e]; exact Nat.le_max_left _ _
    · exact Nat.le_trans (lsD_mm ps e) (Nat.le_max_right _ _)
theorem lsD_99 {ps : List (Nat × Nat)} (h : ∀ x ∈ ps, x.1 ≤ 99) : lsD ps ≤ 99 := by
  induction ps with
  | nil => show 0 ≤ 99; omega
  | cons p ps ih =>
    show max p.1 (lsD ps) ≤ 99
    exact Nat.max_le.mpr ⟨h p (by simp), ih (fun x hx => h x (by simp [hx]))⟩
section XQn
variable {Γ : Gm} {l : Launch} {b : Bool} {d : Nat} {I J : Iv} {E : Ev} {kr : Kr} {kx : Kxx} {y t n kb : Nat} {S : Tn} {PS : Nat → List Pt} {op : Nat → Nat} {bk : List (Nat × Nat)}
theorem BkE.xf {K : Iv} (h : BkE b E J kb bk) (hX : XF 59 J K) : BkE b E K kb bk := by
  obtain ⟨h1, h2, ⟨x1, x2, x3⟩, h4⟩ := h
  have e : ∀ i, kb ≤ i → i ≤ kb + 2 → K i = J i := fun i a c => by
    unfold idB at h2
    exact hX i (by omega) (by omega) (idV_n (by omega))
  exact ⟨h1, h2, ⟨by rw [e kb (by omega) (by omega)]; exact x1, by rw [e kb (by omega) (by omega)]; exact x2, fun i x hx => by rw [e (kb + 1) (by omega) (by omega), e (kb + 2) (by omega) (by omega)]; exact x3 i x hx⟩, h4⟩
theorem pmB_pe {K : Iv} {x : Int32} (hS : TnV S) (hM : MT I S) (hQ : NQ K 59 S 0 (I 500127) (nI 0) x (fun _ => nI 0)) : Pe S.1.1 (PmD K 59 S) (pmB I x) := by
  have s9 := hS.1
  have h := hQ.pe0 hS hM
  refine ⟨fun v hv => ⟨?_, (h.1 v hv).2⟩, h.2⟩
  rw [(h.1 v hv).1]
  show plS (nI 0) v = true
  rw [plS_N (by decide) (by omega), Nat.zero_testBit]
  rfl
theorem x_isRight {x : Int32} (hG : GX Γ) (hA : TwR b J E S PS t op) (hB : BkE b E J kb bk) (hI : SayT I J) (hBg : BgM I S)
    (h1 : (∀ p ∈ bk, LnP I S.1.1 S.1.2 x p) → ∀ K, XF 59 J K → kr (some (.int (nI 1))) K E) (h0 : (¬ ∀ p ∈ bk, LnP I S.1.1 S.1.2 x p) → ∀ K, XF 59 J K → kr (some (.int (nI 0))) K E) : Ex Γ l (shB b) (d + 6) (0, 0) mTs_isRight [.ref 58, .int x] J E kr kx := by
  refine ex_of (ls0 := [some (.ref 58), some (.int x), none]) tTs_isRight (by decide +kernel) kTs_isRight rfl (Nat.le_of_ble_eq_true rfl) rfl ?_
  intro go hgo
  have hS := hA.1.2.2.2.1
  have s9 := hS.1
  obtain ⟨r3, hT, hXt, -⟩ := id hA.1
  have tT : tyc (shB b) E t = 10 := (hT.A (b := b) (E := E)).1
  have ty59 : tyc (shB b) E 59 = 3 := dyA_59.1
  obtain ⟨rB, idb, xB, vB⟩ := id hB
  have tB : tyc (shB b) E kb = 2 := (idb.A (b := b) (E := E)).1
  have hMI := hA.2.1.t hS hI.sm
  have hl99 := lsD_99 (fun x hx => (vB.2 x hx).2.1)
  refine hgo 20 [24] 0 _ _ _ _ _ ?_
  simp only [ixr_of, run_s, run_0, rTs_isRight, rok_i, rok_z, bx_cons, bx_nil, eC0, eC1, eCV0, eCV1, eCV2, eGI, eGO, eGR, jICge, jICgt, eINC2, eLA0, eLI1, eLI2, ePI, eRI, eSI2, fTs_isRight_0, fTs_isRight_24, fTs_isRight_35, fTs_isRight_71, fTs_isRight_73, fTs_isRight_79, bTs_isRight_0, bTs_isRight_24, bTs_isRight_35, bTs_isRight_71, bTs_isRight_73, bTs_isRight_79, ln_xpatterns, rg_xtasters_0, rg_xtasters_1, rg_xtasters_2, ty_xaqueduct, ty_xpatterns, ty_xtasters, ty_xttrial, Option.toList_some, Option.toList_none, List.cons_append, List.nil_append, List.length_cons, List.length_nil, List.mem_cons, List.not_mem_nil, or_false, false_or, or_true, true_or, ↓reduceIte, true_and, and_true, Nat.reduceEqDiff, Nat.reduceAdd, Nat.reduceLeDiff, Nat.reduceLT, dl_i, dl_r, dl_n, dl_u, eq_self, not_true_eq_false, not_false_eq_true, n10, n01, nm0, n0m, r3, tT, imp_t, imp_f]
  refine call0 (x_dbegin (lg := fun v => vz S v 3) dyA_59 hT.A hXt.1 s9 (fun v hv => ⟨vz_5 hS, (hXt.2.2.2.2.2.2.1 v (by omega)).2.2.1⟩) (by unfold idT at hT; omega) (fun K hK => ?_))
  have hQ0 := NQ.beg hXt hS hK hBg
  have hQ := hQ0.uco (x := x) s9
  simp only [ixr_of, run_s, run_0, rTs_isRight, rok_i, rok_z, bx_cons, bx_nil, eC0, eC1, eCV0, eCV1, eCV2, eGI, eGO, eGR, jICge, jICgt, eINC2, eLA0, eLI1, eLI2, ePI, eRI, eSI2, fTs_isRight_0, fTs_isRight_24, fTs_isRight_35, fTs_isRight_71, fTs_isRight_73, fTs_isRight_79, bTs_isRight_0, bTs_isRight_24, bTs_isRight_35, bTs_isRight_71, bTs_isRight_73, bTs_isRight_79, ln_xpatterns, rg_xtasters_0, rg_xtasters_1, rg_xtasters_2, ty_xaqueduct, ty_xpatterns, ty_xtasters, ty_xttrial, Option.toList_some, Option.toList_none, List.cons_append, List.nil_append, List.length_cons, List.length_nil, List.mem_cons, List.not_mem_nil, or_false, false_or, or_true, true_or, ↓reduceIte, true_and, and_true, Nat.reduceEqDiff, Nat.reduceAdd, Nat.reduceLeDiff, Nat.reduceLT, dl_i, dl_r, dl_n, dl_u, eq_self, not_true_eq_false, not_false_eq_true, n10, n01, nm0, n0m, ty59, imp_t, imp_f]
  obtain ⟨K2, hK2⟩ : ∃ K2, K2 = up K 59 11 x := ⟨_, rfl⟩
  rw [← hK2] at hQ ⊢
  have hX2 : XF 59 J K2 := by rw [hK2]; exact XF.up (fun i _ h _ => hK.1 i h) (by decide) (by decide)
  have hP := pmB_pe hS hMI hQ
  have loop : ∀ (g k : Nat) (L : Iv), g + k = lsD bk → XF 59 J L → TwR b L E S PS t op → SayT I L → DyS S (PmD K2 59 S) 59 (0 + k) (it2 I S.1.1 S.1.2 (PmD K2 59 S) (I 500127, K2 59 16) k) L → (∀ p ∈ bk, p.1 ≤ k → LnP I S.1.1 S.1.2 x p) → go 24 [some (.ref 58), some (.int x), some (.int (nI (k + 1)))] [] L E (0, 0) := by
    intro g
    induction g with
    | zero =>
      intro k L hg hX hA' hI' hD hr
      have : k = lsD bk := by omega
      subst this
      have e3 := (hB.xf hX).2.2.1.2.1
      have c1 : (nI (lsD bk) < nI (lsD bk + 1)) = True := by rw [nIt (by omega) (by omega)]; exact eq_true (by omega)
      refine hgo 20 [24] 24 _ _ _ _ _ ?_
      simp only [ixr_of, run_s, run_0, rTs_isRight, rok_i, rok_z, bx_cons, bx_nil, eC0, eC1, eCV0, eCV1, eCV2, eGI, eGO, eGR, jICge, jICgt, eINC2, eLA0, eLI1, eLI2, ePI, eRI, eSI2, fTs_isRight_0, fTs_isRight_24, fTs_isRight_35, fTs_isRight_71, fTs_isRight_73, fTs_isRight_79, bTs_isRight_0, bTs_isRight_24, bTs_isRight_35, bTs_isRight_71, bTs_isRight_73, bTs_isRight_79, ln_xpatterns, rg_xtasters_0, rg_xtasters_1, rg_xtasters_2, ty_xaqueduct, ty_xpatterns, ty_xtasters, ty_xttrial, Option.toList_some, Option.toList_none, List.cons_append, List.nil_append, List.length_cons, List.length_nil, List.mem_cons, List.not_mem_nil, or_false, false_or, or_true, true_or, ↓reduceIte, true_and, and_true, Nat.reduceEqDiff, Nat.reduceAdd, Nat.reduceLeDiff, Nat.reduceLT, dl_i, dl_r, dl_n, dl_u, eq_self, not_true_eq_false, not_false_eq_true, n10, n01, nm0, n0m, rB, tB, e3, c1, imp_t, imp_f]
      exact h1 (fun p hp => hr p hp (lsD_mm bk hp)) L hX
    | succ g ih =>
      intro k L hg hX hA' hI' hD hr
      have e3 := (hB.xf hX).2.2.1.2.1
      have c1 : (nI (lsD bk) < nI (k + 1)) = False := by rw [nIt (by omega) (by omega)]; exact eq_false (by omega)
      refine hgo 20 [24] 24 _ _ _ _ _ ?_
      simp only [ixr_of, run_s, run_0, rTs_isRight, rok_i, rok_z, bx_cons, bx_nil, eC0, eC1, eCV0, eCV1, eCV2, eGI, eGO, eGR, jICge, jICgt, eINC2, eLA0, eLI1, eLI2, ePI, eRI, eSI2, fTs_isRight_0, fTs_isRight_24, fTs_isRight_35, fTs_isRight_71, fTs_isRight_73, fTs_isRight_79, bTs_isRight_0, bTs_isRight_24, bTs_isRight_35, bTs_isRight_71, bTs_isRight_73, bTs_isRight_79, ln_xpatterns, rg_xtasters_0, rg_xtasters_1, rg_xtasters_2, ty_xaqueduct, ty_xpatterns, ty_xtasters, ty_xttrial, Option.toList_some, Option.toList_none, List.cons_append, List.nil_append, List.length_cons, List.length_nil, List.mem_cons, List.not_mem_nil, or_false, false_or, or_true, true_or, ↓reduceIte, true_and, and_true, Nat.reduceEqDiff, Nat.reduceAdd, Nat.reduceLeDiff, Nat.reduceLT, dl_i, dl_r, dl_n, dl_u, eq_self, not_true_eq_false, not_false_eq_true, n10, n01, nm0, n0m, rB, tB, e3, c1, imp_t, imp_f]
      refine call0 (x_day hG hA' (Or.inr (Or.inl rfl)) hD (by omega) hI' (fun M d1 d2 d3 d4 => ?_))
      have d5 : DyS S (PmD K2 59 S) 59 (0 + (k + 1)) (it2 I S.1.1 S.1.2 (PmD K2 59 S) (I 500127, K2 59 16) (k + 1)) M := d4
      have d6 := d5.1
      rw [it2_pe hP, gR_of rfl] at d6
      simp only [ixr_of, run_s, run_0, rTs_isRight, rok_i, rok_z, bx_cons, bx_nil, eC0, eC1, eCV0, eCV1, eCV2, eGI, eGO, eGR, jICge, jICgt, eINC2, eLA0, eLI1, eLI2, ePI, eRI, eSI2, fTs_isRight_0, fTs_isRight_24, fTs_isRight_35, fTs_isRight_71, fTs_isRight_73, fTs_isRight_79, bTs_isRight_0, bTs_isRight_24, bTs_isRight_35, bTs_isRight_71, bTs_isRight_73, bTs_isRight_79, ln_xpatterns, rg_xtasters_0, rg_xtasters_1, rg_xtasters_2, ty_xaqueduct, ty_xpatterns, ty_xtasters, ty_xttrial, Option.toList_some, Option.toList_none, List.cons_append, List.nil_append, List.length_cons, List.length_nil, List.mem_cons, List.not_mem_nil, or_false, false_or, or_true, true_or, ↓reduceIte, true_and, and_true, Nat.reduceEqDiff, Nat.reduceAdd, Nat.reduceLeDiff, Nat.reduceLT, dl_i, dl_r, dl_n, dl_u, eq_self, not_true_eq_false, not_false_eq_true, n10, n01, nm0, n0m, rB, tB, imp_t, imp_f]
      refine call0 (x_seen dyA_59 ?_)
      rw [vw_dr d6]
      obtain ⟨vw, hvw, evw⟩ := vw_8 (r := gR I S.1.1 S.1.2 (pmB I x) (I 500127) (k + 1))
      rw [evw]
      have hXM := hX.tr d1
      obtain ⟨-, -, xB', -⟩ := hB.xf hXM
      simp only [ixr_of, run_s, run_0, rTs_isRight, rok_i, rok_z, bx_cons, bx_nil, eC0, eC1, eCV0, eCV1, eCV2, eGI, eGO, eGR, jICge, jICgt, eINC2, eLA0, eLI1, eLI2, ePI, eRI, eSI2, fTs_isRight_0, fTs_isRight_24, fTs_isRight_35, fTs_isRight_71, fTs_isRight_73, fTs_isRight_79, bTs_isRight_0, bTs_isRight_24, bTs_isRight_35, bTs_isRight_71, bTs_isRight_73, bTs_isRight_79, ln_xpatterns, rg_xtasters_0, rg_xtasters_1, rg_xtasters_2, ty_xaqueduct, ty_xpatterns, ty_xtasters, ty_xttrial, Option.toList_some, Option.toList_none, List.cons_append, List.nil_append, List.length_cons, List.length_nil, List.mem_cons, List.not_mem_nil, or_false, false_or, or_true, true_or, ↓reduceIte, true_and, and_true, Nat.reduceEqDiff, Nat.reduceAdd, Nat.reduceLeDiff, Nat.reduceLT, dl_i, dl_r, dl_n, dl_u, eq_self, not_true_eq_false, not_false_eq_true, n10, n01, nm0, n0m, rB, tB, imp_t, imp_f]
      refine call0 (x_firstWrong (idb.A) xB' vB (by omega) hvw ?_)
      obtain ⟨f1, f2, f3, f4⟩ := fwF_s (ps := bk) (dy := k + 1) (vw := vw) bk.length 0 (by omega)
      generalize fwF bk (k + 1) vw bk.length 0 = fw at *
      have e2 := xB'.1
      have hl := vB.1
      simp only [ixr_of, run_s, run_0, rTs_isRight, rok_i, rok_z, bx_cons, bx_nil, eC0, eC1, eCV0, eCV1, eCV2, eGI, eGO, eGR, jICge, jICgt, eINC2, eLA0, eLI1, eLI2, ePI, eRI, eSI2, fTs_isRight_0, fTs_isRight_24, fTs_isRight_35, fTs_isRight_71, fTs_isRight_73, fTs_isRight_79, bTs_isRight_0, bTs_isRight_24, bTs_isRight_35, bTs_isRight_71, bTs_isRight_73, bTs_isRight_79, ln_xpatterns, rg_xtasters_0, rg_xtasters_1, rg_xtasters_2, ty_xaqueduct, ty_xpatterns, ty_xtasters, ty_xttrial, Option.toList_some, Option.toList_none, List.cons_append, List.nil_append, List.length_cons, List.length_nil, List.mem_cons, List.not_mem_nil, or_false, false_or, or_true, true_or, ↓reduceIte, true_and, and_true, Nat.reduceEqDiff, Nat.reduceAdd, Nat.reduceLeDiff, Nat.reduceLT, dl_i, dl_r, dl_n, dl_u, eq_self, not_true_eq_false, not_false_eq_true, n10, n01, nm0, n0m, rB, tB, e2, nI_add, imp_t, imp_f]
      rw [nIl (by omega) (by omega)]
      refine ⟨fun z => ?_, fun z => ?_⟩
      · refine ih (k + 1) M (by omega) hXM d2 d3 d5 (fun p hp hpk => ?_)
        by_cases e : p.1 = k + 1
        · obtain ⟨j, hj, ej⟩ := List.getElem_of_mem hp
          have := f3 j p (Nat.zero_le _) (by omega) (by rw [List.getElem?_eq_getElem hj, ej])
          unfold LnP vwB
          rw [e, evw]
          by_cases q : p.2 = vw
          · rw [q]
          · exact absurd ⟨e, q⟩ this
        · exact hr p hp (by omega)
      · obtain ⟨p, hp, e1, e4⟩ := f4 (by omega)
        refine h0 (fun c => e4 ?_) M hXM
        have h5 := c p (List.mem_of_getElem? hp)
        have h6 := (vB.2 p (List.mem_of_getElem? hp)).2.2
        unfold LnP vwB at h5
        rw [e1, evw, nI_eq (by omega) (by omega)] at h5
        exact h5.symm
  exact loop (lsD bk) 0 K2 (by omega) hX2 (hA.xf (Or.inr (Or.inl rfl)) hX2) (hI.tr (hX2.t (Or.inr (Or.inl rfl)))) (hQ.s hS) (fun p hp hpk => absurd hpk (by have := (vB.2 p hp).1; omega))
theorem x_linesRight {x : Int32} (hG : GX Γ) (hA : TwR b J E S PS t op) (hB : BkE b E J kb bk) (hI : SayT I J) (hBg : BgM I S)
    (hk : ∀ m, m ≤ bk.length → (∀ k p, k < m → bk[k]? = some p → LnP I S.1.1 S.1.2 x p) → (∀ p, bk[m]? = some p → ¬ LnP I S.1.1 S.1.2 x p) → ∀ K, XF 59 J K → kr (some (.int (nI m))) K E) : Ex Γ l (shB b) (d + 6) (0, 0) mTs_linesRight [.ref 58, .int x] J E kr kx := by
  refine ex_of (ls0 := [some (.ref 58), some (.int x), none, none]) tTs_linesRight (by decide +kernel) kTs_linesRight rfl (Nat.le_of_ble_eq_true rfl) rfl ?_
  intro go hgo
  have hS := hA.1.2.2.2.1
  have s9 := hS.1
  obtain ⟨r3, hT, hXt, -⟩ := id hA.1
  have tT : tyc (shB b) E t = 10 := (hT.A (b := b) (E := E)).1
  have ty59 : tyc (shB b) E 59 = 3 := dyA_59.1
  obtain ⟨rB, idb, xB, vB⟩ := id hB
  have tB : tyc (shB b) E kb = 2 := (idb.A (b := b) (E := E)).1
  have hMI := hA.2.1.t hS hI.sm
  have hl99 := lsD_99 (fun x hx => (vB.2 x hx).2.1)
  have hl12 := vB.1
  refine hgo 20 [32] 0 _ _ _ _ _ ?_
  simp only [ixr_of, run_s, run_0, rTs_linesRight, rok_i, rok_z, bx_cons, bx_nil, eC1, eCV0, eCV1, eCV2, eGI, eGO, eGR, jICgt, eINC3, eLA0, eLI1, eLI2, eLI3, eMIN, ePI, eRI, eSI2, eSI3, fTs_linesRight_0, fTs_linesRight_32, fTs_linesRight_43, fTs_linesRight_80, bTs_linesRight_0, bTs_linesRight_32, bTs_linesRight_43, bTs_linesRight_80, ln_xpatterns, rg_xtasters_0, rg_xtasters_1, rg_xtasters_2, ty_xaqueduct, ty_xpatterns, ty_xtasters, ty_xttrial, Option.toList_some, Option.toList_none, List.cons_append, List.nil_append, List.length_cons, List.length_nil, List.mem_cons, List.not_mem_nil, or_false, false_or, or_true, true_or, ↓reduceIte, true_and, and_true, Nat.reduceEqDiff, Nat.reduceAdd, Nat.reduceLeDiff, Nat.reduceLT, dl_i, dl_r, dl_n, dl_u, eq_self, not_true_eq_false, not_false_eq_true, n10, n01, nm0, n0m, r3, tT, imp_t, imp_f]
  refine call0 (x_dbegin (lg := fun v => vz S v 3) dyA_59 hT.A hXt.1 s9 (fun v hv => ⟨vz_5 hS, (hXt.2.2.2.2.2.2.1 v (by omega)).2.2.1⟩) (by unfold idT at hT; omega) (fun K hK => ?_))
  have hQ0 := NQ.beg hXt hS hK hBg
  have hQ := hQ0.uco (x := x) s9
  obtain ⟨K2, hK2⟩ : ∃ K2, K2 = up K 59 11 x := ⟨_, rfl⟩
  have hX2 : XF 59 J K2 := by rw [hK2]; exact XF.up (fun i _ h _ => hK.1 i h) (by decide) (by decide)
  have e2 := (hB.xf hX2).2.2.1.1
  rw [hK2] at e2
  simp only [ixr_of, run_s, run_0, rTs_linesRight, rok_i, rok_z, bx_cons, bx_nil, eC1, eCV0, eCV1, eCV2, eGI, eGO, eGR, jICgt, eINC3, eLA0, eLI1, eLI2, eLI3, eMIN, ePI, eRI, eSI2, eSI3, fTs_linesRight_0, fTs_linesRight_32, fTs_linesRight_43, fTs_linesRight_80, bTs_linesRight_0, bTs_linesRight_32, bTs_linesRight_43, bTs_linesRight_80, ln_xpatterns, rg_xtasters_0, rg_xtasters_1, rg_xtasters_2, ty_xaqueduct, ty_xpatterns, ty_xtasters, ty_xttrial, Option.toList_some, Option.toList_none, List.cons_append, List.nil_append, List.length_cons, List.length_nil, List.mem_cons, List.not_mem_nil, or_false, false_or, or_true, true_or, ↓reduceIte, true_and, and_true, Nat.reduceEqDiff, Nat.reduceAdd, Nat.reduceLeDiff, Nat.reduceLT, dl_i, dl_r, dl_n, dl_u, eq_self, not_true_eq_false, not_false_eq_true, n10, n01, nm0, n0m, ty59, rB, tB, e2, imp_t, imp_f]
  rw [← hK2] at hQ ⊢
  have hP := pmB_pe hS hMI hQ
  have loop : ∀ (g k m : Nat) (L : Iv), g + k = lsD bk → XF 59 J L → TwR b L E S PS t op → SayT I L → DyS S (PmD K2 59 S) 59 (0 + k) (it2 I S.1.1 S.1.2 (PmD K2 59 S) (I 500127, K2 59 16) k) L → m ≤ bk.length → (∀ j p, j < m → bk[j]? = some p → p.1 ≤ k → LnP I S.1.1 S.1.2 x p) → (∀ p, bk[m]? = some p → ¬ LnP I S.1.1 S.1.2 x p) → go 32 [some (.ref 58), some (.int x), some (.int (nI m)), some (.int (nI (k + 1)))] [] L E (0, 0) := by
    intro g
    induction g with
    | zero =>
      intro k m L hg hX hA' hI' hD hm hr hw
      have : k = lsD bk := by omega
      subst this
      have e3 := (hB.xf hX).2.2.1.2.1
      have c1 : (nI (lsD bk) < nI (lsD bk + 1)) = True := by rw [nIt (by omega) (by omega)]; exact eq_true (by omega)
      refine hgo 20 [32] 32 _ _ _ _ _ ?_
      simp only [ixr_of, run_s, run_0, rTs_linesRight, rok_i, rok_z, bx_cons, bx_nil, eC1, eCV0, eCV1, eCV2, eGI, eGO, eGR, jICgt, eINC3, eLA0, eLI1, eLI2, eLI3, eMIN, ePI, eRI, eSI2, eSI3, fTs_linesRight_0, fTs_linesRight_32, fTs_linesRight_43, fTs_linesRight_80, bTs_linesRight_0, bTs_linesRight_32, bTs_linesRight_43, bTs_linesRight_80, ln_xpatterns, rg_xtasters_0, rg_xtasters_1, rg_xtasters_2, ty_xaqueduct, ty_xpatterns, ty_xtasters, ty_xttrial, Option.toList_some, Option.toList_none, List.cons_append, List.nil_append, List.length_cons, List.length_nil, List.mem_cons, List.not_mem_nil, or_false, false_or, or_true, true_or, ↓reduceIte, true_and, and_true, Nat.reduceEqDiff, Nat.reduceAdd, Nat.reduceLeDiff, Nat.reduceLT, dl_i, dl_r, dl_n, dl_u, eq_self, not_true_eq_false, not_false_eq_true, n10, n01, nm0, n0m, rB, tB, e3, c1, imp_t, imp_f]
      exact hk m hm (fun j p hj hp => hr j p hj hp (lsD_mm bk (List.mem_of_getElem? hp))) hw L hX
    | succ g ih =>
      intro k m L hg hX hA' hI' hD hm hr hw
      have e3 := (hB.xf hX).2.2.1.2.1
      have c1 : (nI (lsD bk) < nI (k + 1)) = False := by rw [nIt (by omega) (by omega)]; exact eq_false (by omega)
      refine hgo 20 [32] 32 _ _ _ _ _ ?_
      simp only [ixr_of, run_s, run_0, rTs_linesRight, rok_i, rok_z, bx_cons, bx_nil, eC1, eCV0, eCV1, eCV2, eGI, eGO, eGR, jICgt, eINC3, eLA0, eLI1, eLI2, eLI3, eMIN, ePI, eRI, eSI2, eSI3, fTs_linesRight_0, fTs_linesRight_32, fTs_linesRight_43, fTs_linesRight_80, bTs_linesRight_0, bTs_linesRight_32, bTs_linesRight_43, bTs_linesRight_80, ln_xpatterns, rg_xtasters_0, rg_xtasters_1, rg_xtasters_2, ty_xaqueduct, ty_xpatterns, ty_xtasters, ty_xttrial, Option.toList_some, Option.toList_none, List.cons_append, List.nil_append, List.length_cons, List.length_nil, List.mem_cons, List.not_mem_nil, or_false, false_or, or_true, true_or, ↓reduceIte, true_and, and_true, Nat.reduceEqDiff, Nat.reduceAdd, Nat.reduceLeDiff, Nat.reduceLT, dl_i, dl_r, dl_n, dl_u, eq_self, not_true_eq_false, not_false_eq_true, n10, n01, nm0, n0m, rB, tB, e3, c1, imp_t, imp_f]
      refine call0 (x_day hG hA' (Or.inr (Or.inl rfl)) hD (by omega) hI' (fun M d1 d2 d3 d4 => ?_))
      have d5 : DyS S (PmD K2 59 S) 59 (0 + (k + 1)) (it2 I S.1.1 S.1.2 (PmD K2 59 S) (I 500127, K2 59 16) (k + 1)) M := d4
      have d6 := d5.1
      rw [it2_pe hP, gR_of rfl] at d6
      simp only [ixr_of, run_s, run_0, rTs_linesRight, rok_i, rok_z, bx_cons, bx_nil, eC1, eCV0, eCV1, eCV2, eGI, eGO, eGR, jICgt, eINC3, eLA0, eLI1, eLI2, eLI3, eMIN, ePI, eRI, eSI2, eSI3, fTs_linesRight_0, fTs_linesRight_32, fTs_linesRight_43, fTs_linesRight_80, bTs_linesRight_0, bTs_linesRight_32, bTs_linesRight_43, bTs_linesRight_80, ln_xpatterns, rg_xtasters_0, rg_xtasters_1, rg_xtasters_2, ty_xaqueduct, ty_xpatterns, ty_xtasters, ty_xttrial, Option.toList_some, Option.toList_none, List.cons_append, List.nil_append, List.length_cons, List.length_nil, List.mem_cons, List.not_mem_nil, or_false, false_or, or_true, true_or, ↓reduceIte, true_and, and_true, Nat.reduceEqDiff, Nat.reduceAdd, Nat.reduceLeDiff, Nat.reduceLT, dl_i, dl_r, dl_n, dl_u, eq_self, not_true_eq_false, not_false_eq_true, n10, n01, nm0, n0m, rB, tB, imp_t, imp_f]
      refine call0 (x_seen dyA_59 ?_)
      rw [vw_dr d6]
      obtain ⟨vw, hvw, evw⟩ := vw_8 (r := gR I S.1.1 S.1.2 (pmB I x) (I 500127) (k + 1))
      rw [evw]
      have hXM := hX.tr d1
      obtain ⟨-, -, xB', -⟩ := hB.xf hXM
      simp only [ixr_of, run_s, run_0, rTs_linesRight, rok_i, rok_z, bx_cons, bx_nil, eC1, eCV0, eCV1, eCV2, eGI, eGO, eGR, jICgt, eINC3, eLA0, eLI1, eLI2, eLI3, eMIN, ePI, eRI, eSI2, eSI3, fTs_linesRight_0, fTs_linesRight_32, fTs_linesRight_43, fTs_linesRight_80, bTs_linesRight_0, bTs_linesRight_32, bTs_linesRight_43, bTs_linesRight_80, ln_xpatterns, rg_xtasters_0, rg_xtasters_1, rg_xtasters_2, ty_xaqueduct, ty_xpatterns, ty_xtasters, ty_xttrial, Option.toList_some, Option.toList_none, List.cons_append, List.nil_append, List.length_cons, List.length_nil, List.mem_cons, List.not_mem_nil, or_false, false_or, or_true, true_or, ↓reduceIte, true_and, and_true, Nat.reduceEqDiff, Nat.reduceAdd, Nat.reduceLeDiff, Nat.reduceLT, dl_i, dl_r, dl_n, dl_u, eq_self, not_true_eq_false, not_false_eq_true, n10, n01, nm0, n0m, rB, tB, imp_t, imp_f]
      refine call0 (x_firstWrong (idb.A) xB' vB (by omega) hvw ?_)
      obtain ⟨f1, f2, f3, f4⟩ := fwF_s (ps := bk) (dy := k + 1) (vw := vw) bk.length 0 (by omega)
      generalize fwF bk (k + 1) vw bk.length 0 = fw at *
      have em : miI (nI m) (nI fw) = nI (min m fw) := miI_n (by omega) (by omega)
      have lnv : ∀ p ∈ bk, p.1 = k + 1 → (LnP I S.1.1 S.1.2 x p ↔ p.2 = vw) := fun p hp e => by
        have h6 := (vB.2 p hp).2.2
        unfold LnP vwB
        rw [e, evw, nI_eq (by omega) (by omega)]
        exact eq_comm
      simp only [ixr_of, run_s, run_0, rTs_linesRight, rok_i, rok_z, bx_cons, bx_nil, eC1, eCV0, eCV1, eCV2, eGI, eGO, eGR, jICgt, eINC3, eLA0, eLI1, eLI2, eLI3, eMIN, ePI, eRI, eSI2, eSI3, fTs_linesRight_0, fTs_linesRight_32, fTs_linesRight_43, fTs_linesRight_80, bTs_linesRight_0, bTs_linesRight_32, bTs_linesRight_43, bTs_linesRight_80, ln_xpatterns, rg_xtasters_0, rg_xtasters_1, rg_xtasters_2, ty_xaqueduct, ty_xpatterns, ty_xtasters, ty_xttrial, Option.toList_some, Option.toList_none, List.cons_append, List.nil_append, List.length_cons, List.length_nil, List.mem_cons, List.not_mem_nil, or_false, false_or, or_true, true_or, ↓reduceIte, true_and, and_true, Nat.reduceEqDiff, Nat.reduceAdd, Nat.reduceLeDiff, Nat.reduceLT, dl_i, dl_r, dl_n, dl_u, eq_self, not_true_eq_false, not_false_eq_true, n10, n01, nm0, n0m, nI_add, em, imp_t, imp_f]
      refine ih (k + 1) (min m fw) M (by omega) hXM d2 d3 d5 (by omega) (fun j p hj hp hpk => ?_) (fun p hp => ?_)
      · by_cases e : p.1 = k + 1
        · refine (lnv p (List.mem_of_getElem? hp) e).mpr ?_
          have := f3 j p (Nat.zero_le _) (by omega) hp
          by_cases q : p.2 = vw
          · exact q
          · exact absurd ⟨e, q⟩ this
        · exact hr j p (by omega) hp (by omega)
      · by_cases q : m ≤ fw
        · rw [Nat.min_eq_left q] at hp
          exact hw p hp
        · rw [Nat.min_eq_right (by omega)] at hp
          obtain ⟨p', hp', e1, e4⟩ := f4 (by omega)
          rw [hp'] at hp
          have : p' = p := Option.some.inj hp
          subst this
          exact fun c => e4 ((lnv p' (List.mem_of_getElem? hp') e1).mp c)
  exact loop (lsD bk) 0 bk.length K2 (by omega) hX2 (hA.xf (Or.inr (Or.inl rfl)) hX2) (hI.tr (hX2.t (Or.inr (Or.inl rfl)))) (hQ.s hS) (Nat.le_refl _) (fun j p _ hp hpk => absurd hpk (by have := (vB.2 p (List.mem_of_getElem? hp)).1; omega)) (fun p hp => by rw [List.getElem?_eq_none (Nat.le_refl _)] at hp; cases hp)
end XQn
