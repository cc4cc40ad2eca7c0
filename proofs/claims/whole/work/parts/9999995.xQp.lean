/-! tasters: the fewest tastes -/
theorem tb_all {nV i : Nat} : (2 ^ nV - 1).testBit i = decide (i < nV) := Nat.testBit_two_pow_sub_one nV i
theorem ap_all {ts : Nat → Nat} {nV : Nat} (h : ∀ v, v < nV → ts v < 2 ^ nV) : ApN ts nV (2 ^ nV - 1) := by
  intro a c h1 h2
  by_cases e : ts a = ts c
  · exact Or.inl e
  · right
    rw [Nat.and_two_pow_sub_one_eq_mod, Nat.and_two_pow_sub_one_eq_mod, Nat.mod_eq_of_lt (h a (by omega)), Nat.mod_eq_of_lt (h c h2)]
    exact e
section XQp
variable {Γ : Gm} {l : Launch} {b : Bool} {d : Nat} {I J : Iv} {E : Ev} {kr : Kr} {kx : Kxx} {y t n kb : Nat} {S : Tn} {PS : Nat → List Pt} {op : Nat → Nat} {bk : List (Nat × Nat)}
theorem x_fewestTastes {m : Nat} {ts : Nat → Nat} (hG : GX Γ) (hA : TwR b J E S PS t op) (hI : SayT I J) (hBg : BgM I S) (hm : m ≤ 60) (hts : ∀ v, ts v = tsN (gR I S.1.1 S.1.2 (pmA I v) (I 500127) m) S.1.1)
    (hk : ∀ s K, Bst (ApN ts S.1.1) (2 ^ S.1.1) s → XT J K → K 58 = J 58 → kr (some (.int (nI s))) K E) : Ex Γ l (shB b) (d + 7) (0, 0) mTs_fewestTastes [.ref 58, .int (nI m)] J E kr kx := by
  refine ex_of (ls0 := [some (.ref 58), some (.int (nI m)), none, none, none, none]) tTs_fewestTastes (by decide +kernel) kTs_fewestTastes rfl (Nat.le_of_ble_eq_true rfl) rfl ?_
  intro go hgo
  have hS := hA.1.2.2.2.1
  have s9 := hS.1
  have h512 := p2_512 s9
  have hpos : 0 < 2 ^ S.1.1 := Nat.two_pow_pos _
  obtain ⟨r3, hT, hXt, -⟩ := id hA.1
  have tT : tyc (shB b) E t = 10 := (hT.A (b := b) (E := E)).1
  have v7 := hXt.1
  have tl : ∀ v, ts v < 2 ^ S.1.1 := fun v => by rw [hts v]; exact tsN_lt _
  have outer : ∀ (g z : Nat) (K : Iv) (x5 : Option Value), g + z = S.1.1 + 1 → XT J K → K 58 = J 58 → (∀ v, v < S.1.1 → K 67 v = nI (ts v)) → (∀ s, s < 2 ^ S.1.1 → popN s < z → ¬ ApN ts S.1.1 s) → go 54 [some (.ref 58), some (.int (nI m)), some (.int (nI S.1.1)), some (.int (nI (2 ^ S.1.1 - 1))), some (.int (nI z)), x5] [] K E (0, 0) := by
    intro g
    induction g with
    | zero =>
      intro z K x5 hg hX h58 hp hno
      exact absurd (ap_all (fun v _ => tl v)) (hno (2 ^ S.1.1 - 1) (by omega) (by have := pop_nV (s := 2 ^ S.1.1 - 1) s9 (by omega); omega))
    | succ g ih =>
      intro z K x5 hg hX h58 hp hno
      have inner : ∀ (f s : Nat), f + s = 2 ^ S.1.1 → (∀ s', s' < s → popN s' = z → ¬ ApN ts S.1.1 s') → go 63 [some (.ref 58), some (.int (nI m)), some (.int (nI S.1.1)), some (.int (nI (2 ^ S.1.1 - 1))), some (.int (nI z)), some (.int (nI s))] [] K E (0, 0) := by
        intro f
        induction f with
        | zero =>
          intro s hf hno2
          have : s = 2 ^ S.1.1 := by omega
          subst this
          have c2 : (nI (2 ^ S.1.1 - 1) < nI (2 ^ S.1.1)) = True := by rw [nIt (by omega) (by omega)]; exact eq_true (by omega)
          refine hgo 20 [25, 54, 63] 63 _ _ _ _ _ ?_
          simp only [ixr_of, run_s, run_0, rTs_fewestTastes, rok_i, rok_z, bx_cons, bx_nil, eC0, eCS1, eCV0, eCV2, eGI, eGO, eGR, eIAST, jICge, jICgt, jICne, jIFeq, eINC4, eINC5, eLA0, eLI1, eLI2, eLI3, eLI4, eLI5, eRI, eSI2, eSI3, eSI4, eSI5, fTs_fewestTastes_0, fTs_fewestTastes_25, fTs_fewestTastes_31, fTs_fewestTastes_51, fTs_fewestTastes_54, fTs_fewestTastes_60, fTs_fewestTastes_63, fTs_fewestTastes_69, fTs_fewestTastes_79, fTs_fewestTastes_89, fTs_fewestTastes_92, fTs_fewestTastes_98, fTs_fewestTastes_104, bTs_fewestTastes_0, bTs_fewestTastes_25, bTs_fewestTastes_31, bTs_fewestTastes_51, bTs_fewestTastes_54, bTs_fewestTastes_60, bTs_fewestTastes_63, bTs_fewestTastes_69, bTs_fewestTastes_79, bTs_fewestTastes_89, bTs_fewestTastes_92, bTs_fewestTastes_98, bTs_fewestTastes_104, ln_xpatterns, rg_xtasters_0, rg_xtasters_1, rg_xtasters_2, ty_xaqueduct, ty_xpatterns, ty_xtasters, ty_xttrial, Option.toList_some, Option.toList_none, List.cons_append, List.nil_append, List.length_cons, List.length_nil, List.mem_cons, List.not_mem_nil, or_false, false_or, or_true, true_or, ↓reduceIte, true_and, and_true, Nat.reduceEqDiff, Nat.reduceAdd, Nat.reduceLeDiff, Nat.reduceLT, dl_i, dl_r, dl_n, dl_u, eq_self, not_true_eq_false, not_false_eq_true, n10, n01, nm0, n0m, c2, nI_add, imp_t, imp_f]
          refine ih (z + 1) K _ (by omega) hX h58 hp (fun s hs hz => ?_)
          by_cases q : popN s = z
          · exact hno2 s hs q
          · exact hno s hs (by omega)
        | succ f ih2 =>
          intro s hf hno2
          have c2 : (nI (2 ^ S.1.1 - 1) < nI s) = False := by rw [nIt (by omega) (by omega)]; exact eq_false (by omega)
          have p9 := pop_9 (s := s)
          have cs : (nI (popN s) = nI z) = (popN s = z) := nIe (by omega) (by omega)
          have next : (popN s = z → ¬ ApN ts S.1.1 s) → go 63 [some (.ref 58), some (.int (nI m)), some (.int (nI S.1.1)), some (.int (nI (2 ^ S.1.1 - 1))), some (.int (nI z)), some (.int (nI (s + 1)))] [] K E (0, 0) := fun hq => ih2 (s + 1) (by omega) (fun s' hs' hz => by
            by_cases e : s' = s
            · rw [e] at hz ⊢; exact hq hz
            · exact hno2 s' (by omega) hz)
          refine hgo 20 [25, 54, 63] 63 _ _ _ _ _ ?_
          simp only [ixr_of, run_s, run_0, rTs_fewestTastes, rok_i, rok_z, bx_cons, bx_nil, eC0, eCS1, eCV0, eCV2, eGI, eGO, eGR, eIAST, jICge, jICgt, jICne, jIFeq, eINC4, eINC5, eLA0, eLI1, eLI2, eLI3, eLI4, eLI5, eRI, eSI2, eSI3, eSI4, eSI5, fTs_fewestTastes_0, fTs_fewestTastes_25, fTs_fewestTastes_31, fTs_fewestTastes_51, fTs_fewestTastes_54, fTs_fewestTastes_60, fTs_fewestTastes_63, fTs_fewestTastes_69, fTs_fewestTastes_79, fTs_fewestTastes_89, fTs_fewestTastes_92, fTs_fewestTastes_98, fTs_fewestTastes_104, bTs_fewestTastes_0, bTs_fewestTastes_25, bTs_fewestTastes_31, bTs_fewestTastes_51, bTs_fewestTastes_54, bTs_fewestTastes_60, bTs_fewestTastes_63, bTs_fewestTastes_69, bTs_fewestTastes_79, bTs_fewestTastes_89, bTs_fewestTastes_92, bTs_fewestTastes_98, bTs_fewestTastes_104, ln_xpatterns, rg_xtasters_0, rg_xtasters_1, rg_xtasters_2, ty_xaqueduct, ty_xpatterns, ty_xtasters, ty_xttrial, Option.toList_some, Option.toList_none, List.cons_append, List.nil_append, List.length_cons, List.length_nil, List.mem_cons, List.not_mem_nil, or_false, false_or, or_true, true_or, ↓reduceIte, true_and, and_true, Nat.reduceEqDiff, Nat.reduceAdd, Nat.reduceLeDiff, Nat.reduceLT, dl_i, dl_r, dl_n, dl_u, eq_self, not_true_eq_false, not_false_eq_true, n10, n01, nm0, n0m, c2, imp_t, imp_f]
          refine call0 (x_bitCount (by omega) ?_)
          rw [onN (by omega)]
          simp only [ixr_of, run_s, run_0, rTs_fewestTastes, rok_i, rok_z, bx_cons, bx_nil, eC0, eCS1, eCV0, eCV2, eGI, eGO, eGR, eIAST, jICge, jICgt, jICne, jIFeq, eINC4, eINC5, eLA0, eLI1, eLI2, eLI3, eLI4, eLI5, eRI, eSI2, eSI3, eSI4, eSI5, fTs_fewestTastes_0, fTs_fewestTastes_25, fTs_fewestTastes_31, fTs_fewestTastes_51, fTs_fewestTastes_54, fTs_fewestTastes_60, fTs_fewestTastes_63, fTs_fewestTastes_69, fTs_fewestTastes_79, fTs_fewestTastes_89, fTs_fewestTastes_92, fTs_fewestTastes_98, fTs_fewestTastes_104, bTs_fewestTastes_0, bTs_fewestTastes_25, bTs_fewestTastes_31, bTs_fewestTastes_51, bTs_fewestTastes_54, bTs_fewestTastes_60, bTs_fewestTastes_63, bTs_fewestTastes_69, bTs_fewestTastes_79, bTs_fewestTastes_89, bTs_fewestTastes_92, bTs_fewestTastes_98, bTs_fewestTastes_104, ln_xpatterns, rg_xtasters_0, rg_xtasters_1, rg_xtasters_2, ty_xaqueduct, ty_xpatterns, ty_xtasters, ty_xttrial, Option.toList_some, Option.toList_none, List.cons_append, List.nil_append, List.length_cons, List.length_nil, List.mem_cons, List.not_mem_nil, or_false, false_or, or_true, true_or, ↓reduceIte, true_and, and_true, Nat.reduceEqDiff, Nat.reduceAdd, Nat.reduceLeDiff, Nat.reduceLT, dl_i, dl_r, dl_n, dl_u, eq_self, not_true_eq_false, not_false_eq_true, n10, n01, nm0, n0m, cs, nI_add, imp_t, imp_f]
          refine ⟨fun q => next (fun c => absurd c q), fun q => ?_⟩
          refine call0 (x_tellsApart s9 (fun v hv => ⟨hp v hv, by have := tl v; omega⟩) (by omega) (fun ha => ?_) (fun ha => ?_))
          · simp only [ixr_of, run_s, run_0, rTs_fewestTastes, rok_i, rok_z, bx_cons, bx_nil, eC0, eCS1, eCV0, eCV2, eGI, eGO, eGR, eIAST, jICge, jICgt, jICne, jIFeq, eINC4, eINC5, eLA0, eLI1, eLI2, eLI3, eLI4, eLI5, eRI, eSI2, eSI3, eSI4, eSI5, fTs_fewestTastes_0, fTs_fewestTastes_25, fTs_fewestTastes_31, fTs_fewestTastes_51, fTs_fewestTastes_54, fTs_fewestTastes_60, fTs_fewestTastes_63, fTs_fewestTastes_69, fTs_fewestTastes_79, fTs_fewestTastes_89, fTs_fewestTastes_92, fTs_fewestTastes_98, fTs_fewestTastes_104, bTs_fewestTastes_0, bTs_fewestTastes_25, bTs_fewestTastes_31, bTs_fewestTastes_51, bTs_fewestTastes_54, bTs_fewestTastes_60, bTs_fewestTastes_63, bTs_fewestTastes_69, bTs_fewestTastes_79, bTs_fewestTastes_89, bTs_fewestTastes_92, bTs_fewestTastes_98, bTs_fewestTastes_104, ln_xpatterns, rg_xtasters_0, rg_xtasters_1, rg_xtasters_2, ty_xaqueduct, ty_xpatterns, ty_xtasters, ty_xttrial, Option.toList_some, Option.toList_none, List.cons_append, List.nil_append, List.length_cons, List.length_nil, List.mem_cons, List.not_mem_nil, or_false, false_or, or_true, true_or, ↓reduceIte, true_and, and_true, Nat.reduceEqDiff, Nat.reduceAdd, Nat.reduceLeDiff, Nat.reduceLT, dl_i, dl_r, dl_n, dl_u, eq_self, not_true_eq_false, not_false_eq_true, n10, n01, nm0, n0m, imp_t, imp_f]
            refine hk s K ⟨by omega, ha, fun s' hs' hq' => ?_⟩ hX h58
            by_cases z1 : popN s' < z
            · exact absurd hq' (hno s' hs' z1)
            · by_cases z2 : popN s' = z
              · by_cases z3 : s' < s
                · exact absurd hq' (hno2 s' z3 z2)
                · omega
              · omega
          · simp only [ixr_of, run_s, run_0, rTs_fewestTastes, rok_i, rok_z, bx_cons, bx_nil, eC0, eCS1, eCV0, eCV2, eGI, eGO, eGR, eIAST, jICge, jICgt, jICne, jIFeq, eINC4, eINC5, eLA0, eLI1, eLI2, eLI3, eLI4, eLI5, eRI, eSI2, eSI3, eSI4, eSI5, fTs_fewestTastes_0, fTs_fewestTastes_25, fTs_fewestTastes_31, fTs_fewestTastes_51, fTs_fewestTastes_54, fTs_fewestTastes_60, fTs_fewestTastes_63, fTs_fewestTastes_69, fTs_fewestTastes_79, fTs_fewestTastes_89, fTs_fewestTastes_92, fTs_fewestTastes_98, fTs_fewestTastes_104, bTs_fewestTastes_0, bTs_fewestTastes_25, bTs_fewestTastes_31, bTs_fewestTastes_51, bTs_fewestTastes_54, bTs_fewestTastes_60, bTs_fewestTastes_63, bTs_fewestTastes_69, bTs_fewestTastes_79, bTs_fewestTastes_89, bTs_fewestTastes_92, bTs_fewestTastes_98, bTs_fewestTastes_104, ln_xpatterns, rg_xtasters_0, rg_xtasters_1, rg_xtasters_2, ty_xaqueduct, ty_xpatterns, ty_xtasters, ty_xttrial, Option.toList_some, Option.toList_none, List.cons_append, List.nil_append, List.length_cons, List.length_nil, List.mem_cons, List.not_mem_nil, or_false, false_or, or_true, true_or, ↓reduceIte, true_and, and_true, Nat.reduceEqDiff, Nat.reduceAdd, Nat.reduceLeDiff, Nat.reduceLT, dl_i, dl_r, dl_n, dl_u, eq_self, not_true_eq_false, not_false_eq_true, n10, n01, nm0, n0m, nI_add, imp_t, imp_f]
            exact next (fun _ => ha)
      have c1 : (nI S.1.1 < nI z) = False := by rw [nIt (by omega) (by omega)]; exact eq_false (by omega)
      refine hgo 20 [25, 54, 63] 54 _ _ _ _ _ ?_
      simp only [ixr_of, run_s, run_0, rTs_fewestTastes, rok_i, rok_z, bx_cons, bx_nil, eC0, eCS1, eCV0, eCV2, eGI, eGO, eGR, eIAST, jICge, jICgt, jICne, jIFeq, eINC4, eINC5, eLA0, eLI1, eLI2, eLI3, eLI4, eLI5, eRI, eSI2, eSI3, eSI4, eSI5, fTs_fewestTastes_0, fTs_fewestTastes_25, fTs_fewestTastes_31, fTs_fewestTastes_51, fTs_fewestTastes_54, fTs_fewestTastes_60, fTs_fewestTastes_63, fTs_fewestTastes_69, fTs_fewestTastes_79, fTs_fewestTastes_89, fTs_fewestTastes_92, fTs_fewestTastes_98, fTs_fewestTastes_104, bTs_fewestTastes_0, bTs_fewestTastes_25, bTs_fewestTastes_31, bTs_fewestTastes_51, bTs_fewestTastes_54, bTs_fewestTastes_60, bTs_fewestTastes_63, bTs_fewestTastes_69, bTs_fewestTastes_79, bTs_fewestTastes_89, bTs_fewestTastes_92, bTs_fewestTastes_98, bTs_fewestTastes_104, ln_xpatterns, rg_xtasters_0, rg_xtasters_1, rg_xtasters_2, ty_xaqueduct, ty_xpatterns, ty_xtasters, ty_xttrial, Option.toList_some, Option.toList_none, List.cons_append, List.nil_append, List.length_cons, List.length_nil, List.mem_cons, List.not_mem_nil, or_false, false_or, or_true, true_or, ↓reduceIte, true_and, and_true, Nat.reduceEqDiff, Nat.reduceAdd, Nat.reduceLeDiff, Nat.reduceLT, dl_i, dl_r, dl_n, dl_u, eq_self, not_true_eq_false, not_false_eq_true, n10, n01, nm0, n0m, c1, imp_t, imp_f]
      exact inner (2 ^ S.1.1) 0 (by omega) (fun s' hs' => absurd hs' (by omega))
  have pat : ∀ (g v : Nat) (K : Iv), g + v = S.1.1 → XT J K → K 58 = J 58 → (∀ u, u < v → K 67 u = nI (ts u)) → go 25 [some (.ref 58), some (.int (nI m)), some (.int (nI S.1.1)), some (.int (nI (2 ^ S.1.1 - 1))), some (.int (nI v)), none] [] K E (0, 0) := by
    intro g
    induction g with
    | zero =>
      intro v K hg hX h58 hp
      have : v = S.1.1 := by omega
      subst this
      have c1 : (nI S.1.1 ≤ nI S.1.1) = True := eq_true (Int32.le_refl _)
      refine hgo 20 [25, 54, 63] 25 _ _ _ _ _ ?_
      simp only [ixr_of, run_s, run_0, rTs_fewestTastes, rok_i, rok_z, bx_cons, bx_nil, eC0, eCS1, eCV0, eCV2, eGI, eGO, eGR, eIAST, jICge, jICgt, jICne, jIFeq, eINC4, eINC5, eLA0, eLI1, eLI2, eLI3, eLI4, eLI5, eRI, eSI2, eSI3, eSI4, eSI5, fTs_fewestTastes_0, fTs_fewestTastes_25, fTs_fewestTastes_31, fTs_fewestTastes_51, fTs_fewestTastes_54, fTs_fewestTastes_60, fTs_fewestTastes_63, fTs_fewestTastes_69, fTs_fewestTastes_79, fTs_fewestTastes_89, fTs_fewestTastes_92, fTs_fewestTastes_98, fTs_fewestTastes_104, bTs_fewestTastes_0, bTs_fewestTastes_25, bTs_fewestTastes_31, bTs_fewestTastes_51, bTs_fewestTastes_54, bTs_fewestTastes_60, bTs_fewestTastes_63, bTs_fewestTastes_69, bTs_fewestTastes_79, bTs_fewestTastes_89, bTs_fewestTastes_92, bTs_fewestTastes_98, bTs_fewestTastes_104, ln_xpatterns, rg_xtasters_0, rg_xtasters_1, rg_xtasters_2, ty_xaqueduct, ty_xpatterns, ty_xtasters, ty_xttrial, Option.toList_some, Option.toList_none, List.cons_append, List.nil_append, List.length_cons, List.length_nil, List.mem_cons, List.not_mem_nil, or_false, false_or, or_true, true_or, ↓reduceIte, true_and, and_true, Nat.reduceEqDiff, Nat.reduceAdd, Nat.reduceLeDiff, Nat.reduceLT, dl_i, dl_r, dl_n, dl_u, eq_self, not_true_eq_false, not_false_eq_true, n10, n01, nm0, n0m, c1, imp_t, imp_f]
      exact outer (S.1.1 + 1) 0 K _ (by omega) hX h58 hp (fun s _ h => absurd h (by omega))
    | succ g ih =>
      intro v K hg hX h58 hp
      have i9 : v < 9 := by omega
      have c1 : (nI S.1.1 ≤ nI v) = False := by rw [nIl (by omega) (by omega)]; exact eq_false (by omega)
      refine hgo 20 [25, 54, 63] 25 _ _ _ _ _ ?_
      simp only [ixr_of, run_s, run_0, rTs_fewestTastes, rok_i, rok_z, bx_cons, bx_nil, eC0, eCS1, eCV0, eCV2, eGI, eGO, eGR, eIAST, jICge, jICgt, jICne, jIFeq, eINC4, eINC5, eLA0, eLI1, eLI2, eLI3, eLI4, eLI5, eRI, eSI2, eSI3, eSI4, eSI5, fTs_fewestTastes_0, fTs_fewestTastes_25, fTs_fewestTastes_31, fTs_fewestTastes_51, fTs_fewestTastes_54, fTs_fewestTastes_60, fTs_fewestTastes_63, fTs_fewestTastes_69, fTs_fewestTastes_79, fTs_fewestTastes_89, fTs_fewestTastes_92, fTs_fewestTastes_98, fTs_fewestTastes_104, bTs_fewestTastes_0, bTs_fewestTastes_25, bTs_fewestTastes_31, bTs_fewestTastes_51, bTs_fewestTastes_54, bTs_fewestTastes_60, bTs_fewestTastes_63, bTs_fewestTastes_69, bTs_fewestTastes_79, bTs_fewestTastes_89, bTs_fewestTastes_92, bTs_fewestTastes_98, bTs_fewestTastes_104, ln_xpatterns, rg_xtasters_0, rg_xtasters_1, rg_xtasters_2, ty_xaqueduct, ty_xpatterns, ty_xtasters, ty_xttrial, Option.toList_some, Option.toList_none, List.cons_append, List.nil_append, List.length_cons, List.length_nil, List.mem_cons, List.not_mem_nil, or_false, false_or, or_true, true_or, ↓reduceIte, true_and, and_true, Nat.reduceEqDiff, Nat.reduceAdd, Nat.reduceLeDiff, Nat.reduceLT, dl_i, dl_r, dl_n, dl_u, eq_self, not_true_eq_false, not_false_eq_true, n10, n01, nm0, n0m, c1, imp_t, imp_f]
      refine call0 (x_basinsOf hG (hA.xt hX) (hI.tr hX.t) hBg (show v < S.1.1 by omega) hm (fun L hL => ?_))
      rw [← hts v]
      simp only [ixr_of, run_s, run_0, rTs_fewestTastes, rok_i, rok_z, bx_cons, bx_nil, eC0, eCS1, eCV0, eCV2, eGI, eGO, eGR, eIAST, jICge, jICgt, jICne, jIFeq, eINC4, eINC5, eLA0, eLI1, eLI2, eLI3, eLI4, eLI5, eRI, eSI2, eSI3, eSI4, eSI5, fTs_fewestTastes_0, fTs_fewestTastes_25, fTs_fewestTastes_31, fTs_fewestTastes_51, fTs_fewestTastes_54, fTs_fewestTastes_60, fTs_fewestTastes_63, fTs_fewestTastes_69, fTs_fewestTastes_79, fTs_fewestTastes_89, fTs_fewestTastes_92, fTs_fewestTastes_98, fTs_fewestTastes_104, bTs_fewestTastes_0, bTs_fewestTastes_25, bTs_fewestTastes_31, bTs_fewestTastes_51, bTs_fewestTastes_54, bTs_fewestTastes_60, bTs_fewestTastes_63, bTs_fewestTastes_69, bTs_fewestTastes_79, bTs_fewestTastes_89, bTs_fewestTastes_92, bTs_fewestTastes_98, bTs_fewestTastes_104, ln_xpatterns, rg_xtasters_0, rg_xtasters_1, rg_xtasters_2, ty_xaqueduct, ty_xpatterns, ty_xtasters, ty_xttrial, Option.toList_some, Option.toList_none, List.cons_append, List.nil_append, List.length_cons, List.length_nil, List.mem_cons, List.not_mem_nil, or_false, false_or, or_true, true_or, ↓reduceIte, true_and, and_true, Nat.reduceEqDiff, Nat.reduceAdd, Nat.reduceLeDiff, Nat.reduceLT, dl_i, dl_r, dl_n, dl_u, eq_self, not_true_eq_false, not_false_eq_true, n10, n01, nm0, n0m, i9, nI_add, imp_t, imp_f]
      refine ih (v + 1) _ (by omega) (hX.tr (hL.ts.tr (fun i a c e => by funext k; exact up_n (by omega)))) (by rw [← h58, ← hL 58 (by decide) (by decide) (idV_n (by decide))]; funext k; exact up_n (by omega)) (fun u hu => ?_)
      by_cases e : u = v
      · rw [e, up_s]
      · rw [up_n (by omega), hL 67 (by decide) (by decide) (idV_n (by decide))]
        exact hp u (by omega)
  refine hgo 20 [25, 54, 63] 0 _ _ _ _ _ ?_
  simp only [ixr_of, run_s, run_0, rTs_fewestTastes, rok_i, rok_z, bx_cons, bx_nil, eC0, eCS1, eCV0, eCV2, eGI, eGO, eGR, eIAST, jICge, jICgt, jICne, jIFeq, eINC4, eINC5, eLA0, eLI1, eLI2, eLI3, eLI4, eLI5, eRI, eSI2, eSI3, eSI4, eSI5, fTs_fewestTastes_0, fTs_fewestTastes_25, fTs_fewestTastes_31, fTs_fewestTastes_51, fTs_fewestTastes_54, fTs_fewestTastes_60, fTs_fewestTastes_63, fTs_fewestTastes_69, fTs_fewestTastes_79, fTs_fewestTastes_89, fTs_fewestTastes_92, fTs_fewestTastes_98, fTs_fewestTastes_104, bTs_fewestTastes_0, bTs_fewestTastes_25, bTs_fewestTastes_31, bTs_fewestTastes_51, bTs_fewestTastes_54, bTs_fewestTastes_60, bTs_fewestTastes_63, bTs_fewestTastes_69, bTs_fewestTastes_79, bTs_fewestTastes_89, bTs_fewestTastes_92, bTs_fewestTastes_98, bTs_fewestTastes_104, ln_xpatterns, rg_xtasters_0, rg_xtasters_1, rg_xtasters_2, ty_xaqueduct, ty_xpatterns, ty_xtasters, ty_xttrial, Option.toList_some, Option.toList_none, List.cons_append, List.nil_append, List.length_cons, List.length_nil, List.mem_cons, List.not_mem_nil, or_false, false_or, or_true, true_or, ↓reduceIte, true_and, and_true, Nat.reduceEqDiff, Nat.reduceAdd, Nat.reduceLeDiff, Nat.reduceLT, dl_i, dl_r, dl_n, dl_u, eq_self, not_true_eq_false, not_false_eq_true, n10, n01, nm0, n0m, r3, tT, v7, imp_t, imp_f]
  refine call0 (x_allBits' tT hXt s9 ?_)
  simp only [ixr_of, run_s, run_0, rTs_fewestTastes, rok_i, rok_z, bx_cons, bx_nil, eC0, eCS1, eCV0, eCV2, eGI, eGO, eGR, eIAST, jICge, jICgt, jICne, jIFeq, eINC4, eINC5, eLA0, eLI1, eLI2, eLI3, eLI4, eLI5, eRI, eSI2, eSI3, eSI4, eSI5, fTs_fewestTastes_0, fTs_fewestTastes_25, fTs_fewestTastes_31, fTs_fewestTastes_51, fTs_fewestTastes_54, fTs_fewestTastes_60, fTs_fewestTastes_63, fTs_fewestTastes_69, fTs_fewestTastes_79, fTs_fewestTastes_89, fTs_fewestTastes_92, fTs_fewestTastes_98, fTs_fewestTastes_104, bTs_fewestTastes_0, bTs_fewestTastes_25, bTs_fewestTastes_31, bTs_fewestTastes_51, bTs_fewestTastes_54, bTs_fewestTastes_60, bTs_fewestTastes_63, bTs_fewestTastes_69, bTs_fewestTastes_79, bTs_fewestTastes_89, bTs_fewestTastes_92, bTs_fewestTastes_98, bTs_fewestTastes_104, ln_xpatterns, rg_xtasters_0, rg_xtasters_1, rg_xtasters_2, ty_xaqueduct, ty_xpatterns, ty_xtasters, ty_xttrial, Option.toList_some, Option.toList_none, List.cons_append, List.nil_append, List.length_cons, List.length_nil, List.mem_cons, List.not_mem_nil, or_false, false_or, or_true, true_or, ↓reduceIte, true_and, and_true, Nat.reduceEqDiff, Nat.reduceAdd, Nat.reduceLeDiff, Nat.reduceLT, dl_i, dl_r, dl_n, dl_u, eq_self, not_true_eq_false, not_false_eq_true, n10, n01, nm0, n0m, imp_t, imp_f]
  exact pat S.1.1 0 J (by omega) XT.rf rfl (fun u hu => absurd hu (by omega))
end XQp
/-! minds: sets that go with him and without -/
def cnQ (Q : Nat → Bool) : Nat → Nat := smN (fun s => if Q s = true then 1 else 0)
theorem smN_app {f : Nat → Nat} {a : Nat} : ∀ c, smN f (a + c) = smN f a + smN (fun k => f (a + k)) c
  | 0 => rfl
  | c + 1 => by
    show smN f (a + c) + f (a + c) = smN f a + (smN (fun k => f (a + k)) c + f (a + c))
    rw [smN_app c]
    omega
def exD (D : Nat) : Nat → Nat := smN (fun i => if D.testBit i = true then 0 else 1)
theorem cn_D {D : Nat} : ∀ (j : Nat) (Q : Nat → Bool), (∀ s, s < 2 ^ j → Q s = Q (s &&& D)) → cnQ Q (2 ^ j) = cnQ (fun s => decide (s &&& D = s) && Q s) (2 ^ j) * 2 ^ exD D j
  | 0, Q, h => by
    show 0 + (if Q 0 = true then 1 else 0) = (0 + (if (decide (0 &&& D = 0) && Q 0) = true then 1 else 0)) * 2 ^ 0
    rw [Nat.zero_and, decide_eq_true rfl, Bool.true_and, Nat.pow_zero, Nat.mul_one]
  | j + 1, Q, h => by
    have h2 : 2 ^ (j + 1) = 2 ^ j + 2 ^ j := by rw [Nat.pow_succ]; omega
    have ih0 := cn_D (D := D) j Q (fun s hs => h s (by omega))
    have hor : ∀ s, s < 2 ^ j → 2 ^ j + s = 2 ^ j ||| s := fun s hs => Nat.two_pow_add_eq_or_of_lt hs 1 |> fun e => by simpa using e
    have hand : ∀ s, s < 2 ^ j → (2 ^ j + s) &&& D = (2 ^ j &&& D) ||| (s &&& D) := fun s hs => by rw [hor s hs, Nat.and_or_distrib_right]
    have htp : 2 ^ j &&& D = if D.testBit j = true then 2 ^ j else 0 := by
      refine Nat.eq_of_testBit_eq (fun i => ?_)
      rw [Nat.testBit_and, Nat.testBit_two_pow]
      by_cases e : j = i
      · subst e
        cases hc : D.testBit j
        · rw [if_neg (by decide), Nat.zero_testBit, Bool.and_false]
        · rw [if_pos rfl, Nat.testBit_two_pow_self, decide_eq_true rfl]
          rfl
      · rw [decide_eq_false e, Bool.false_and]
        by_cases c : D.testBit j = true
        · rw [if_pos c, Nat.testBit_two_pow, decide_eq_false e]
        · rw [if_neg c, Nat.zero_testBit]
    unfold cnQ
    rw [h2, smN_app, smN_app]
    show cnQ Q (2 ^ j) + _ = (cnQ (fun s => decide (s &&& D = s) && Q s) (2 ^ j) + _) * 2 ^ (exD D j + if D.testBit j = true then 0 else 1)
    rw [ih0]
    by_cases c : D.testBit j = true
    · have ih1 := cn_D (D := D) j (fun s => Q (2 ^ j + s)) (fun s hs => by
        have hl : s &&& D ≤ s := Nat.and_le_left
        rw [h _ (by omega), hand s hs, htp, if_pos c, hor _ (show s &&& D < 2 ^ j by omega)])
      have e1 : smN (fun k => if Q (2 ^ j + k) = true then 1 else 0) (2 ^ j) = cnQ (fun s => Q (2 ^ j + s)) (2 ^ j) := rfl
      have e2 : smN (fun k => if (decide ((2 ^ j + k) &&& D = 2 ^ j + k) && Q (2 ^ j + k)) = true then 1 else 0) (2 ^ j) = cnQ (fun s => decide (s &&& D = s) && Q (2 ^ j + s)) (2 ^ j) := smN_c _ (fun s hs => by
        have hl : s &&& D ≤ s := Nat.and_le_left
        have : ((2 ^ j + s) &&& D = 2 ^ j + s) = (s &&& D = s) := by
          rw [hand s hs, htp, if_pos c, ← hor _ (show s &&& D < 2 ^ j by omega)]
          exact propext ⟨fun z => by omega, fun z => by rw [z]⟩
        simp only [this])
      rw [e1, e2, ih1, if_pos c, Nat.add_zero, Nat.add_mul]
    · have e1 : smN (fun k => if Q (2 ^ j + k) = true then 1 else 0) (2 ^ j) = cnQ Q (2 ^ j) := smN_c _ (fun s hs => by
        rw [h _ (by omega), hand s hs, htp, if_neg c, Nat.zero_or, ← h s (by omega)])
      have e2 : smN (fun k => if (decide ((2 ^ j + k) &&& D = 2 ^ j + k) && Q (2 ^ j + k)) = true then 1 else 0) (2 ^ j) = 0 := smN_z _ (fun s hs => by
        have hl : s &&& D ≤ s := Nat.and_le_left
        have : ¬ ((2 ^ j + s) &&& D = 2 ^ j + s) := by
          rw [hand s hs, htp, if_neg c, Nat.zero_or]
          omega
        rw [decide_eq_false this, Bool.false_and]
        rfl)
      rw [e1, e2, ih0, if_neg c, Nat.pow_succ]
      generalize cnQ (fun s => decide (s &&& D = s) && Q s) (2 ^ j) = x
      generalize 2 ^ exD D j = z
      rw [Nat.add_zero, ← Nat.mul_assoc]
      omega
