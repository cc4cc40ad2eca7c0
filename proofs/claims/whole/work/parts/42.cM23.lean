/-! contracts of HerbWatersModel, 22: the game to its rest -/
def wvF (I : Iv) (nV nC n : Nat) (c : Int32) (G : Nat → Int32) : Nat → Nat → Int32
  | 0 => G
  | v + 1 => ru (wvF I nV nC n c G v) v (nI (wsN (sr I 500123 (wvF I nV nC n c G v)) nV nC v n c 4).1)
def grT (I : Iv) (nV nC n : Nat) (c : Int32) : Nat → Nat → Int32
  | 0 => I 500123
  | t + 1 => wvF I nV nC n c (grT I nV nC n c t) nV
section CM23
variable {Γ : Gm} {l : Launch} {d : Nat} {I : Iv} {E : Ev} {kr : Kr} {kx : Kxx}
theorem c_restBy {n nV nC : Nat} {c : Int32} (hn : n ≤ 30) (hV : VS I nV nC)
    (h1 : ∀ t, t < 20 → (∀ s k, s ≤ t → k < s → ¬ eqG nV (grT I nV nC n c s) (grT I nV nC n c k)) → eqG nV (grT I nV nC n c (t + 1)) (grT I nV nC n c t) → ∀ J, MP (sr I 500123 (grT I nV nC n c (t + 1))) J → J 500000 0 = I 500000 0 → kr (some (.int (nI 1))) J E)
    (h2 : ∀ t k, t < 20 → (∀ s k, s ≤ t → k < s → ¬ eqG nV (grT I nV nC n c s) (grT I nV nC n c k)) → ¬ eqG nV (grT I nV nC n c (t + 1)) (grT I nV nC n c t) → k < t + 1 → eqG nV (grT I nV nC n c (t + 1)) (grT I nV nC n c k) → ∀ J, MP (sr I 500123 (grT I nV nC n c (t + 1))) J → J 500000 0 = I 500000 0 → kr (some (.int (nI 0))) J E)
    (h3 : (∀ s k, s ≤ 20 → k < s → ¬ eqG nV (grT I nV nC n c s) (grT I nV nC n c k)) → ∀ J, MP (sr I 500123 (grT I nV nC n c 20)) J → J 500000 0 = I 500000 0 → kr (some (.int (nI 0))) J E) : Ex Γ l shN (d + 9) (0, 0) mM_restBy [.ref 500000, .int (nI n), .int c] I E kr kx := by
  have hV0 := hV
  obtain ⟨hT0, h9, _, hC, _⟩ := hV0
  obtain ⟨G, hG⟩ : ∃ G : Nat → Nat → Int32, G = grT I nV nC n c := ⟨_, rfl⟩
  rw [← hG] at h1 h2 h3
  have hTs : ∀ r, SayT I (sr I 500123 r) := fun r i hi => sr_n (by unfold tw at hi; omega)
  refine ex_of (ls0 := [some (.ref 500000), some (.int (nI n)), some (.int c), none, none]) tM_restBy (by decide +kernel) kM_restBy rfl (Nat.le_of_ble_eq_true rfl) rfl ?_
  intro go hgo
  have rounds : ∀ (g t : Nat) (J : Iv) (t4 : Option Value), g + t = 20 → MP (sr I 500123 (G t)) J → J 500000 0 = I 500000 0 → (∀ k, k < t → eqG nV (J (500335 + k)) (G k)) → (∀ s k, s ≤ t → k < s → ¬ eqG nV (G s) (G k)) → go 2 [some (.ref 500000), some (.int (nI n)), some (.int c), some (.int (nI (t + 1))), t4] [] J E (0, 0) := by
    intro g
    induction g with
    | zero =>
      intro t J t4 ht hM hz hrow hno
      have : t = 20 := by omega
      subst this
      refine hgo 20 [2, 11, 49, 101] 2 _ _ _ _ _ ?_
      simp only [ixr_of, run_s, run_0, rM_restBy, rok_i, rok_z, bx_cons, bx_nil, eAALD107, eBP, eC0, eC1, eCV1, eCV3, eGO, eGR, eIALD, eIAST, jICge, jICgt, jIFeq, eINC3, eINC4, eLA0, eLI1, eLI2, eLI3, eLI4, eRI, eSI3, eSI4, eSUB, fM_restBy_0, fM_restBy_2, fM_restBy_8, fM_restBy_11, fM_restBy_22, fM_restBy_46, fM_restBy_49, fM_restBy_60, fM_restBy_81, fM_restBy_96, fM_restBy_98, fM_restBy_101, fM_restBy_107, fM_restBy_121, fM_restBy_123, fM_restBy_129, fM_restBy_135, bM_restBy_0, bM_restBy_2, bM_restBy_8, bM_restBy_11, bM_restBy_22, bM_restBy_46, bM_restBy_49, bM_restBy_60, bM_restBy_81, bM_restBy_96, bM_restBy_98, bM_restBy_101, bM_restBy_107, bM_restBy_121, bM_restBy_123, bM_restBy_129, bM_restBy_135, ln_mgrade, ln_mgrades, ln_mtold, rg_m_12, rg_m_31, rg_m_55, ty_m, ty_mgrade, ty_mgrades, ty_mtold, Option.toList_some, Option.toList_none, List.cons_append, List.nil_append, List.length_cons, List.length_nil, List.mem_cons, List.not_mem_nil, or_false, false_or, or_true, true_or, ↓reduceIte, true_and, and_true, Nat.reduceEqDiff, Nat.reduceAdd, Nat.reduceLeDiff, Nat.reduceLT, dl_i, dl_r, dl_n, dl_u, eq_self, not_true_eq_false, not_false_eq_true, n10, n01, nm0, n0m, nIs, imp_t, imp_f]
      exact h3 hno J hM hz
    | succ g ih =>
      intro t J t4 ht hM hz hrow hno
      have ht21 : t < 21 := by omega
      have hsub : nI (t + 1) - nI 1 = nI t := by rw [pk_sub (by omega)]; congr 1
      -- the rows of old
      have cmp : ∀ (gk k : Nat) (K : Iv), gk + k = t + 1 → MP (sr I 500123 (G (t + 1))) K → K 500000 0 = I 500000 0 → (∀ k, k < t + 1 → eqG nV (K (500335 + k)) (G k)) → ¬ eqG nV (G (t + 1)) (G t) → (∀ k', k' < k → ¬ eqG nV (G (t + 1)) (G k')) → go 101 [some (.ref 500000), some (.int (nI n)), some (.int c), some (.int (nI (t + 1))), some (.int (nI k))] [] K E (0, 0) := by
        intro gk
        induction gk with
        | zero =>
          intro k K hk hM hz hrow hne hk'
          have : k = t + 1 := by omega
          subst this
          refine hgo 20 [2, 101] 101 _ _ _ _ _ ?_
          simp only [ixr_of, run_s, run_0, rM_restBy, rok_i, rok_z, bx_cons, bx_nil, eAALD107, eBP, eC0, eC1, eCV1, eCV3, eGO, eGR, eIALD, eIAST, jICge, jICgt, jIFeq, eINC3, eINC4, eLA0, eLI1, eLI2, eLI3, eLI4, eRI, eSI3, eSI4, eSUB, fM_restBy_0, fM_restBy_2, fM_restBy_8, fM_restBy_11, fM_restBy_22, fM_restBy_46, fM_restBy_49, fM_restBy_60, fM_restBy_81, fM_restBy_96, fM_restBy_98, fM_restBy_101, fM_restBy_107, fM_restBy_121, fM_restBy_123, fM_restBy_129, fM_restBy_135, bM_restBy_0, bM_restBy_2, bM_restBy_8, bM_restBy_11, bM_restBy_22, bM_restBy_46, bM_restBy_49, bM_restBy_60, bM_restBy_81, bM_restBy_96, bM_restBy_98, bM_restBy_101, bM_restBy_107, bM_restBy_121, bM_restBy_123, bM_restBy_129, bM_restBy_135, ln_mgrade, ln_mgrades, ln_mtold, rg_m_12, rg_m_31, rg_m_55, ty_m, ty_mgrade, ty_mgrades, ty_mtold, Option.toList_some, Option.toList_none, List.cons_append, List.nil_append, List.length_cons, List.length_nil, List.mem_cons, List.not_mem_nil, or_false, false_or, or_true, true_or, ↓reduceIte, true_and, and_true, Nat.reduceEqDiff, Nat.reduceAdd, Nat.reduceLeDiff, Nat.reduceLT, dl_i, dl_r, dl_n, dl_u, eq_self, not_true_eq_false, not_false_eq_true, n10, n01, nm0, n0m, nI_add, imp_t, imp_f]
          refine ⟨fun _ => ih (t + 1) K _ (by omega) hM hz hrow (fun s k hs hk => ?_), fun q => absurd (Int32.le_refl _) q⟩
          by_cases e : s = t + 1
          · subst e; exact hk' k hk
          · exact hno s k (by omega) hk
        | succ gk ihk =>
          intro k K hk hM hz hrow hne hk'
          have hk21 : k < 21 := by omega
          have eg : K 500123 = G (t + 1) := by rw [hM.1 500123 (by decide) (by unfold scA; omega), sr_s]
          have eq1 : eqG nV (K 500123) (K (500335 + k)) ↔ eqG nV (G (t + 1)) (G k) := by
            rw [eg]
            exact ⟨fun c v hv => (c v hv).trans (hrow k (by omega) v hv), fun c v hv => (c v hv).trans (hrow k (by omega) v hv).symm⟩
          refine hgo 20 [2, 101] 101 _ _ _ _ _ ?_
          simp only [ixr_of, run_s, run_0, rM_restBy, rok_i, rok_z, bx_cons, bx_nil, eAALD107, eBP, eC0, eC1, eCV1, eCV3, eGO, eGR, eIALD, eIAST, jICge, jICgt, jIFeq, eINC3, eINC4, eLA0, eLI1, eLI2, eLI3, eLI4, eRI, eSI3, eSI4, eSUB, fM_restBy_0, fM_restBy_2, fM_restBy_8, fM_restBy_11, fM_restBy_22, fM_restBy_46, fM_restBy_49, fM_restBy_60, fM_restBy_81, fM_restBy_96, fM_restBy_98, fM_restBy_101, fM_restBy_107, fM_restBy_121, fM_restBy_123, fM_restBy_129, fM_restBy_135, bM_restBy_0, bM_restBy_2, bM_restBy_8, bM_restBy_11, bM_restBy_22, bM_restBy_46, bM_restBy_49, bM_restBy_60, bM_restBy_81, bM_restBy_96, bM_restBy_98, bM_restBy_101, bM_restBy_107, bM_restBy_121, bM_restBy_123, bM_restBy_129, bM_restBy_135, ln_mgrade, ln_mgrades, ln_mtold, rg_m_12, rg_m_31, rg_m_55, ty_m, ty_mgrade, ty_mgrades, ty_mtold, Option.toList_some, Option.toList_none, List.cons_append, List.nil_append, List.length_cons, List.length_nil, List.mem_cons, List.not_mem_nil, or_false, false_or, or_true, true_or, ↓reduceIte, true_and, and_true, Nat.reduceEqDiff, Nat.reduceAdd, Nat.reduceLeDiff, Nat.reduceLT, dl_i, dl_r, dl_n, dl_u, eq_self, not_true_eq_false, not_false_eq_true, n10, n01, nm0, n0m, hk21, rg_mgrades hk21, tr_mgrades hk21, lr_mgrades hk21, imp_t, imp_f]
          rw [nI_leI (by omega) (by omega)]
          refine ⟨fun q => absurd q (by omega), fun _ => ?_⟩
          refine call0 (c_areGrades hk21 (by rw [hM.1 500004 (by decide) (by unfold scA; omega), sr_n (by decide)]; exact hT0) h9 (fun q => ?_) (fun q => ?_))
          · simp only [ixr_of, run_s, run_0, rM_restBy, rok_i, rok_z, bx_cons, bx_nil, eAALD107, eBP, eC0, eC1, eCV1, eCV3, eGO, eGR, eIALD, eIAST, jICge, jICgt, jIFeq, eINC3, eINC4, eLA0, eLI1, eLI2, eLI3, eLI4, eRI, eSI3, eSI4, eSUB, fM_restBy_0, fM_restBy_2, fM_restBy_8, fM_restBy_11, fM_restBy_22, fM_restBy_46, fM_restBy_49, fM_restBy_60, fM_restBy_81, fM_restBy_96, fM_restBy_98, fM_restBy_101, fM_restBy_107, fM_restBy_121, fM_restBy_123, fM_restBy_129, fM_restBy_135, bM_restBy_0, bM_restBy_2, bM_restBy_8, bM_restBy_11, bM_restBy_22, bM_restBy_46, bM_restBy_49, bM_restBy_60, bM_restBy_81, bM_restBy_96, bM_restBy_98, bM_restBy_101, bM_restBy_107, bM_restBy_121, bM_restBy_123, bM_restBy_129, bM_restBy_135, ln_mgrade, ln_mgrades, ln_mtold, rg_m_12, rg_m_31, rg_m_55, ty_m, ty_mgrade, ty_mgrades, ty_mtold, Option.toList_some, Option.toList_none, List.cons_append, List.nil_append, List.length_cons, List.length_nil, List.mem_cons, List.not_mem_nil, or_false, false_or, or_true, true_or, ↓reduceIte, true_and, and_true, Nat.reduceEqDiff, Nat.reduceAdd, Nat.reduceLeDiff, Nat.reduceLT, dl_i, dl_r, dl_n, dl_u, eq_self, not_true_eq_false, not_false_eq_true, n10, n01, nm0, n0m, imp_t, imp_f]
            exact h2 t k (by omega) hno hne (by omega) (eq1.mp q) K hM hz
          · simp only [ixr_of, run_s, run_0, rM_restBy, rok_i, rok_z, bx_cons, bx_nil, eAALD107, eBP, eC0, eC1, eCV1, eCV3, eGO, eGR, eIALD, eIAST, jICge, jICgt, jIFeq, eINC3, eINC4, eLA0, eLI1, eLI2, eLI3, eLI4, eRI, eSI3, eSI4, eSUB, fM_restBy_0, fM_restBy_2, fM_restBy_8, fM_restBy_11, fM_restBy_22, fM_restBy_46, fM_restBy_49, fM_restBy_60, fM_restBy_81, fM_restBy_96, fM_restBy_98, fM_restBy_101, fM_restBy_107, fM_restBy_121, fM_restBy_123, fM_restBy_129, fM_restBy_135, bM_restBy_0, bM_restBy_2, bM_restBy_8, bM_restBy_11, bM_restBy_22, bM_restBy_46, bM_restBy_49, bM_restBy_60, bM_restBy_81, bM_restBy_96, bM_restBy_98, bM_restBy_101, bM_restBy_107, bM_restBy_121, bM_restBy_123, bM_restBy_129, bM_restBy_135, ln_mgrade, ln_mgrades, ln_mtold, rg_m_12, rg_m_31, rg_m_55, ty_m, ty_mgrade, ty_mgrades, ty_mtold, Option.toList_some, Option.toList_none, List.cons_append, List.nil_append, List.length_cons, List.length_nil, List.mem_cons, List.not_mem_nil, or_false, false_or, or_true, true_or, ↓reduceIte, true_and, and_true, Nat.reduceEqDiff, Nat.reduceAdd, Nat.reduceLeDiff, Nat.reduceLT, dl_i, dl_r, dl_n, dl_u, eq_self, not_true_eq_false, not_false_eq_true, n10, n01, nm0, n0m, nI_add, imp_t, imp_f]
            refine ihk (k + 1) K (by omega) hM hz hrow hne (fun k' hk2 => ?_)
            by_cases e : k' = k
            · subst e; exact fun c => q (eq1.mpr c)
            · exact hk' k' (by omega)
      -- the wishes
      have wish : ∀ (gv v : Nat) (K : Iv), gv + v = nV → MP (sr I 500123 (wvF I nV nC n c (G t) v)) K → K 500000 0 = I 500000 0 → (∀ k, k < t + 1 → eqG nV (K (500335 + k)) (G k)) → go 49 [some (.ref 500000), some (.int (nI n)), some (.int c), some (.int (nI (t + 1))), some (.int (nI v))] [] K E (0, 0) := by
        intro gv
        induction gv with
        | zero =>
          intro v K hv hM hz hrow
          have : v = nV := by omega
          subst this
          have hGt : wvF I v nC n c (G t) v = G (t + 1) := by rw [hG]; rfl
          rw [hGt] at hM
          have e1 : K 500004 = I 500004 := by rw [hM.1 500004 (by decide) (by unfold scA; omega), sr_n (by decide)]
          have eg : K 500123 = G (t + 1) := by rw [hM.1 500123 (by decide) (by unfold scA; omega), sr_s]
          have eq1 : eqG v (K 500123) (K (500335 + t)) ↔ eqG v (G (t + 1)) (G t) := by
            rw [eg]
            exact ⟨fun c w hw => (c w hw).trans (hrow t (by omega) w hw), fun c w hw => (c w hw).trans (hrow t (by omega) w hw).symm⟩
          refine hgo 20 [2, 49, 101] 49 _ _ _ _ _ ?_
          simp only [ixr_of, run_s, run_0, rM_restBy, rok_i, rok_z, bx_cons, bx_nil, eAALD107, eBP, eC0, eC1, eCV1, eCV3, eGO, eGR, eIALD, eIAST, jICge, jICgt, jIFeq, eINC3, eINC4, eLA0, eLI1, eLI2, eLI3, eLI4, eRI, eSI3, eSI4, eSUB, fM_restBy_0, fM_restBy_2, fM_restBy_8, fM_restBy_11, fM_restBy_22, fM_restBy_46, fM_restBy_49, fM_restBy_60, fM_restBy_81, fM_restBy_96, fM_restBy_98, fM_restBy_101, fM_restBy_107, fM_restBy_121, fM_restBy_123, fM_restBy_129, fM_restBy_135, bM_restBy_0, bM_restBy_2, bM_restBy_8, bM_restBy_11, bM_restBy_22, bM_restBy_46, bM_restBy_49, bM_restBy_60, bM_restBy_81, bM_restBy_96, bM_restBy_98, bM_restBy_101, bM_restBy_107, bM_restBy_121, bM_restBy_123, bM_restBy_129, bM_restBy_135, ln_mgrade, ln_mgrades, ln_mtold, rg_m_12, rg_m_31, rg_m_55, ty_m, ty_mgrade, ty_mgrades, ty_mtold, Option.toList_some, Option.toList_none, List.cons_append, List.nil_append, List.length_cons, List.length_nil, List.mem_cons, List.not_mem_nil, or_false, false_or, or_true, true_or, ↓reduceIte, true_and, and_true, Nat.reduceEqDiff, Nat.reduceAdd, Nat.reduceLeDiff, Nat.reduceLT, dl_i, dl_r, dl_n, dl_u, eq_self, not_true_eq_false, not_false_eq_true, n10, n01, nm0, n0m, e1, hT0, hsub, ht21, rg_mgrades ht21, tr_mgrades ht21, lr_mgrades ht21, imp_t, imp_f]
          refine ⟨fun _ => ?_, fun q => absurd (Int32.le_refl _) q⟩
          refine call0 (c_areGrades ht21 (by rw [e1]; exact hT0) h9 (fun q => ?_) (fun q => ?_))
          · simp only [ixr_of, run_s, run_0, rM_restBy, rok_i, rok_z, bx_cons, bx_nil, eAALD107, eBP, eC0, eC1, eCV1, eCV3, eGO, eGR, eIALD, eIAST, jICge, jICgt, jIFeq, eINC3, eINC4, eLA0, eLI1, eLI2, eLI3, eLI4, eRI, eSI3, eSI4, eSUB, fM_restBy_0, fM_restBy_2, fM_restBy_8, fM_restBy_11, fM_restBy_22, fM_restBy_46, fM_restBy_49, fM_restBy_60, fM_restBy_81, fM_restBy_96, fM_restBy_98, fM_restBy_101, fM_restBy_107, fM_restBy_121, fM_restBy_123, fM_restBy_129, fM_restBy_135, bM_restBy_0, bM_restBy_2, bM_restBy_8, bM_restBy_11, bM_restBy_22, bM_restBy_46, bM_restBy_49, bM_restBy_60, bM_restBy_81, bM_restBy_96, bM_restBy_98, bM_restBy_101, bM_restBy_107, bM_restBy_121, bM_restBy_123, bM_restBy_129, bM_restBy_135, ln_mgrade, ln_mgrades, ln_mtold, rg_m_12, rg_m_31, rg_m_55, ty_m, ty_mgrade, ty_mgrades, ty_mtold, Option.toList_some, Option.toList_none, List.cons_append, List.nil_append, List.length_cons, List.length_nil, List.mem_cons, List.not_mem_nil, or_false, false_or, or_true, true_or, ↓reduceIte, true_and, and_true, Nat.reduceEqDiff, Nat.reduceAdd, Nat.reduceLeDiff, Nat.reduceLT, dl_i, dl_r, dl_n, dl_u, eq_self, not_true_eq_false, not_false_eq_true, n10, n01, nm0, n0m, imp_t, imp_f]
            exact h1 t (by omega) hno (eq1.mp q) K hM hz
          · simp only [ixr_of, run_s, run_0, rM_restBy, rok_i, rok_z, bx_cons, bx_nil, eAALD107, eBP, eC0, eC1, eCV1, eCV3, eGO, eGR, eIALD, eIAST, jICge, jICgt, jIFeq, eINC3, eINC4, eLA0, eLI1, eLI2, eLI3, eLI4, eRI, eSI3, eSI4, eSUB, fM_restBy_0, fM_restBy_2, fM_restBy_8, fM_restBy_11, fM_restBy_22, fM_restBy_46, fM_restBy_49, fM_restBy_60, fM_restBy_81, fM_restBy_96, fM_restBy_98, fM_restBy_101, fM_restBy_107, fM_restBy_121, fM_restBy_123, fM_restBy_129, fM_restBy_135, bM_restBy_0, bM_restBy_2, bM_restBy_8, bM_restBy_11, bM_restBy_22, bM_restBy_46, bM_restBy_49, bM_restBy_60, bM_restBy_81, bM_restBy_96, bM_restBy_98, bM_restBy_101, bM_restBy_107, bM_restBy_121, bM_restBy_123, bM_restBy_129, bM_restBy_135, ln_mgrade, ln_mgrades, ln_mtold, rg_m_12, rg_m_31, rg_m_55, ty_m, ty_mgrade, ty_mgrades, ty_mtold, Option.toList_some, Option.toList_none, List.cons_append, List.nil_append, List.length_cons, List.length_nil, List.mem_cons, List.not_mem_nil, or_false, false_or, or_true, true_or, ↓reduceIte, true_and, and_true, Nat.reduceEqDiff, Nat.reduceAdd, Nat.reduceLeDiff, Nat.reduceLT, dl_i, dl_r, dl_n, dl_u, eq_self, not_true_eq_false, not_false_eq_true, n10, n01, nm0, n0m, imp_t, imp_f]
            exact cmp (t + 1) 0 K (by omega) hM hz hrow (fun c => q (eq1.mpr c)) (fun k' hk' => by omega)
        | succ gv ihv =>
          intro v K hv hM hz hrow
          have hv9 : v < 9 := by omega
          have e1 : K 500004 = I 500004 := by rw [hM.1 500004 (by decide) (by unfold scA; omega), sr_n (by decide)]
          refine hgo 20 [2, 49, 101] 49 _ _ _ _ _ ?_
          simp only [ixr_of, run_s, run_0, rM_restBy, rok_i, rok_z, bx_cons, bx_nil, eAALD107, eBP, eC0, eC1, eCV1, eCV3, eGO, eGR, eIALD, eIAST, jICge, jICgt, jIFeq, eINC3, eINC4, eLA0, eLI1, eLI2, eLI3, eLI4, eRI, eSI3, eSI4, eSUB, fM_restBy_0, fM_restBy_2, fM_restBy_8, fM_restBy_11, fM_restBy_22, fM_restBy_46, fM_restBy_49, fM_restBy_60, fM_restBy_81, fM_restBy_96, fM_restBy_98, fM_restBy_101, fM_restBy_107, fM_restBy_121, fM_restBy_123, fM_restBy_129, fM_restBy_135, bM_restBy_0, bM_restBy_2, bM_restBy_8, bM_restBy_11, bM_restBy_22, bM_restBy_46, bM_restBy_49, bM_restBy_60, bM_restBy_81, bM_restBy_96, bM_restBy_98, bM_restBy_101, bM_restBy_107, bM_restBy_121, bM_restBy_123, bM_restBy_129, bM_restBy_135, ln_mgrade, ln_mgrades, ln_mtold, rg_m_12, rg_m_31, rg_m_55, ty_m, ty_mgrade, ty_mgrades, ty_mtold, Option.toList_some, Option.toList_none, List.cons_append, List.nil_append, List.length_cons, List.length_nil, List.mem_cons, List.not_mem_nil, or_false, false_or, or_true, true_or, ↓reduceIte, true_and, and_true, Nat.reduceEqDiff, Nat.reduceAdd, Nat.reduceLeDiff, Nat.reduceLT, dl_i, dl_r, dl_n, dl_u, eq_self, not_true_eq_false, not_false_eq_true, n10, n01, nm0, n0m, e1, hT0, imp_t, imp_f]
          rw [nI_leI (by omega) (by omega)]
          refine ⟨fun q => absurd q (by omega), fun _ => ?_⟩
          refine call0 (c_wishOf hn ((hV.t (hTs _)).t hM.t) (by omega) ?_)
          intro L hL hLz
          simp only [ixr_of, run_s, run_0, rM_restBy, rok_i, rok_z, bx_cons, bx_nil, eAALD107, eBP, eC0, eC1, eCV1, eCV3, eGO, eGR, eIALD, eIAST, jICge, jICgt, jIFeq, eINC3, eINC4, eLA0, eLI1, eLI2, eLI3, eLI4, eRI, eSI3, eSI4, eSUB, fM_restBy_0, fM_restBy_2, fM_restBy_8, fM_restBy_11, fM_restBy_22, fM_restBy_46, fM_restBy_49, fM_restBy_60, fM_restBy_81, fM_restBy_96, fM_restBy_98, fM_restBy_101, fM_restBy_107, fM_restBy_121, fM_restBy_123, fM_restBy_129, fM_restBy_135, bM_restBy_0, bM_restBy_2, bM_restBy_8, bM_restBy_11, bM_restBy_22, bM_restBy_46, bM_restBy_49, bM_restBy_60, bM_restBy_81, bM_restBy_96, bM_restBy_98, bM_restBy_101, bM_restBy_107, bM_restBy_121, bM_restBy_123, bM_restBy_129, bM_restBy_135, ln_mgrade, ln_mgrades, ln_mtold, rg_m_12, rg_m_31, rg_m_55, ty_m, ty_mgrade, ty_mgrades, ty_mtold, Option.toList_some, Option.toList_none, List.cons_append, List.nil_append, List.length_cons, List.length_nil, List.mem_cons, List.not_mem_nil, or_false, false_or, or_true, true_or, ↓reduceIte, true_and, and_true, Nat.reduceEqDiff, Nat.reduceAdd, Nat.reduceLeDiff, Nat.reduceLT, dl_i, dl_r, dl_n, dl_u, eq_self, not_true_eq_false, not_false_eq_true, n10, n01, nm0, n0m, hv9, nI_add, imp_t, imp_f]
          rw [wsN_mp h9 hC hM]
          refine ihv (v + 1) _ (by omega) ?_ (by rw [up_n (by omega), hLz, hz]) (fun k hk w hw => ?_)
          · have := (hM.tr hL.1).g (v := v) (x := nI (wsN (sr I 500123 (wvF I nV nC n c (G t) v)) nV nC v n c 4).1)
            rw [up_sr] at this
            exact this
          · rw [up_n (by omega), hL.2 (500335 + k) (by omega)]
            exact hrow k hk w hw
      have store : ∀ (gv v : Nat) (K : Iv), gv + v = nV → MP (sr I 500123 (G t)) K → K 500000 0 = I 500000 0 → (∀ k, k < t → eqG nV (K (500335 + k)) (G k)) → (∀ w, w < v → K (500335 + t) w = G t w) → go 11 [some (.ref 500000), some (.int (nI n)), some (.int c), some (.int (nI (t + 1))), some (.int (nI v))] [] K E (0, 0) := by
        intro gv
        induction gv with
        | zero =>
          intro v K hv hM hz hrow hw
          have : v = nV := by omega
          subst this
          have e1 : K 500004 = I 500004 := by rw [hM.1 500004 (by decide) (by unfold scA; omega), sr_n (by decide)]
          refine hgo 20 [11, 49] 11 _ _ _ _ _ ?_
          simp only [ixr_of, run_s, run_0, rM_restBy, rok_i, rok_z, bx_cons, bx_nil, eAALD107, eBP, eC0, eC1, eCV1, eCV3, eGO, eGR, eIALD, eIAST, jICge, jICgt, jIFeq, eINC3, eINC4, eLA0, eLI1, eLI2, eLI3, eLI4, eRI, eSI3, eSI4, eSUB, fM_restBy_0, fM_restBy_2, fM_restBy_8, fM_restBy_11, fM_restBy_22, fM_restBy_46, fM_restBy_49, fM_restBy_60, fM_restBy_81, fM_restBy_96, fM_restBy_98, fM_restBy_101, fM_restBy_107, fM_restBy_121, fM_restBy_123, fM_restBy_129, fM_restBy_135, bM_restBy_0, bM_restBy_2, bM_restBy_8, bM_restBy_11, bM_restBy_22, bM_restBy_46, bM_restBy_49, bM_restBy_60, bM_restBy_81, bM_restBy_96, bM_restBy_98, bM_restBy_101, bM_restBy_107, bM_restBy_121, bM_restBy_123, bM_restBy_129, bM_restBy_135, ln_mgrade, ln_mgrades, ln_mtold, rg_m_12, rg_m_31, rg_m_55, ty_m, ty_mgrade, ty_mgrades, ty_mtold, Option.toList_some, Option.toList_none, List.cons_append, List.nil_append, List.length_cons, List.length_nil, List.mem_cons, List.not_mem_nil, or_false, false_or, or_true, true_or, ↓reduceIte, true_and, and_true, Nat.reduceEqDiff, Nat.reduceAdd, Nat.reduceLeDiff, Nat.reduceLT, dl_i, dl_r, dl_n, dl_u, eq_self, not_true_eq_false, not_false_eq_true, n10, n01, nm0, n0m, e1, hT0, imp_t, imp_f]
          refine ⟨fun _ => wish v 0 K (by omega) hM hz (fun k hk => ?_), fun q => absurd (Int32.le_refl _) q⟩
          by_cases e : k = t
          · subst e; exact hw
          · exact hrow k (by omega)
        | succ gv ihv =>
          intro v K hv hM hz hrow hw
          have hv9 : v < 9 := by omega
          have e1 : K 500004 = I 500004 := by rw [hM.1 500004 (by decide) (by unfold scA; omega), sr_n (by decide)]
          have eg : K 500123 = G t := by rw [hM.1 500123 (by decide) (by unfold scA; omega), sr_s]
          refine hgo 20 [11, 49] 11 _ _ _ _ _ ?_
          simp only [ixr_of, run_s, run_0, rM_restBy, rok_i, rok_z, bx_cons, bx_nil, eAALD107, eBP, eC0, eC1, eCV1, eCV3, eGO, eGR, eIALD, eIAST, jICge, jICgt, jIFeq, eINC3, eINC4, eLA0, eLI1, eLI2, eLI3, eLI4, eRI, eSI3, eSI4, eSUB, fM_restBy_0, fM_restBy_2, fM_restBy_8, fM_restBy_11, fM_restBy_22, fM_restBy_46, fM_restBy_49, fM_restBy_60, fM_restBy_81, fM_restBy_96, fM_restBy_98, fM_restBy_101, fM_restBy_107, fM_restBy_121, fM_restBy_123, fM_restBy_129, fM_restBy_135, bM_restBy_0, bM_restBy_2, bM_restBy_8, bM_restBy_11, bM_restBy_22, bM_restBy_46, bM_restBy_49, bM_restBy_60, bM_restBy_81, bM_restBy_96, bM_restBy_98, bM_restBy_101, bM_restBy_107, bM_restBy_121, bM_restBy_123, bM_restBy_129, bM_restBy_135, ln_mgrade, ln_mgrades, ln_mtold, rg_m_12, rg_m_31, rg_m_55, ty_m, ty_mgrade, ty_mgrades, ty_mtold, Option.toList_some, Option.toList_none, List.cons_append, List.nil_append, List.length_cons, List.length_nil, List.mem_cons, List.not_mem_nil, or_false, false_or, or_true, true_or, ↓reduceIte, true_and, and_true, Nat.reduceEqDiff, Nat.reduceAdd, Nat.reduceLeDiff, Nat.reduceLT, dl_i, dl_r, dl_n, dl_u, eq_self, not_true_eq_false, not_false_eq_true, n10, n01, nm0, n0m, e1, hT0, hsub, ht21, rg_mgrades ht21, tr_mgrades ht21, lr_mgrades ht21, hv9, nI_add, eg, imp_t, imp_f]
          rw [nI_leI (by omega) (by omega)]
          refine ⟨fun q => absurd q (by omega), fun _ => ?_⟩
          refine ihv (v + 1) _ (by omega) (hM.tr (MP.el (by unfold scA; omega) (by omega))) (by rw [up_n (by omega), hz]) (fun k hk w hw' => ?_) (fun w hw' => ?_)
          · rw [up_n (by omega)]; exact hrow k hk w hw'
          · by_cases e : w = v
            · subst e; rw [up_s]
            · rw [up_n (by omega)]; exact hw w (by omega)
      refine hgo 20 [2, 11] 2 _ _ _ _ _ ?_
      simp only [ixr_of, run_s, run_0, rM_restBy, rok_i, rok_z, bx_cons, bx_nil, eAALD107, eBP, eC0, eC1, eCV1, eCV3, eGO, eGR, eIALD, eIAST, jICge, jICgt, jIFeq, eINC3, eINC4, eLA0, eLI1, eLI2, eLI3, eLI4, eRI, eSI3, eSI4, eSUB, fM_restBy_0, fM_restBy_2, fM_restBy_8, fM_restBy_11, fM_restBy_22, fM_restBy_46, fM_restBy_49, fM_restBy_60, fM_restBy_81, fM_restBy_96, fM_restBy_98, fM_restBy_101, fM_restBy_107, fM_restBy_121, fM_restBy_123, fM_restBy_129, fM_restBy_135, bM_restBy_0, bM_restBy_2, bM_restBy_8, bM_restBy_11, bM_restBy_22, bM_restBy_46, bM_restBy_49, bM_restBy_60, bM_restBy_81, bM_restBy_96, bM_restBy_98, bM_restBy_101, bM_restBy_107, bM_restBy_121, bM_restBy_123, bM_restBy_129, bM_restBy_135, ln_mgrade, ln_mgrades, ln_mtold, rg_m_12, rg_m_31, rg_m_55, ty_m, ty_mgrade, ty_mgrades, ty_mtold, Option.toList_some, Option.toList_none, List.cons_append, List.nil_append, List.length_cons, List.length_nil, List.mem_cons, List.not_mem_nil, or_false, false_or, or_true, true_or, ↓reduceIte, true_and, and_true, Nat.reduceEqDiff, Nat.reduceAdd, Nat.reduceLeDiff, Nat.reduceLT, dl_i, dl_r, dl_n, dl_u, eq_self, not_true_eq_false, not_false_eq_true, n10, n01, nm0, n0m, imp_t, imp_f]
      rw [nI_ltI (by omega) (by omega)]
      exact ⟨fun q => absurd q (by omega), fun _ => store nV 0 J (by omega) hM hz hrow (fun w hw => by omega)⟩
  refine hgo 20 [2] 0 _ _ _ _ _ ?_
  simp only [ixr_of, run_s, run_0, rM_restBy, rok_i, rok_z, bx_cons, bx_nil, eAALD107, eBP, eC0, eC1, eCV1, eCV3, eGO, eGR, eIALD, eIAST, jICge, jICgt, jIFeq, eINC3, eINC4, eLA0, eLI1, eLI2, eLI3, eLI4, eRI, eSI3, eSI4, eSUB, fM_restBy_0, fM_restBy_2, fM_restBy_8, fM_restBy_11, fM_restBy_22, fM_restBy_46, fM_restBy_49, fM_restBy_60, fM_restBy_81, fM_restBy_96, fM_restBy_98, fM_restBy_101, fM_restBy_107, fM_restBy_121, fM_restBy_123, fM_restBy_129, fM_restBy_135, bM_restBy_0, bM_restBy_2, bM_restBy_8, bM_restBy_11, bM_restBy_22, bM_restBy_46, bM_restBy_49, bM_restBy_60, bM_restBy_81, bM_restBy_96, bM_restBy_98, bM_restBy_101, bM_restBy_107, bM_restBy_121, bM_restBy_123, bM_restBy_129, bM_restBy_135, ln_mgrade, ln_mgrades, ln_mtold, rg_m_12, rg_m_31, rg_m_55, ty_m, ty_mgrade, ty_mgrades, ty_mtold, Option.toList_some, Option.toList_none, List.cons_append, List.nil_append, List.length_cons, List.length_nil, List.mem_cons, List.not_mem_nil, or_false, false_or, or_true, true_or, ↓reduceIte, true_and, and_true, Nat.reduceEqDiff, Nat.reduceAdd, Nat.reduceLeDiff, Nat.reduceLT, dl_i, dl_r, dl_n, dl_u, eq_self, not_true_eq_false, not_false_eq_true, n10, n01, nm0, n0m, imp_t, imp_f]
  refine rounds 20 0 I _ (by omega) ?_ rfl (fun k hk => by omega) (fun s k hs hk => by omega)
  rw [hG]
  show MP (sr I 500123 (I 500123)) I
  rw [sr_id]
  exact MP.rf
theorem wvF_up {nV nC n : Nat} {c x : Int32} {G : Nat → Int32} (h9 : nV ≤ 9) (hC : nC ≤ 20) : ∀ v, wvF (up I 500000 0 x) nV nC n c G v = wvF I nV nC n c G v
  | 0 => rfl
  | v + 1 => by
    unfold wvF
    rw [wvF_up h9 hC v]
    have hM : ∀ r, MP (sr I 500123 r) (sr (up I 500000 0 x) 500123 r) := fun r => by
      refine ⟨fun i a b => ?_, fun j b => ?_⟩
      · by_cases e : i = 500123
        · subst e; rw [sr_s, sr_s]
        · rw [sr_n e, sr_n e]; funext q; exact up_n (by omega)
      · rw [sr_n (by decide), sr_n (by decide)]; exact up_n (by unfold scF at b; omega)
    rw [wsN_mp h9 hC (hM _)]
theorem grT_up {nV nC n : Nat} {c x : Int32} (h9 : nV ≤ 9) (hC : nC ≤ 20) : ∀ t, grT (up I 500000 0 x) nV nC n c t = grT I nV nC n c t
  | 0 => by
    show up I 500000 0 x 500123 = I 500123
    funext q; exact up_n (by omega)
  | t + 1 => by
    unfold grT
    rw [grT_up h9 hC t, wvF_up h9 hC]
/-- I with grades g, the base anew -/
def rsJ (I : Iv) (g : Nat → Int32) (J : Iv) : Prop := ∃ K, MP (sr I 500123 g) K ∧ K 500000 0 = nI 0 ∧ J = up (sr K 500125 (I 500124)) 500000 39 (nI 0)
theorem c_rest {y c : Int32} {nV nC : Nat} (hV : VS I nV nC) (h0 : ¬ ((nI 1 ≤ y ∧ y ≤ nI 30) ∧ (nI 0 ≤ c ∧ c ≤ nI 99)) → kr (some (.int (nI 0))) (ref1 (up I 500000 0 (nI 0)) (nI 1) 1) E)
    (h1 : ∀ n c', 1 ≤ n → n ≤ 30 → y = nI n → c' ≤ 99 → c = nI c' → ∀ t, t < 20 → (∀ s k, s ≤ t → k < s → ¬ eqG nV (grT I nV nC n c s) (grT I nV nC n c k)) → eqG nV (grT I nV nC n c (t + 1)) (grT I nV nC n c t) → ∀ J, rsJ I (grT I nV nC n c (t + 1)) J → kr (some (.int (nI 1))) J E)
    (h2 : ∀ n c', 1 ≤ n → n ≤ 30 → y = nI n → c' ≤ 99 → c = nI c' → ∀ t k, t < 20 → (∀ s k, s ≤ t → k < s → ¬ eqG nV (grT I nV nC n c s) (grT I nV nC n c k)) → ¬ eqG nV (grT I nV nC n c (t + 1)) (grT I nV nC n c t) → k < t + 1 → eqG nV (grT I nV nC n c (t + 1)) (grT I nV nC n c k) → ∀ J, rsJ I (grT I nV nC n c (t + 1)) J → kr (some (.int (nI 0))) J E)
    (h3 : ∀ n c', 1 ≤ n → n ≤ 30 → y = nI n → c' ≤ 99 → c = nI c' → (∀ s k, s ≤ 20 → k < s → ¬ eqG nV (grT I nV nC n c s) (grT I nV nC n c k)) → ∀ J, rsJ I (grT I nV nC n c 20) J → kr (some (.int (nI 0))) J E) : Ex Γ l shN (d + 10) (0, 0) mM_rest [.ref 500000, .int y, .int c] I E kr kx := by
  have hV0 := hV
  obtain ⟨hT0, h9, _, hC, _⟩ := hV0
  refine ex_of (ls0 := [some (.ref 500000), some (.int y), some (.int c), none]) tM_rest (by decide +kernel) kM_rest rfl (Nat.le_of_ble_eq_true rfl) rfl ?_
  intro go hgo
  refine hgo 20 [] 0 _ _ _ _ _ ?_
  simp only [ixr_of, run_s, run_0, rM_rest, rok_i, rok_z, bx_cons, bx_nil, eBP, eC0, eC1, eCS3, eCV0, eCV2, eCV3, eGO, jIFeq, jIFne, eLA0, eLI1, eLI2, eLI3, ePI, eRI, eSI3, fM_rest_0, fM_rest_16, fM_rest_26, fM_rest_30, fM_rest_31, fM_rest_39, fM_rest_41, bM_rest_0, bM_rest_16, bM_rest_26, bM_rest_30, bM_rest_31, bM_rest_39, bM_rest_41, ty_m, Option.toList_some, Option.toList_none, List.cons_append, List.nil_append, List.length_cons, List.length_nil, List.mem_cons, List.not_mem_nil, or_false, false_or, or_true, true_or, ↓reduceIte, true_and, and_true, Nat.reduceEqDiff, Nat.reduceAdd, Nat.reduceLeDiff, Nat.reduceLT, dl_i, dl_r, dl_n, dl_u, eq_self, not_true_eq_false, not_false_eq_true, n10, n01, nm0, n0m, imp_t, imp_f]
  refine call0 (c_in ?_)
  simp only [ixr_of, run_s, run_0, rM_rest, rok_i, rok_z, bx_cons, bx_nil, eBP, eC0, eC1, eCS3, eCV0, eCV2, eCV3, eGO, jIFeq, jIFne, eLA0, eLI1, eLI2, eLI3, ePI, eRI, eSI3, fM_rest_0, fM_rest_16, fM_rest_26, fM_rest_30, fM_rest_31, fM_rest_39, fM_rest_41, bM_rest_0, bM_rest_16, bM_rest_26, bM_rest_30, bM_rest_31, bM_rest_39, bM_rest_41, ty_m, Option.toList_some, Option.toList_none, List.cons_append, List.nil_append, List.length_cons, List.length_nil, List.mem_cons, List.not_mem_nil, or_false, false_or, or_true, true_or, ↓reduceIte, true_and, and_true, Nat.reduceEqDiff, Nat.reduceAdd, Nat.reduceLeDiff, Nat.reduceLT, dl_i, dl_r, dl_n, dl_u, eq_self, not_true_eq_false, not_false_eq_true, n10, n01, nm0, n0m, imp_t, imp_f]
  by_cases hc0 : nI 1 ≤ y ∧ y ≤ nI 30
  rotate_left
  · rw [bi_f hc0]
    refine ⟨fun _ => ?_, fun q => absurd rfl q⟩
    refine call0 (c_bad0 (by decide) (by decide) up_s (fun q => absurd q n10) (fun _ => ?_))
    simp only [ixr_of, run_s, run_0, rM_rest, rok_i, rok_z, bx_cons, bx_nil, eBP, eC0, eC1, eCS3, eCV0, eCV2, eCV3, eGO, jIFeq, jIFne, eLA0, eLI1, eLI2, eLI3, ePI, eRI, eSI3, fM_rest_0, fM_rest_16, fM_rest_26, fM_rest_30, fM_rest_31, fM_rest_39, fM_rest_41, bM_rest_0, bM_rest_16, bM_rest_26, bM_rest_30, bM_rest_31, bM_rest_39, bM_rest_41, ty_m, Option.toList_some, Option.toList_none, List.cons_append, List.nil_append, List.length_cons, List.length_nil, List.mem_cons, List.not_mem_nil, or_false, false_or, or_true, true_or, ↓reduceIte, true_and, and_true, Nat.reduceEqDiff, Nat.reduceAdd, Nat.reduceLeDiff, Nat.reduceLT, dl_i, dl_r, dl_n, dl_u, eq_self, not_true_eq_false, not_false_eq_true, n10, n01, nm0, n0m, imp_t, imp_f]
    exact h0  (fun q => hc0 q.1)
  rw [bi_t hc0]
  refine ⟨fun q => absurd q n10, fun _ => ?_⟩
  refine call0 (c_in ?_)
  simp only [ixr_of, run_s, run_0, rM_rest, rok_i, rok_z, bx_cons, bx_nil, eBP, eC0, eC1, eCS3, eCV0, eCV2, eCV3, eGO, jIFeq, jIFne, eLA0, eLI1, eLI2, eLI3, ePI, eRI, eSI3, fM_rest_0, fM_rest_16, fM_rest_26, fM_rest_30, fM_rest_31, fM_rest_39, fM_rest_41, bM_rest_0, bM_rest_16, bM_rest_26, bM_rest_30, bM_rest_31, bM_rest_39, bM_rest_41, ty_m, Option.toList_some, Option.toList_none, List.cons_append, List.nil_append, List.length_cons, List.length_nil, List.mem_cons, List.not_mem_nil, or_false, false_or, or_true, true_or, ↓reduceIte, true_and, and_true, Nat.reduceEqDiff, Nat.reduceAdd, Nat.reduceLeDiff, Nat.reduceLT, dl_i, dl_r, dl_n, dl_u, eq_self, not_true_eq_false, not_false_eq_true, n10, n01, nm0, n0m, imp_t, imp_f]
  by_cases hc1 : nI 0 ≤ c ∧ c ≤ nI 99
  rotate_left
  · rw [bi_f hc1]
    refine ⟨fun q => absurd rfl q, fun _ => ?_⟩
    refine call0 (c_bad0 (by decide) (by decide) up_s (fun q => absurd q n10) (fun _ => ?_))
    simp only [ixr_of, run_s, run_0, rM_rest, rok_i, rok_z, bx_cons, bx_nil, eBP, eC0, eC1, eCS3, eCV0, eCV2, eCV3, eGO, jIFeq, jIFne, eLA0, eLI1, eLI2, eLI3, ePI, eRI, eSI3, fM_rest_0, fM_rest_16, fM_rest_26, fM_rest_30, fM_rest_31, fM_rest_39, fM_rest_41, bM_rest_0, bM_rest_16, bM_rest_26, bM_rest_30, bM_rest_31, bM_rest_39, bM_rest_41, ty_m, Option.toList_some, Option.toList_none, List.cons_append, List.nil_append, List.length_cons, List.length_nil, List.mem_cons, List.not_mem_nil, or_false, false_or, or_true, true_or, ↓reduceIte, true_and, and_true, Nat.reduceEqDiff, Nat.reduceAdd, Nat.reduceLeDiff, Nat.reduceLT, dl_i, dl_r, dl_n, dl_u, eq_self, not_true_eq_false, not_false_eq_true, n10, n01, nm0, n0m, imp_t, imp_f]
    exact h0  (fun q => hc1 q.2)
  rw [bi_t hc1]
  refine ⟨fun _ => ?_, fun q => absurd q n10⟩
  refine call0 (c_bad0 (by decide) (by decide) up_s (fun _ => ?_) (fun q => absurd rfl q))
  simp only [ixr_of, run_s, run_0, rM_rest, rok_i, rok_z, bx_cons, bx_nil, eBP, eC0, eC1, eCS3, eCV0, eCV2, eCV3, eGO, jIFeq, jIFne, eLA0, eLI1, eLI2, eLI3, ePI, eRI, eSI3, fM_rest_0, fM_rest_16, fM_rest_26, fM_rest_30, fM_rest_31, fM_rest_39, fM_rest_41, bM_rest_0, bM_rest_16, bM_rest_26, bM_rest_30, bM_rest_31, bM_rest_39, bM_rest_41, ty_m, Option.toList_some, Option.toList_none, List.cons_append, List.nil_append, List.length_cons, List.length_nil, List.mem_cons, List.not_mem_nil, or_false, false_or, or_true, true_or, ↓reduceIte, true_and, and_true, Nat.reduceEqDiff, Nat.reduceAdd, Nat.reduceLeDiff, Nat.reduceLT, dl_i, dl_r, dl_n, dl_u, eq_self, not_true_eq_false, not_false_eq_true, n10, n01, nm0, n0m, imp_t, imp_f]
  obtain ⟨n, hn1, hn, rfl⟩ := rng1 (by decide) hc0
  obtain ⟨c', hc', hce⟩ := rng (by decide) hc1
  have hM : MP I (up I 500000 0 (nI 0)) := MP.fl (by unfold scF; omega)
  have h1 := h1 n c' hn1 hn rfl hc' hce
  have h2 := h2 n c' hn1 hn rfl hc' hce
  have h3 := h3 n c' hn1 hn rfl hc' hce
  have gu := fun t => grT_up (I := I) (n := n) (c := c) (x := nI 0) h9 hC t
  have hMs : ∀ r K, MP (sr (up I 500000 0 (nI 0)) 500123 r) K → MP (sr I 500123 r) K := fun r K hK => by
    refine MP.tr ⟨fun i a b => ?_, fun j b => ?_⟩ hK
    · by_cases e : i = 500123
      · subst e; rw [sr_s, sr_s]
      · rw [sr_n e, sr_n e]; funext q; exact up_n (by omega)
    · rw [sr_n (by decide), sr_n (by decide)]; exact up_n (by unfold scF at b; omega)
  have fin : ∀ r K, MP (sr (up I 500000 0 (nI 0)) 500123 r) K → K 500000 0 = up I 500000 0 (nI 0) 500000 0 → rsJ I r (up (sr K 500125 (K 500124)) 500000 39 (nI 0)) := fun r K hK hz => by
    refine ⟨K, hMs r K hK, by rw [hz, up_s], ?_⟩
    rw [hK.1 500124 (by decide) (by unfold scA; omega), sr_n (by decide), hM.1 500124 (by decide) (by unfold scA; omega)]
  refine call0 (c_restBy hn (hV.t hM.t) ?_ ?_ ?_) <;> simp only [gu]
  · intro t ht hno he K hK hz
    simp only [ixr_of, run_s, run_0, rM_rest, rok_i, rok_z, bx_cons, bx_nil, eBP, eC0, eC1, eCS3, eCV0, eCV2, eCV3, eGO, jIFeq, jIFne, eLA0, eLI1, eLI2, eLI3, ePI, eRI, eSI3, fM_rest_0, fM_rest_16, fM_rest_26, fM_rest_30, fM_rest_31, fM_rest_39, fM_rest_41, bM_rest_0, bM_rest_16, bM_rest_26, bM_rest_30, bM_rest_31, bM_rest_39, bM_rest_41, ty_m, Option.toList_some, Option.toList_none, List.cons_append, List.nil_append, List.length_cons, List.length_nil, List.mem_cons, List.not_mem_nil, or_false, false_or, or_true, true_or, ↓reduceIte, true_and, and_true, Nat.reduceEqDiff, Nat.reduceAdd, Nat.reduceLeDiff, Nat.reduceLT, dl_i, dl_r, dl_n, dl_u, eq_self, not_true_eq_false, not_false_eq_true, n10, n01, nm0, n0m, imp_t, imp_f]
    refine call0 (c_settles' ?_)
    simp only [ixr_of, run_s, run_0, rM_rest, rok_i, rok_z, bx_cons, bx_nil, eBP, eC0, eC1, eCS3, eCV0, eCV2, eCV3, eGO, jIFeq, jIFne, eLA0, eLI1, eLI2, eLI3, ePI, eRI, eSI3, fM_rest_0, fM_rest_16, fM_rest_26, fM_rest_30, fM_rest_31, fM_rest_39, fM_rest_41, bM_rest_0, bM_rest_16, bM_rest_26, bM_rest_30, bM_rest_31, bM_rest_39, bM_rest_41, ty_m, Option.toList_some, Option.toList_none, List.cons_append, List.nil_append, List.length_cons, List.length_nil, List.mem_cons, List.not_mem_nil, or_false, false_or, or_true, true_or, ↓reduceIte, true_and, and_true, Nat.reduceEqDiff, Nat.reduceAdd, Nat.reduceLeDiff, Nat.reduceLT, dl_i, dl_r, dl_n, dl_u, eq_self, not_true_eq_false, not_false_eq_true, n10, n01, nm0, n0m, imp_t, imp_f]
    exact h1 t ht hno he _ (fin _ K hK hz)
  · intro t k ht hno hne hk he K hK hz
    simp only [ixr_of, run_s, run_0, rM_rest, rok_i, rok_z, bx_cons, bx_nil, eBP, eC0, eC1, eCS3, eCV0, eCV2, eCV3, eGO, jIFeq, jIFne, eLA0, eLI1, eLI2, eLI3, ePI, eRI, eSI3, fM_rest_0, fM_rest_16, fM_rest_26, fM_rest_30, fM_rest_31, fM_rest_39, fM_rest_41, bM_rest_0, bM_rest_16, bM_rest_26, bM_rest_30, bM_rest_31, bM_rest_39, bM_rest_41, ty_m, Option.toList_some, Option.toList_none, List.cons_append, List.nil_append, List.length_cons, List.length_nil, List.mem_cons, List.not_mem_nil, or_false, false_or, or_true, true_or, ↓reduceIte, true_and, and_true, Nat.reduceEqDiff, Nat.reduceAdd, Nat.reduceLeDiff, Nat.reduceLT, dl_i, dl_r, dl_n, dl_u, eq_self, not_true_eq_false, not_false_eq_true, n10, n01, nm0, n0m, imp_t, imp_f]
    refine call0 (c_settles' ?_)
    simp only [ixr_of, run_s, run_0, rM_rest, rok_i, rok_z, bx_cons, bx_nil, eBP, eC0, eC1, eCS3, eCV0, eCV2, eCV3, eGO, jIFeq, jIFne, eLA0, eLI1, eLI2, eLI3, ePI, eRI, eSI3, fM_rest_0, fM_rest_16, fM_rest_26, fM_rest_30, fM_rest_31, fM_rest_39, fM_rest_41, bM_rest_0, bM_rest_16, bM_rest_26, bM_rest_30, bM_rest_31, bM_rest_39, bM_rest_41, ty_m, Option.toList_some, Option.toList_none, List.cons_append, List.nil_append, List.length_cons, List.length_nil, List.mem_cons, List.not_mem_nil, or_false, false_or, or_true, true_or, ↓reduceIte, true_and, and_true, Nat.reduceEqDiff, Nat.reduceAdd, Nat.reduceLeDiff, Nat.reduceLT, dl_i, dl_r, dl_n, dl_u, eq_self, not_true_eq_false, not_false_eq_true, n10, n01, nm0, n0m, imp_t, imp_f]
    exact h2 t k ht hno hne hk he _ (fin _ K hK hz)
  · intro hno K hK hz
    simp only [ixr_of, run_s, run_0, rM_rest, rok_i, rok_z, bx_cons, bx_nil, eBP, eC0, eC1, eCS3, eCV0, eCV2, eCV3, eGO, jIFeq, jIFne, eLA0, eLI1, eLI2, eLI3, ePI, eRI, eSI3, fM_rest_0, fM_rest_16, fM_rest_26, fM_rest_30, fM_rest_31, fM_rest_39, fM_rest_41, bM_rest_0, bM_rest_16, bM_rest_26, bM_rest_30, bM_rest_31, bM_rest_39, bM_rest_41, ty_m, Option.toList_some, Option.toList_none, List.cons_append, List.nil_append, List.length_cons, List.length_nil, List.mem_cons, List.not_mem_nil, or_false, false_or, or_true, true_or, ↓reduceIte, true_and, and_true, Nat.reduceEqDiff, Nat.reduceAdd, Nat.reduceLeDiff, Nat.reduceLT, dl_i, dl_r, dl_n, dl_u, eq_self, not_true_eq_false, not_false_eq_true, n10, n01, nm0, n0m, imp_t, imp_f]
    refine call0 (c_settles' ?_)
    simp only [ixr_of, run_s, run_0, rM_rest, rok_i, rok_z, bx_cons, bx_nil, eBP, eC0, eC1, eCS3, eCV0, eCV2, eCV3, eGO, jIFeq, jIFne, eLA0, eLI1, eLI2, eLI3, ePI, eRI, eSI3, fM_rest_0, fM_rest_16, fM_rest_26, fM_rest_30, fM_rest_31, fM_rest_39, fM_rest_41, bM_rest_0, bM_rest_16, bM_rest_26, bM_rest_30, bM_rest_31, bM_rest_39, bM_rest_41, ty_m, Option.toList_some, Option.toList_none, List.cons_append, List.nil_append, List.length_cons, List.length_nil, List.mem_cons, List.not_mem_nil, or_false, false_or, or_true, true_or, ↓reduceIte, true_and, and_true, Nat.reduceEqDiff, Nat.reduceAdd, Nat.reduceLeDiff, Nat.reduceLT, dl_i, dl_r, dl_n, dl_u, eq_self, not_true_eq_false, not_false_eq_true, n10, n01, nm0, n0m, imp_t, imp_f]
    exact h3 hno _ (fin _ K hK hz)
end CM23
