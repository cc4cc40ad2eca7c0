/-! contracts of HerbWatersModel, 12: the face, 2 -/
theorem asN_up {I : Iv} {j : Nat} {x : Int32} (h : j ≠ 37 ∧ j ≠ 38 ∧ j ≠ 41 ∧ j ≠ 42 ∧ j ≠ 49 ∧ j ≠ 43 ∧ j ≠ 46 ∧ j ≠ 47) : asN (up I 500000 j x) = up (asN I) 500000 j x := by
  unfold asN
  rw [up_n (by omega), up_n (by omega)]
  rw [up_com (I := I) (i := 500000) (j := j) (by omega), up_com (i := 500000) (j := j) (by omega), up_com (i := 500000) (j := j) (by omega), up_com (i := 500000) (j := j) (by omega), up_com (i := 500000) (j := j) (by omega), up_com (i := 500000) (j := j) (by omega)]
theorem asN_sr {I : Iv} {a : Nat} {r : Nat → Int32} (h : a ≠ 500000) : asN (sr I a r) = sr (asN I) a r := by
  have e : ∀ (I : Iv) (j : Nat) (x : Int32), up (sr I a r) 500000 j x = sr (up I 500000 j x) a r := by
    intro I j x
    funext i q
    unfold up sr
    by_cases h1 : i = a
    · subst h1; simp [h]
    · simp [h1]
  unfold asN
  rw [sr_n (Ne.symm h), e, e, e, e, e, e]
theorem Fr.fld {a j : Nat} {A K : Iv} {s s' : Int32} (h : Fr a (up A 500000 j s) K) (hj : j ≠ 48) (ha : a ≠ 500000) : Fr a (up A 500000 j s') (up K 500000 j s') := by
  refine ⟨fun i h1 h2 h3 h4 h5 h6 => ?_, fun q hq => ?_⟩
  · funext q
    rw [up_n (by omega), up_n (by omega), congrFun (h.1 i h1 h2 h3 h4 h5 h6) q, up_n (by omega)]
  · by_cases e : q = j
    · subst e; rw [up_s, up_s]
    · rw [up_n (by omega), up_n (by omega), h.2 q hq, up_n (by omega)]
theorem goRow {I J : Iv} {nV nC n a : Nat} {x : Int32} (hV : VS I nV nC) (hr : (J a, J 500000 48) = itR (up (asN I) 500000 0 x) nV nC (up (asN I) 500000 0 x 500124, up (asN I) 500000 0 x 500000 48) n) : (J a, J 500000 48) = itR (asN I) nV nC (I 500124, I 500000 48) n := by
  rw [hr, itR_say (say_up0 (Or.inl rfl)) hV.2.1 hV.2.2.2.1]
  rw [show up (asN I) 500000 0 x 500124 = I 500124 by funext q; rw [up_n (by omega), asN_r (by omega)], show up (asN I) 500000 0 x 500000 48 = I 500000 48 by rw [up_n (by decide), asN_n (Or.inr (by decide))]]
/-- days that go by, till day 999 -/
def dyR (I : Iv) (nV nC : Nat) : Nat → (Nat → Int32) × Int32 → ((Nat → Int32) × Int32) × Nat
  | 0, q => (q, 0)
  | n + 1, q => if q.1 501 < nI 999 then ((dyR I nV nC n (st1 I nV nC q)).1, (dyR I nV nC n (st1 I nV nC q)).2 + 1) else (q, 0)
section CM12
variable {Γ : Gm} {l : Launch} {d : Nat} {I : Iv} {E : Ev} {kr : Kr} {kx : Kxx}
theorem c_asN (h : kr none (asN I) E) : Ex Γ l shN (d + 1) (0, 0) mM_asNow [.ref 500000] I E kr kx := c_asNow h
theorem c_isVillage {v : Int32} (h : kr (some (.int (bi (nI 0 ≤ v ∧ v ≤ I 500004 0 - nI 1)))) I E) : Ex Γ l shN (d + 2) (0, 0) mM_isVillage [.ref 500000, .int v] I E kr kx := by
  refine ex_of (ls0 := [some (.ref 500000), some (.int v)]) tM_isVillage (by decide +kernel) kM_isVillage rfl (Nat.le_of_ble_eq_true rfl) rfl ?_
  intro go hgo
  refine hgo 20 [] 0 _ _ _ _ _ ?_
  simp only [ixr_of, run_s, run_0, rM_isVillage, rok_i, rok_z, bx_cons, bx_nil, eC0, eC1, eCS3, eGR, eIALD, eLA0, eLI1, eRI, eSUB, fM_isVillage_0, bM_isVillage_0, ln_mtold, rg_m_12, ty_m, ty_mtold, Option.toList_some, Option.toList_none, List.cons_append, List.nil_append, List.length_cons, List.length_nil, List.mem_cons, List.not_mem_nil, or_false, false_or, or_true, true_or, ↓reduceIte, true_and, and_true, Nat.reduceEqDiff, Nat.reduceAdd, Nat.reduceLeDiff, Nat.reduceLT, dl_i, dl_r, dl_n, dl_u, eq_self, not_true_eq_false, not_false_eq_true, n10, n01, nm0, n0m, imp_t, imp_f]
  refine call0 (c_in ?_)
  simp only [ixr_of, run_s, run_0, rM_isVillage, rok_i, rok_z, bx_cons, bx_nil, eC0, eC1, eCS3, eGR, eIALD, eLA0, eLI1, eRI, eSUB, fM_isVillage_0, bM_isVillage_0, ln_mtold, rg_m_12, ty_m, ty_mtold, Option.toList_some, Option.toList_none, List.cons_append, List.nil_append, List.length_cons, List.length_nil, List.mem_cons, List.not_mem_nil, or_false, false_or, or_true, true_or, ↓reduceIte, true_and, and_true, Nat.reduceEqDiff, Nat.reduceAdd, Nat.reduceLeDiff, Nat.reduceLT, dl_i, dl_r, dl_n, dl_u, eq_self, not_true_eq_false, not_false_eq_true, n10, n01, nm0, n0m, imp_t, imp_f]
  exact ⟨bi_01, h⟩
theorem c_areVillages {v : Int32} (h : kr (some (.int (bi (nI 0 ≤ v ∧ v ≤ nI 1 <<< (I 500004 0 &&& 31) - nI 1)))) I E) : Ex Γ l shN (d + 2) (0, 0) mM_areVillages [.ref 500000, .int v] I E kr kx := by
  refine ex_of (ls0 := [some (.ref 500000), some (.int v)]) tM_areVillages (by decide +kernel) kM_areVillages rfl (Nat.le_of_ble_eq_true rfl) rfl ?_
  intro go hgo
  refine hgo 20 [] 0 _ _ _ _ _ ?_
  simp only [ixr_of, run_s, run_0, rM_areVillages, rok_i, rok_z, bx_cons, bx_nil, eC0, eC1, eCS3, eGR, eIALD, eLA0, eLI1, eRI, eSHL, eSUB, fM_areVillages_0, bM_areVillages_0, ln_mtold, rg_m_12, ty_m, ty_mtold, Option.toList_some, Option.toList_none, List.cons_append, List.nil_append, List.length_cons, List.length_nil, List.mem_cons, List.not_mem_nil, or_false, false_or, or_true, true_or, ↓reduceIte, true_and, and_true, Nat.reduceEqDiff, Nat.reduceAdd, Nat.reduceLeDiff, Nat.reduceLT, dl_i, dl_r, dl_n, dl_u, eq_self, not_true_eq_false, not_false_eq_true, n10, n01, nm0, n0m, imp_t, imp_f]
  refine call0 (c_in ?_)
  simp only [ixr_of, run_s, run_0, rM_areVillages, rok_i, rok_z, bx_cons, bx_nil, eC0, eC1, eCS3, eGR, eIALD, eLA0, eLI1, eRI, eSHL, eSUB, fM_areVillages_0, bM_areVillages_0, ln_mtold, rg_m_12, ty_m, ty_mtold, Option.toList_some, Option.toList_none, List.cons_append, List.nil_append, List.length_cons, List.length_nil, List.mem_cons, List.not_mem_nil, or_false, false_or, or_true, true_or, ↓reduceIte, true_and, and_true, Nat.reduceEqDiff, Nat.reduceAdd, Nat.reduceLeDiff, Nat.reduceLT, dl_i, dl_r, dl_n, dl_u, eq_self, not_true_eq_false, not_false_eq_true, n10, n01, nm0, n0m, imp_t, imp_f]
  exact ⟨bi_01, h⟩
theorem c_days {x : Int32} {nV nC : Nat} (hV : VS I nV nC) (h1 : ¬ (nI 1 ≤ x ∧ x ≤ nI 99) → kr (some (.int (nI 0))) (ref1 (up I 500000 0 (nI 0)) (nI 1) 1) E)
    (h2 : ∀ n, 1 ≤ n → n ≤ 99 → x = nI n → ∀ J, Fr 500124 (up (up (asN I) 500000 0 (nI 0)) 500000 39 (I 500000 39 + nI (dyR (asN I) nV nC n (I 500124, I 500000 48)).2)) J → (J 500124, J 500000 48) = (dyR (asN I) nV nC n (I 500124, I 500000 48)).1 → kr (some (.int ((dyR (asN I) nV nC n (I 500124, I 500000 48)).1.1 501))) J E) : Ex Γ l shN (d + 8) (0, 0) mM_days [.ref 500000, .int x] I E kr kx := by
  refine ex_of (ls0 := [some (.ref 500000), some (.int x), none]) tM_days (by decide +kernel) kM_days rfl (Nat.le_of_ble_eq_true rfl) rfl ?_
  intro go hgo
  refine hgo 20 [37] 0 _ _ _ _ _ ?_
  simp only [ixr_of, run_s, run_0, rM_days, rok_i, rok_z, bx_cons, bx_nil, eADD, eBP, eC0, eC1, eCS3, eCV0, eCV1, eCV3, eDUPr, eGI, eGO, eGR, eIALD, jICge, jIFeq, jIFne, eINC2, eLA0, eLI1, eLI2, ePI, eRI, eSI2, eSP, fM_days_0, fM_days_16, fM_days_20, fM_days_21, fM_days_29, fM_days_31, fM_days_37, fM_days_42, fM_days_56, fM_days_80, bM_days_0, bM_days_16, bM_days_20, bM_days_21, bM_days_29, bM_days_31, bM_days_37, bM_days_42, bM_days_56, bM_days_80, ln_mnow, rg_m_32, ty_m, ty_mnow, Option.toList_some, Option.toList_none, List.cons_append, List.nil_append, List.length_cons, List.length_nil, List.mem_cons, List.not_mem_nil, or_false, false_or, or_true, true_or, ↓reduceIte, true_and, and_true, Nat.reduceEqDiff, Nat.reduceAdd, Nat.reduceLeDiff, Nat.reduceLT, dl_i, dl_r, dl_n, dl_u, eq_self, not_true_eq_false, not_false_eq_true, n10, n01, nm0, n0m, imp_t, imp_f]
  refine call0 (c_in ?_)
  simp only [ixr_of, run_s, run_0, rM_days, rok_i, rok_z, bx_cons, bx_nil, eADD, eBP, eC0, eC1, eCS3, eCV0, eCV1, eCV3, eDUPr, eGI, eGO, eGR, eIALD, jICge, jIFeq, jIFne, eINC2, eLA0, eLI1, eLI2, ePI, eRI, eSI2, eSP, fM_days_0, fM_days_16, fM_days_20, fM_days_21, fM_days_29, fM_days_31, fM_days_37, fM_days_42, fM_days_56, fM_days_80, bM_days_0, bM_days_16, bM_days_20, bM_days_21, bM_days_29, bM_days_31, bM_days_37, bM_days_42, bM_days_56, bM_days_80, ln_mnow, rg_m_32, ty_m, ty_mnow, Option.toList_some, Option.toList_none, List.cons_append, List.nil_append, List.length_cons, List.length_nil, List.mem_cons, List.not_mem_nil, or_false, false_or, or_true, true_or, ↓reduceIte, true_and, and_true, Nat.reduceEqDiff, Nat.reduceAdd, Nat.reduceLeDiff, Nat.reduceLT, dl_i, dl_r, dl_n, dl_u, eq_self, not_true_eq_false, not_false_eq_true, n10, n01, nm0, n0m, imp_t, imp_f]
  by_cases hin : nI 1 ≤ x ∧ x ≤ nI 99
  rotate_left
  · rw [bi_f hin]
    refine ⟨fun q => absurd rfl q, fun _ => ?_⟩
    refine call0 (c_bad0 (by decide) (by decide) up_s (fun q => absurd q n10) (fun _ => ?_))
    simp only [ixr_of, run_s, run_0, rM_days, rok_i, rok_z, bx_cons, bx_nil, eADD, eBP, eC0, eC1, eCS3, eCV0, eCV1, eCV3, eDUPr, eGI, eGO, eGR, eIALD, jICge, jIFeq, jIFne, eINC2, eLA0, eLI1, eLI2, ePI, eRI, eSI2, eSP, fM_days_0, fM_days_16, fM_days_20, fM_days_21, fM_days_29, fM_days_31, fM_days_37, fM_days_42, fM_days_56, fM_days_80, bM_days_0, bM_days_16, bM_days_20, bM_days_21, bM_days_29, bM_days_31, bM_days_37, bM_days_42, bM_days_56, bM_days_80, ln_mnow, rg_m_32, ty_m, ty_mnow, Option.toList_some, Option.toList_none, List.cons_append, List.nil_append, List.length_cons, List.length_nil, List.mem_cons, List.not_mem_nil, or_false, false_or, or_true, true_or, ↓reduceIte, true_and, and_true, Nat.reduceEqDiff, Nat.reduceAdd, Nat.reduceLeDiff, Nat.reduceLT, dl_i, dl_r, dl_n, dl_u, eq_self, not_true_eq_false, not_false_eq_true, n10, n01, nm0, n0m, imp_t, imp_f]
    exact h1 hin
  rw [bi_t hin]
  refine ⟨fun _ => ?_, fun q => absurd q n10⟩
  refine call0 (c_bad0 (by decide) (by decide) up_s (fun _ => ?_) (fun q => absurd rfl q))
  simp only [ixr_of, run_s, run_0, rM_days, rok_i, rok_z, bx_cons, bx_nil, eADD, eBP, eC0, eC1, eCS3, eCV0, eCV1, eCV3, eDUPr, eGI, eGO, eGR, eIALD, jICge, jIFeq, jIFne, eINC2, eLA0, eLI1, eLI2, ePI, eRI, eSI2, eSP, fM_days_0, fM_days_16, fM_days_20, fM_days_21, fM_days_29, fM_days_31, fM_days_37, fM_days_42, fM_days_56, fM_days_80, bM_days_0, bM_days_16, bM_days_20, bM_days_21, bM_days_29, bM_days_31, bM_days_37, bM_days_42, bM_days_56, bM_days_80, ln_mnow, rg_m_32, ty_m, ty_mnow, Option.toList_some, Option.toList_none, List.cons_append, List.nil_append, List.length_cons, List.length_nil, List.mem_cons, List.not_mem_nil, or_false, false_or, or_true, true_or, ↓reduceIte, true_and, and_true, Nat.reduceEqDiff, Nat.reduceAdd, Nat.reduceLeDiff, Nat.reduceLT, dl_i, dl_r, dl_n, dl_u, eq_self, not_true_eq_false, not_false_eq_true, n10, n01, nm0, n0m, imp_t, imp_f]
  obtain ⟨n, hn1, hn, rfl⟩ := rng1 (by decide) hin
  refine call0 (c_asN ?_)
  simp only [ixr_of, run_s, run_0, rM_days, rok_i, rok_z, bx_cons, bx_nil, eADD, eBP, eC0, eC1, eCS3, eCV0, eCV1, eCV3, eDUPr, eGI, eGO, eGR, eIALD, jICge, jIFeq, jIFne, eINC2, eLA0, eLI1, eLI2, ePI, eRI, eSI2, eSP, fM_days_0, fM_days_16, fM_days_20, fM_days_21, fM_days_29, fM_days_31, fM_days_37, fM_days_42, fM_days_56, fM_days_80, bM_days_0, bM_days_16, bM_days_20, bM_days_21, bM_days_29, bM_days_31, bM_days_37, bM_days_42, bM_days_56, bM_days_80, ln_mnow, rg_m_32, ty_m, ty_mnow, Option.toList_some, Option.toList_none, List.cons_append, List.nil_append, List.length_cons, List.length_nil, List.mem_cons, List.not_mem_nil, or_false, false_or, or_true, true_or, ↓reduceIte, true_and, and_true, Nat.reduceEqDiff, Nat.reduceAdd, Nat.reduceLeDiff, Nat.reduceLT, dl_i, dl_r, dl_n, dl_u, eq_self, not_true_eq_false, not_false_eq_true, n10, n01, nm0, n0m, imp_t, imp_f]
  rw [asN_up0]
  obtain ⟨A, hA⟩ : ∃ A, A = up (asN I) 500000 0 (nI 0) := ⟨_, rfl⟩
  have hVA : VS A nV nC := by rw [hA]; exact hV.as.up0 (Or.inl rfl)
  have hSay : ∀ (s : Int32), Say (asN I) (up A 500000 39 s) := fun s => by rw [hA]; exact (say_up0 (Or.inl rfl)).tr (say_up0 (Or.inr rfl))
  rw [← hA] at h2 ⊢
  have loop : ∀ (g k c : Nat) (q : (Nat → Int32) × Int32) (J : Iv), g + k = n → Fr 500124 (up A 500000 39 (I 500000 39 + nI c)) J → (J 500124, J 500000 48) = q → ((dyR (asN I) nV nC g q).1, (dyR (asN I) nV nC g q).2 + c) = dyR (asN I) nV nC n (I 500124, I 500000 48) → go 37 [some (.ref 500000), some (.int (nI n)), some (.int (nI k))] [] J E (0, 0) := by
    intro g
    induction g with
    | zero =>
      intro k c q J hk hf hq hd
      have : k = n := by omega
      subst this
      have hd' : (q, c) = dyR (asN I) nV nC k (I 500124, I 500000 48) := by rw [← hd]; simp [dyR]
      have h3 := h2 k hn1 hn rfl J
      rw [← hd', ← hq] at h3
      refine hgo 20 [37] 37 _ _ _ _ _ ?_
      simp only [ixr_of, run_s, run_0, rM_days, rok_i, rok_z, bx_cons, bx_nil, eADD, eBP, eC0, eC1, eCS3, eCV0, eCV1, eCV3, eDUPr, eGI, eGO, eGR, eIALD, jICge, jIFeq, jIFne, eINC2, eLA0, eLI1, eLI2, ePI, eRI, eSI2, eSP, fM_days_0, fM_days_16, fM_days_20, fM_days_21, fM_days_29, fM_days_31, fM_days_37, fM_days_42, fM_days_56, fM_days_80, bM_days_0, bM_days_16, bM_days_20, bM_days_21, bM_days_29, bM_days_31, bM_days_37, bM_days_42, bM_days_56, bM_days_80, ln_mnow, rg_m_32, ty_m, ty_mnow, Option.toList_some, Option.toList_none, List.cons_append, List.nil_append, List.length_cons, List.length_nil, List.mem_cons, List.not_mem_nil, or_false, false_or, or_true, true_or, ↓reduceIte, true_and, and_true, Nat.reduceEqDiff, Nat.reduceAdd, Nat.reduceLeDiff, Nat.reduceLT, dl_i, dl_r, dl_n, dl_u, eq_self, not_true_eq_false, not_false_eq_true, n10, n01, nm0, n0m, imp_t, imp_f]
      exact ⟨fun _ => h3 hf rfl, fun q => absurd (Int32.le_refl _) q⟩
    | succ g ih =>
      intro k c q J hk hf hq hd
      refine hgo 20 [37] 37 _ _ _ _ _ ?_
      simp only [ixr_of, run_s, run_0, rM_days, rok_i, rok_z, bx_cons, bx_nil, eADD, eBP, eC0, eC1, eCS3, eCV0, eCV1, eCV3, eDUPr, eGI, eGO, eGR, eIALD, jICge, jIFeq, jIFne, eINC2, eLA0, eLI1, eLI2, ePI, eRI, eSI2, eSP, fM_days_0, fM_days_16, fM_days_20, fM_days_21, fM_days_29, fM_days_31, fM_days_37, fM_days_42, fM_days_56, fM_days_80, bM_days_0, bM_days_16, bM_days_20, bM_days_21, bM_days_29, bM_days_31, bM_days_37, bM_days_42, bM_days_56, bM_days_80, ln_mnow, rg_m_32, ty_m, ty_mnow, Option.toList_some, Option.toList_none, List.cons_append, List.nil_append, List.length_cons, List.length_nil, List.mem_cons, List.not_mem_nil, or_false, false_or, or_true, true_or, ↓reduceIte, true_and, and_true, Nat.reduceEqDiff, Nat.reduceAdd, Nat.reduceLeDiff, Nat.reduceLT, dl_i, dl_r, dl_n, dl_u, eq_self, not_true_eq_false, not_false_eq_true, n10, n01, nm0, n0m, imp_t, imp_f]
      rw [nI_leI (by omega) (by omega)]
      refine ⟨fun q => absurd q (by omega), fun _ => ⟨fun qd => ?_, fun qd => ?_⟩⟩
      · have hq1 : ¬ q.1 501 < nI 999 := by rw [← hq]; exact i32_nlt.mpr qd
        rw [show dyR (asN I) nV nC (g + 1) q = (q, 0) from if_neg hq1] at hd
        have hd' : (q, c) = dyR (asN I) nV nC n (I 500124, I 500000 48) := by rw [← hd]; simp
        have h3 := h2 n hn1 hn rfl J
        rw [← hd', ← hq] at h3
        exact h3 hf rfl
      · have hq1 : q.1 501 < nI 999 := by rw [← hq]; exact i32_nle.mp qd
        rw [show dyR (asN I) nV nC (g + 1) q = ((dyR (asN I) nV nC g (st1 (asN I) nV nC q)).1, (dyR (asN I) nV nC g (st1 (asN I) nV nC q)).2 + 1) from if_pos hq1] at hd
        refine call0 (c_steps' (Or.inl rfl) ((hVA.up0 (Or.inr rfl)).mv (Or.inl rfl) hf) ?_)
        intro K hK hrK
        simp only [ixr_of, run_s, run_0, rM_days, rok_i, rok_z, bx_cons, bx_nil, eADD, eBP, eC0, eC1, eCS3, eCV0, eCV1, eCV3, eDUPr, eGI, eGO, eGR, eIALD, jICge, jIFeq, jIFne, eINC2, eLA0, eLI1, eLI2, ePI, eRI, eSI2, eSP, fM_days_0, fM_days_16, fM_days_20, fM_days_21, fM_days_29, fM_days_31, fM_days_37, fM_days_42, fM_days_56, fM_days_80, bM_days_0, bM_days_16, bM_days_20, bM_days_21, bM_days_29, bM_days_31, bM_days_37, bM_days_42, bM_days_56, bM_days_80, ln_mnow, rg_m_32, ty_m, ty_mnow, Option.toList_some, Option.toList_none, List.cons_append, List.nil_append, List.length_cons, List.length_nil, List.mem_cons, List.not_mem_nil, or_false, false_or, or_true, true_or, ↓reduceIte, true_and, and_true, Nat.reduceEqDiff, Nat.reduceAdd, Nat.reduceLeDiff, Nat.reduceLT, dl_i, dl_r, dl_n, dl_u, eq_self, not_true_eq_false, not_false_eq_true, n10, n01, nm0, n0m, nI_add, imp_t, imp_f]
        have hs : K 500000 39 = I 500000 39 + nI c := by rw [hK.2 _ (by decide), hf.2 _ (by decide), up_s]
        rw [hs, Int32.add_assoc, nI_add]
        refine ih (k + 1) (c + 1) (st1 (asN I) nV nC q) _ (by omega) ((hf.tr hK).fld (by decide) (by decide)) ?_ ?_
        · rw [show up K 500000 39 (I 500000 39 + nI (c + 1)) 500124 = K 500124 by funext z; exact up_n (by omega), up_n (by decide), hrK, st1_say (Say.tr (hSay _) (hf.say (Or.inl rfl))) hV.2.1 hV.2.2.2.1, hq]
        · rw [← hd]
          simp only [Prod.mk.injEq, true_and]
          omega
  have hA39 : A 500000 39 = I 500000 39 := by rw [hA, up_n (by decide), asN_n (Or.inr (by decide))]
  have hA124 : A 500124 = I 500124 := by rw [hA]; funext q; rw [up_n (by omega), asN_r (by omega)]
  have hA48 : A 500000 48 = I 500000 48 := by rw [hA, up_n (by decide), asN_n (Or.inr (by decide))]
  refine loop n 0 0 (I 500124, I 500000 48) A (by omega) ?_ (by rw [hA124, hA48]) rfl
  have e : up A 500000 39 (I 500000 39 + nI 0) = A := up_self (by rw [hA39, nI_0]; exact (Int32.add_zero _).symm)
  rw [e]
  exact Fr.rf
theorem c_undo {x : Int32} {nV nC si : Nat} (hV : VS I nV nC) (hsi : I 500000 39 = nI si) (hs9 : si < 1000) (h1 : ¬ (nI 1 ≤ x ∧ x ≤ nI 99) → kr (some (.int (nI 0))) (ref1 (up I 500000 0 (nI 0)) (nI 1) 1) E)
    (h2 : (nI 1 ≤ x ∧ x ≤ nI 99) → si = 0 → kr (some (.int (nI 0))) (up I 500000 0 (nI 0)) E)
    (h3 : ∀ n, 1 ≤ n → n ≤ 99 → x = nI n → ¬ si = 0 → ∀ J, Fr 500124 (up (up (asN I) 500000 0 (nI 0)) 500000 39 (nI (si - min n si))) J → (J 500124, J 500000 48) = itR (asN I) nV nC (I 500125, I 500000 48) (si - min n si) → kr (some (.int (nI (min n si)))) J E) : Ex Γ l shN (d + 8) (0, 0) mM_undo [.ref 500000, .int x] I E kr kx := by
  refine ex_of (ls0 := [some (.ref 500000), some (.int x), none, none]) tM_undo (by decide +kernel) kM_undo rfl (Nat.le_of_ble_eq_true rfl) rfl ?_
  intro go hgo
  refine hgo 20 [73] 0 _ _ _ _ _ ?_
  simp only [ixr_of, run_s, run_0, rM_undo, rok_i, rok_z, bx_cons, bx_nil, eBP, eC0, eC1, eCS2, eCS3, eCV0, eCV1, eCV3, eDUPr, eGI, eGO, eGR, jICge, jIFeq, jIFne, eINC3, eLA0, eLI1, eLI2, eLI3, ePI, eRI, eSI2, eSI3, eSUB, fM_undo_0, fM_undo_16, fM_undo_20, fM_undo_21, fM_undo_29, fM_undo_31, fM_undo_44, fM_undo_46, fM_undo_73, fM_undo_81, fM_undo_95, bM_undo_0, bM_undo_16, bM_undo_20, bM_undo_21, bM_undo_29, bM_undo_31, bM_undo_44, bM_undo_46, bM_undo_73, bM_undo_81, bM_undo_95, ln_mbase, ln_mnow, rg_m_32, rg_m_33, ty_m, ty_mbase, ty_mnow, Option.toList_some, Option.toList_none, List.cons_append, List.nil_append, List.length_cons, List.length_nil, List.mem_cons, List.not_mem_nil, or_false, false_or, or_true, true_or, ↓reduceIte, true_and, and_true, Nat.reduceEqDiff, Nat.reduceAdd, Nat.reduceLeDiff, Nat.reduceLT, dl_i, dl_r, dl_n, dl_u, eq_self, not_true_eq_false, not_false_eq_true, n10, n01, nm0, n0m, imp_t, imp_f]
  refine call0 (c_in ?_)
  simp only [ixr_of, run_s, run_0, rM_undo, rok_i, rok_z, bx_cons, bx_nil, eBP, eC0, eC1, eCS2, eCS3, eCV0, eCV1, eCV3, eDUPr, eGI, eGO, eGR, jICge, jIFeq, jIFne, eINC3, eLA0, eLI1, eLI2, eLI3, ePI, eRI, eSI2, eSI3, eSUB, fM_undo_0, fM_undo_16, fM_undo_20, fM_undo_21, fM_undo_29, fM_undo_31, fM_undo_44, fM_undo_46, fM_undo_73, fM_undo_81, fM_undo_95, bM_undo_0, bM_undo_16, bM_undo_20, bM_undo_21, bM_undo_29, bM_undo_31, bM_undo_44, bM_undo_46, bM_undo_73, bM_undo_81, bM_undo_95, ln_mbase, ln_mnow, rg_m_32, rg_m_33, ty_m, ty_mbase, ty_mnow, Option.toList_some, Option.toList_none, List.cons_append, List.nil_append, List.length_cons, List.length_nil, List.mem_cons, List.not_mem_nil, or_false, false_or, or_true, true_or, ↓reduceIte, true_and, and_true, Nat.reduceEqDiff, Nat.reduceAdd, Nat.reduceLeDiff, Nat.reduceLT, dl_i, dl_r, dl_n, dl_u, eq_self, not_true_eq_false, not_false_eq_true, n10, n01, nm0, n0m, imp_t, imp_f]
  by_cases hin : nI 1 ≤ x ∧ x ≤ nI 99
  rotate_left
  · rw [bi_f hin]
    refine ⟨fun q => absurd rfl q, fun _ => ?_⟩
    refine call0 (c_bad0 (by decide) (by decide) up_s (fun q => absurd q n10) (fun _ => ?_))
    simp only [ixr_of, run_s, run_0, rM_undo, rok_i, rok_z, bx_cons, bx_nil, eBP, eC0, eC1, eCS2, eCS3, eCV0, eCV1, eCV3, eDUPr, eGI, eGO, eGR, jICge, jIFeq, jIFne, eINC3, eLA0, eLI1, eLI2, eLI3, ePI, eRI, eSI2, eSI3, eSUB, fM_undo_0, fM_undo_16, fM_undo_20, fM_undo_21, fM_undo_29, fM_undo_31, fM_undo_44, fM_undo_46, fM_undo_73, fM_undo_81, fM_undo_95, bM_undo_0, bM_undo_16, bM_undo_20, bM_undo_21, bM_undo_29, bM_undo_31, bM_undo_44, bM_undo_46, bM_undo_73, bM_undo_81, bM_undo_95, ln_mbase, ln_mnow, rg_m_32, rg_m_33, ty_m, ty_mbase, ty_mnow, Option.toList_some, Option.toList_none, List.cons_append, List.nil_append, List.length_cons, List.length_nil, List.mem_cons, List.not_mem_nil, or_false, false_or, or_true, true_or, ↓reduceIte, true_and, and_true, Nat.reduceEqDiff, Nat.reduceAdd, Nat.reduceLeDiff, Nat.reduceLT, dl_i, dl_r, dl_n, dl_u, eq_self, not_true_eq_false, not_false_eq_true, n10, n01, nm0, n0m, imp_t, imp_f]
    exact h1 hin
  rw [bi_t hin]
  refine ⟨fun _ => ?_, fun q => absurd q n10⟩
  refine call0 (c_bad0 (by decide) (by decide) up_s (fun _ => ?_) (fun q => absurd rfl q))
  simp only [ixr_of, run_s, run_0, rM_undo, rok_i, rok_z, bx_cons, bx_nil, eBP, eC0, eC1, eCS2, eCS3, eCV0, eCV1, eCV3, eDUPr, eGI, eGO, eGR, jICge, jIFeq, jIFne, eINC3, eLA0, eLI1, eLI2, eLI3, ePI, eRI, eSI2, eSI3, eSUB, fM_undo_0, fM_undo_16, fM_undo_20, fM_undo_21, fM_undo_29, fM_undo_31, fM_undo_44, fM_undo_46, fM_undo_73, fM_undo_81, fM_undo_95, bM_undo_0, bM_undo_16, bM_undo_20, bM_undo_21, bM_undo_29, bM_undo_31, bM_undo_44, bM_undo_46, bM_undo_73, bM_undo_81, bM_undo_95, ln_mbase, ln_mnow, rg_m_32, rg_m_33, ty_m, ty_mbase, ty_mnow, Option.toList_some, Option.toList_none, List.cons_append, List.nil_append, List.length_cons, List.length_nil, List.mem_cons, List.not_mem_nil, or_false, false_or, or_true, true_or, ↓reduceIte, true_and, and_true, Nat.reduceEqDiff, Nat.reduceAdd, Nat.reduceLeDiff, Nat.reduceLT, dl_i, dl_r, dl_n, dl_u, eq_self, not_true_eq_false, not_false_eq_true, n10, n01, nm0, n0m, imp_t, imp_f]
  obtain ⟨n, hn1, hn, rfl⟩ := rng1 (by decide) hin
  rw [up_n (by decide), hsi]
  refine call0 (c_less ?_)
  have hmin : (if nI n < nI si then nI n else nI si) = nI (min n si) := by
    by_cases q : n < si
    · rw [if_pos ((nI_ltI (by omega) (by omega)).mpr q), Nat.min_eq_left (by omega)]
    · rw [if_neg (fun c => q ((nI_ltI (by omega) (by omega)).mp c)), Nat.min_eq_right (by omega)]
  rw [hmin]
  simp only [ixr_of, run_s, run_0, rM_undo, rok_i, rok_z, bx_cons, bx_nil, eBP, eC0, eC1, eCS2, eCS3, eCV0, eCV1, eCV3, eDUPr, eGI, eGO, eGR, jICge, jIFeq, jIFne, eINC3, eLA0, eLI1, eLI2, eLI3, ePI, eRI, eSI2, eSI3, eSUB, fM_undo_0, fM_undo_16, fM_undo_20, fM_undo_21, fM_undo_29, fM_undo_31, fM_undo_44, fM_undo_46, fM_undo_73, fM_undo_81, fM_undo_95, bM_undo_0, bM_undo_16, bM_undo_20, bM_undo_21, bM_undo_29, bM_undo_31, bM_undo_44, bM_undo_46, bM_undo_73, bM_undo_81, bM_undo_95, ln_mbase, ln_mnow, rg_m_32, rg_m_33, ty_m, ty_mbase, ty_mnow, Option.toList_some, Option.toList_none, List.cons_append, List.nil_append, List.length_cons, List.length_nil, List.mem_cons, List.not_mem_nil, or_false, false_or, or_true, true_or, ↓reduceIte, true_and, and_true, Nat.reduceEqDiff, Nat.reduceAdd, Nat.reduceLeDiff, Nat.reduceLT, dl_i, dl_r, dl_n, dl_u, eq_self, not_true_eq_false, not_false_eq_true, n10, n01, nm0, n0m, imp_t, imp_f]
  rw [nI_eq (by omega) (by omega), up_n (by decide), hsi, pk_sub (by omega)]
  refine ⟨fun q => ?_, fun q => h2 hin (by omega)⟩
  have hm : ¬ si = 0 := by omega
  obtain ⟨m, hm'⟩ : ∃ m, m = si - min n si := ⟨_, rfl⟩
  have h3 := h3 n hn1 hn rfl hm
  rw [← hm'] at h3 ⊢
  refine call0 (c_copies' ty_mbase (by rw [ln_mbase]; decide) ty_mnow ln_mnow (by decide) ?_)
  simp only [ixr_of, run_s, run_0, rM_undo, rok_i, rok_z, bx_cons, bx_nil, eBP, eC0, eC1, eCS2, eCS3, eCV0, eCV1, eCV3, eDUPr, eGI, eGO, eGR, jICge, jIFeq, jIFne, eINC3, eLA0, eLI1, eLI2, eLI3, ePI, eRI, eSI2, eSI3, eSUB, fM_undo_0, fM_undo_16, fM_undo_20, fM_undo_21, fM_undo_29, fM_undo_31, fM_undo_44, fM_undo_46, fM_undo_73, fM_undo_81, fM_undo_95, bM_undo_0, bM_undo_16, bM_undo_20, bM_undo_21, bM_undo_29, bM_undo_31, bM_undo_44, bM_undo_46, bM_undo_73, bM_undo_81, bM_undo_95, ln_mbase, ln_mnow, rg_m_32, rg_m_33, ty_m, ty_mbase, ty_mnow, Option.toList_some, Option.toList_none, List.cons_append, List.nil_append, List.length_cons, List.length_nil, List.mem_cons, List.not_mem_nil, or_false, false_or, or_true, true_or, ↓reduceIte, true_and, and_true, Nat.reduceEqDiff, Nat.reduceAdd, Nat.reduceLeDiff, Nat.reduceLT, dl_i, dl_r, dl_n, dl_u, eq_self, not_true_eq_false, not_false_eq_true, n10, n01, nm0, n0m, imp_t, imp_f]
  refine call0 (c_asN ?_)
  simp only [ixr_of, run_s, run_0, rM_undo, rok_i, rok_z, bx_cons, bx_nil, eBP, eC0, eC1, eCS2, eCS3, eCV0, eCV1, eCV3, eDUPr, eGI, eGO, eGR, jICge, jIFeq, jIFne, eINC3, eLA0, eLI1, eLI2, eLI3, ePI, eRI, eSI2, eSI3, eSUB, fM_undo_0, fM_undo_16, fM_undo_20, fM_undo_21, fM_undo_29, fM_undo_31, fM_undo_44, fM_undo_46, fM_undo_73, fM_undo_81, fM_undo_95, bM_undo_0, bM_undo_16, bM_undo_20, bM_undo_21, bM_undo_29, bM_undo_31, bM_undo_44, bM_undo_46, bM_undo_73, bM_undo_81, bM_undo_95, ln_mbase, ln_mnow, rg_m_32, rg_m_33, ty_m, ty_mbase, ty_mnow, Option.toList_some, Option.toList_none, List.cons_append, List.nil_append, List.length_cons, List.length_nil, List.mem_cons, List.not_mem_nil, or_false, false_or, or_true, true_or, ↓reduceIte, true_and, and_true, Nat.reduceEqDiff, Nat.reduceAdd, Nat.reduceLeDiff, Nat.reduceLT, dl_i, dl_r, dl_n, dl_u, eq_self, not_true_eq_false, not_false_eq_true, n10, n01, nm0, n0m, imp_t, imp_f]
  rw [asN_sr (by decide), asN_up (by decide), asN_up0]
  obtain ⟨A, hA⟩ : ∃ A, A = up (up (asN I) 500000 0 (nI 0)) 500000 39 (nI m) := ⟨_, rfl⟩
  have hb : up (up I 500000 0 (nI 0)) 500000 39 (nI m) 500125 = I 500125 := by funext q; rw [up_n (by omega), up_n (by omega)]
  have hVA : VS A nV nC := by rw [hA]; exact (hV.as.up0 (Or.inl rfl)).up0 (Or.inr rfl)
  have hSay : Say (asN I) A := by rw [hA]; exact (say_up0 (Or.inl rfl)).tr (say_up0 (Or.inr rfl))
  have hAl : A 500000 48 = I 500000 48 := by rw [hA, up_n (by decide), up_n (by decide), asN_n (Or.inr (by decide))]
  rw [hb, ← hA]
  rw [← hA] at h3
  have loop : ∀ (g k : Nat) (J : Iv), g + k = m → Fr 500124 A J → (J 500124, J 500000 48) = itR (asN I) nV nC (I 500125, I 500000 48) k → go 73 [some (.ref 500000), some (.int (nI n)), some (.int (nI (min n si))), some (.int (nI k))] [] J E (0, 0) := by
    intro g
    induction g with
    | zero =>
      intro k J hk hf hr
      have : k = m := by omega
      subst this
      refine hgo 20 [73] 73 _ _ _ _ _ ?_
      simp only [ixr_of, run_s, run_0, rM_undo, rok_i, rok_z, bx_cons, bx_nil, eBP, eC0, eC1, eCS2, eCS3, eCV0, eCV1, eCV3, eDUPr, eGI, eGO, eGR, jICge, jIFeq, jIFne, eINC3, eLA0, eLI1, eLI2, eLI3, ePI, eRI, eSI2, eSI3, eSUB, fM_undo_0, fM_undo_16, fM_undo_20, fM_undo_21, fM_undo_29, fM_undo_31, fM_undo_44, fM_undo_46, fM_undo_73, fM_undo_81, fM_undo_95, bM_undo_0, bM_undo_16, bM_undo_20, bM_undo_21, bM_undo_29, bM_undo_31, bM_undo_44, bM_undo_46, bM_undo_73, bM_undo_81, bM_undo_95, ln_mbase, ln_mnow, rg_m_32, rg_m_33, ty_m, ty_mbase, ty_mnow, Option.toList_some, Option.toList_none, List.cons_append, List.nil_append, List.length_cons, List.length_nil, List.mem_cons, List.not_mem_nil, or_false, false_or, or_true, true_or, ↓reduceIte, true_and, and_true, Nat.reduceEqDiff, Nat.reduceAdd, Nat.reduceLeDiff, Nat.reduceLT, dl_i, dl_r, dl_n, dl_u, eq_self, not_true_eq_false, not_false_eq_true, n10, n01, nm0, n0m, imp_t, imp_f]
      rw [hf.2 _ (by decide), hA, up_s]
      rw [hA] at h3 hf
      exact ⟨fun _ => h3 J hf hr, fun q => absurd (Int32.le_refl _) q⟩
    | succ g ih =>
      intro k J hk hf hr
      refine hgo 20 [73] 73 _ _ _ _ _ ?_
      simp only [ixr_of, run_s, run_0, rM_undo, rok_i, rok_z, bx_cons, bx_nil, eBP, eC0, eC1, eCS2, eCS3, eCV0, eCV1, eCV3, eDUPr, eGI, eGO, eGR, jICge, jIFeq, jIFne, eINC3, eLA0, eLI1, eLI2, eLI3, ePI, eRI, eSI2, eSI3, eSUB, fM_undo_0, fM_undo_16, fM_undo_20, fM_undo_21, fM_undo_29, fM_undo_31, fM_undo_44, fM_undo_46, fM_undo_73, fM_undo_81, fM_undo_95, bM_undo_0, bM_undo_16, bM_undo_20, bM_undo_21, bM_undo_29, bM_undo_31, bM_undo_44, bM_undo_46, bM_undo_73, bM_undo_81, bM_undo_95, ln_mbase, ln_mnow, rg_m_32, rg_m_33, ty_m, ty_mbase, ty_mnow, Option.toList_some, Option.toList_none, List.cons_append, List.nil_append, List.length_cons, List.length_nil, List.mem_cons, List.not_mem_nil, or_false, false_or, or_true, true_or, ↓reduceIte, true_and, and_true, Nat.reduceEqDiff, Nat.reduceAdd, Nat.reduceLeDiff, Nat.reduceLT, dl_i, dl_r, dl_n, dl_u, eq_self, not_true_eq_false, not_false_eq_true, n10, n01, nm0, n0m, imp_t, imp_f]
      rw [hf.2 _ (by decide), show A 500000 39 = nI m by rw [hA, up_s], nI_leI (by omega) (by omega)]
      refine ⟨fun q => absurd q (by omega), fun _ => ?_⟩
      refine call0 (c_steps' (Or.inl rfl) (hVA.mv (Or.inl rfl) hf) ?_)
      intro K hK hrK
      simp only [ixr_of, run_s, run_0, rM_undo, rok_i, rok_z, bx_cons, bx_nil, eBP, eC0, eC1, eCS2, eCS3, eCV0, eCV1, eCV3, eDUPr, eGI, eGO, eGR, jICge, jIFeq, jIFne, eINC3, eLA0, eLI1, eLI2, eLI3, ePI, eRI, eSI2, eSI3, eSUB, fM_undo_0, fM_undo_16, fM_undo_20, fM_undo_21, fM_undo_29, fM_undo_31, fM_undo_44, fM_undo_46, fM_undo_73, fM_undo_81, fM_undo_95, bM_undo_0, bM_undo_16, bM_undo_20, bM_undo_21, bM_undo_29, bM_undo_31, bM_undo_44, bM_undo_46, bM_undo_73, bM_undo_81, bM_undo_95, ln_mbase, ln_mnow, rg_m_32, rg_m_33, ty_m, ty_mbase, ty_mnow, Option.toList_some, Option.toList_none, List.cons_append, List.nil_append, List.length_cons, List.length_nil, List.mem_cons, List.not_mem_nil, or_false, false_or, or_true, true_or, ↓reduceIte, true_and, and_true, Nat.reduceEqDiff, Nat.reduceAdd, Nat.reduceLeDiff, Nat.reduceLT, dl_i, dl_r, dl_n, dl_u, eq_self, not_true_eq_false, not_false_eq_true, n10, n01, nm0, n0m, nI_add, imp_t, imp_f]
      refine ih (k + 1) K (by omega) (hf.tr hK) ?_
      rw [hrK, hr, st1_say (hSay.tr (hf.say (Or.inl rfl))) hV.2.1 hV.2.2.2.1]
      rfl
  refine loop m 0 _ (by omega) ((Fr.rf (a := 500124)).srow (Or.inl rfl) (by decide)) ?_
  rw [sr_s, sr_n (by decide), hAl]
  rfl
theorem c_when {x : Int32} {nV nC : Nat} (hV : VS I nV nC) (h1 : ¬ (nI 0 ≤ x ∧ x ≤ nI 7) → kr (some (.int (nI 0))) (ref1 (up I 500000 0 (nI 0)) (nI 1) 1) E)
    (h2 : (nI 0 ≤ x ∧ x ≤ nI 7) → ∀ n, 1 ≤ n → n ≤ 99 → vwI (itR (asN I) nV nC (I 500124, I 500000 48) n).1 = x → (∀ m, 1 ≤ m → m < n → ¬ vwI (itR (asN I) nV nC (I 500124, I 500000 48) m).1 = x) → ∀ J, Fr 500126 (up (asN I) 500000 0 (nI 0)) J → kr (some (.int (nI n))) J E)
    (h3 : (nI 0 ≤ x ∧ x ≤ nI 7) → (∀ m, 1 ≤ m → m ≤ 99 → ¬ vwI (itR (asN I) nV nC (I 500124, I 500000 48) m).1 = x) → ∀ J, Fr 500126 (up (asN I) 500000 0 (nI 0)) J → kr (some (.int (-1))) J E) : Ex Γ l shN (d + 8) (0, 0) mM_when [.ref 500000, .int x] I E kr kx := by
  refine ex_of (ls0 := [some (.ref 500000), some (.int x), none]) tM_when (by decide +kernel) kM_when rfl (Nat.le_of_ble_eq_true rfl) rfl ?_
  intro go hgo
  refine hgo 20 [48] 0 _ _ _ _ _ ?_
  simp only [ixr_of, run_s, run_0, rM_when, rok_i, rok_z, bx_cons, bx_nil, eBP, eC0, eC1, eCS1, eCS2, eCS3, eCV0, eCV1, eCV3, eCm1, eGO, eGR, jICge, jICne, jIFeq, jIFne, eINC2, eLA0, eLI1, eLI2, ePI, eRI, eSI2, fM_when_0, fM_when_16, fM_when_20, fM_when_21, fM_when_29, fM_when_31, fM_when_48, fM_when_54, fM_when_73, fM_when_75, fM_when_81, bM_when_0, bM_when_16, bM_when_20, bM_when_21, bM_when_29, bM_when_31, bM_when_48, bM_when_54, bM_when_73, bM_when_75, bM_when_81, ln_mnow, ln_mtrial, rg_m_32, rg_m_34, ty_m, ty_mnow, ty_mtrial, Option.toList_some, Option.toList_none, List.cons_append, List.nil_append, List.length_cons, List.length_nil, List.mem_cons, List.not_mem_nil, or_false, false_or, or_true, true_or, ↓reduceIte, true_and, and_true, Nat.reduceEqDiff, Nat.reduceAdd, Nat.reduceLeDiff, Nat.reduceLT, dl_i, dl_r, dl_n, dl_u, eq_self, not_true_eq_false, not_false_eq_true, n10, n01, nm0, n0m, imp_t, imp_f]
  refine call0 (c_in ?_)
  simp only [ixr_of, run_s, run_0, rM_when, rok_i, rok_z, bx_cons, bx_nil, eBP, eC0, eC1, eCS1, eCS2, eCS3, eCV0, eCV1, eCV3, eCm1, eGO, eGR, jICge, jICne, jIFeq, jIFne, eINC2, eLA0, eLI1, eLI2, ePI, eRI, eSI2, fM_when_0, fM_when_16, fM_when_20, fM_when_21, fM_when_29, fM_when_31, fM_when_48, fM_when_54, fM_when_73, fM_when_75, fM_when_81, bM_when_0, bM_when_16, bM_when_20, bM_when_21, bM_when_29, bM_when_31, bM_when_48, bM_when_54, bM_when_73, bM_when_75, bM_when_81, ln_mnow, ln_mtrial, rg_m_32, rg_m_34, ty_m, ty_mnow, ty_mtrial, Option.toList_some, Option.toList_none, List.cons_append, List.nil_append, List.length_cons, List.length_nil, List.mem_cons, List.not_mem_nil, or_false, false_or, or_true, true_or, ↓reduceIte, true_and, and_true, Nat.reduceEqDiff, Nat.reduceAdd, Nat.reduceLeDiff, Nat.reduceLT, dl_i, dl_r, dl_n, dl_u, eq_self, not_true_eq_false, not_false_eq_true, n10, n01, nm0, n0m, imp_t, imp_f]
  by_cases hin : nI 0 ≤ x ∧ x ≤ nI 7
  rotate_left
  · rw [bi_f hin]
    refine ⟨fun q => absurd rfl q, fun _ => ?_⟩
    refine call0 (c_bad0 (by decide) (by decide) up_s (fun q => absurd q n10) (fun _ => ?_))
    simp only [ixr_of, run_s, run_0, rM_when, rok_i, rok_z, bx_cons, bx_nil, eBP, eC0, eC1, eCS1, eCS2, eCS3, eCV0, eCV1, eCV3, eCm1, eGO, eGR, jICge, jICne, jIFeq, jIFne, eINC2, eLA0, eLI1, eLI2, ePI, eRI, eSI2, fM_when_0, fM_when_16, fM_when_20, fM_when_21, fM_when_29, fM_when_31, fM_when_48, fM_when_54, fM_when_73, fM_when_75, fM_when_81, bM_when_0, bM_when_16, bM_when_20, bM_when_21, bM_when_29, bM_when_31, bM_when_48, bM_when_54, bM_when_73, bM_when_75, bM_when_81, ln_mnow, ln_mtrial, rg_m_32, rg_m_34, ty_m, ty_mnow, ty_mtrial, Option.toList_some, Option.toList_none, List.cons_append, List.nil_append, List.length_cons, List.length_nil, List.mem_cons, List.not_mem_nil, or_false, false_or, or_true, true_or, ↓reduceIte, true_and, and_true, Nat.reduceEqDiff, Nat.reduceAdd, Nat.reduceLeDiff, Nat.reduceLT, dl_i, dl_r, dl_n, dl_u, eq_self, not_true_eq_false, not_false_eq_true, n10, n01, nm0, n0m, imp_t, imp_f]
    exact h1 hin
  rw [bi_t hin]
  refine ⟨fun _ => ?_, fun q => absurd q n10⟩
  refine call0 (c_bad0 (by decide) (by decide) up_s (fun _ => ?_) (fun q => absurd rfl q))
  simp only [ixr_of, run_s, run_0, rM_when, rok_i, rok_z, bx_cons, bx_nil, eBP, eC0, eC1, eCS1, eCS2, eCS3, eCV0, eCV1, eCV3, eCm1, eGO, eGR, jICge, jICne, jIFeq, jIFne, eINC2, eLA0, eLI1, eLI2, ePI, eRI, eSI2, fM_when_0, fM_when_16, fM_when_20, fM_when_21, fM_when_29, fM_when_31, fM_when_48, fM_when_54, fM_when_73, fM_when_75, fM_when_81, bM_when_0, bM_when_16, bM_when_20, bM_when_21, bM_when_29, bM_when_31, bM_when_48, bM_when_54, bM_when_73, bM_when_75, bM_when_81, ln_mnow, ln_mtrial, rg_m_32, rg_m_34, ty_m, ty_mnow, ty_mtrial, Option.toList_some, Option.toList_none, List.cons_append, List.nil_append, List.length_cons, List.length_nil, List.mem_cons, List.not_mem_nil, or_false, false_or, or_true, true_or, ↓reduceIte, true_and, and_true, Nat.reduceEqDiff, Nat.reduceAdd, Nat.reduceLeDiff, Nat.reduceLT, dl_i, dl_r, dl_n, dl_u, eq_self, not_true_eq_false, not_false_eq_true, n10, n01, nm0, n0m, imp_t, imp_f]
  refine call0 (c_asN ?_)
  simp only [ixr_of, run_s, run_0, rM_when, rok_i, rok_z, bx_cons, bx_nil, eBP, eC0, eC1, eCS1, eCS2, eCS3, eCV0, eCV1, eCV3, eCm1, eGO, eGR, jICge, jICne, jIFeq, jIFne, eINC2, eLA0, eLI1, eLI2, ePI, eRI, eSI2, fM_when_0, fM_when_16, fM_when_20, fM_when_21, fM_when_29, fM_when_31, fM_when_48, fM_when_54, fM_when_73, fM_when_75, fM_when_81, bM_when_0, bM_when_16, bM_when_20, bM_when_21, bM_when_29, bM_when_31, bM_when_48, bM_when_54, bM_when_73, bM_when_75, bM_when_81, ln_mnow, ln_mtrial, rg_m_32, rg_m_34, ty_m, ty_mnow, ty_mtrial, Option.toList_some, Option.toList_none, List.cons_append, List.nil_append, List.length_cons, List.length_nil, List.mem_cons, List.not_mem_nil, or_false, false_or, or_true, true_or, ↓reduceIte, true_and, and_true, Nat.reduceEqDiff, Nat.reduceAdd, Nat.reduceLeDiff, Nat.reduceLT, dl_i, dl_r, dl_n, dl_u, eq_self, not_true_eq_false, not_false_eq_true, n10, n01, nm0, n0m, imp_t, imp_f]
  rw [asN_up0]
  obtain ⟨A, hA⟩ : ∃ A, A = up (asN I) 500000 0 (nI 0) := ⟨_, rfl⟩
  have hVA : VS A nV nC := by rw [hA]; exact hV.as.up0 (Or.inl rfl)
  have hSay : Say (asN I) A := by rw [hA]; exact say_up0 (Or.inl rfl)
  have hA124 : A 500124 = I 500124 := by rw [hA]; funext q; rw [up_n (by omega), asN_r (by omega)]
  have hAl : A 500000 48 = I 500000 48 := by rw [hA, up_n (by decide), asN_n (Or.inr (by decide))]
  rw [← hA] at h2 h3 ⊢
  refine call0 (c_copies' ty_mnow (by rw [ln_mnow]; decide) ty_mtrial ln_mtrial (by decide) ?_)
  simp only [ixr_of, run_s, run_0, rM_when, rok_i, rok_z, bx_cons, bx_nil, eBP, eC0, eC1, eCS1, eCS2, eCS3, eCV0, eCV1, eCV3, eCm1, eGO, eGR, jICge, jICne, jIFeq, jIFne, eINC2, eLA0, eLI1, eLI2, ePI, eRI, eSI2, fM_when_0, fM_when_16, fM_when_20, fM_when_21, fM_when_29, fM_when_31, fM_when_48, fM_when_54, fM_when_73, fM_when_75, fM_when_81, bM_when_0, bM_when_16, bM_when_20, bM_when_21, bM_when_29, bM_when_31, bM_when_48, bM_when_54, bM_when_73, bM_when_75, bM_when_81, ln_mnow, ln_mtrial, rg_m_32, rg_m_34, ty_m, ty_mnow, ty_mtrial, Option.toList_some, Option.toList_none, List.cons_append, List.nil_append, List.length_cons, List.length_nil, List.mem_cons, List.not_mem_nil, or_false, false_or, or_true, true_or, ↓reduceIte, true_and, and_true, Nat.reduceEqDiff, Nat.reduceAdd, Nat.reduceLeDiff, Nat.reduceLT, dl_i, dl_r, dl_n, dl_u, eq_self, not_true_eq_false, not_false_eq_true, n10, n01, nm0, n0m, imp_t, imp_f]
  have loop : ∀ (g k : Nat) (J : Iv), g + k = 99 → Fr 500126 A J → (J 500126, J 500000 48) = itR (asN I) nV nC (I 500124, I 500000 48) k → (∀ m, 1 ≤ m → m ≤ k → ¬ vwI (itR (asN I) nV nC (I 500124, I 500000 48) m).1 = x) → go 48 [some (.ref 500000), some (.int x), some (.int (nI (k + 1)))] [] J E (0, 0) := by
    intro g
    induction g with
    | zero =>
      intro k J hk hf hr hno
      have : k = 99 := by omega
      subst this
      refine hgo 20 [48] 48 _ _ _ _ _ ?_
      simp only [ixr_of, run_s, run_0, rM_when, rok_i, rok_z, bx_cons, bx_nil, eBP, eC0, eC1, eCS1, eCS2, eCS3, eCV0, eCV1, eCV3, eCm1, eGO, eGR, jICge, jICne, jIFeq, jIFne, eINC2, eLA0, eLI1, eLI2, ePI, eRI, eSI2, fM_when_0, fM_when_16, fM_when_20, fM_when_21, fM_when_29, fM_when_31, fM_when_48, fM_when_54, fM_when_73, fM_when_75, fM_when_81, bM_when_0, bM_when_16, bM_when_20, bM_when_21, bM_when_29, bM_when_31, bM_when_48, bM_when_54, bM_when_73, bM_when_75, bM_when_81, ln_mnow, ln_mtrial, rg_m_32, rg_m_34, ty_m, ty_mnow, ty_mtrial, Option.toList_some, Option.toList_none, List.cons_append, List.nil_append, List.length_cons, List.length_nil, List.mem_cons, List.not_mem_nil, or_false, false_or, or_true, true_or, ↓reduceIte, true_and, and_true, Nat.reduceEqDiff, Nat.reduceAdd, Nat.reduceLeDiff, Nat.reduceLT, dl_i, dl_r, dl_n, dl_u, eq_self, not_true_eq_false, not_false_eq_true, n10, n01, nm0, n0m, imp_t, imp_f]
      exact ⟨fun _ => h3 hin hno J hf, fun q => absurd (by decide) q⟩
    | succ g ih =>
      intro k J hk hf hr hno
      refine hgo 20 [48] 48 _ _ _ _ _ ?_
      simp only [ixr_of, run_s, run_0, rM_when, rok_i, rok_z, bx_cons, bx_nil, eBP, eC0, eC1, eCS1, eCS2, eCS3, eCV0, eCV1, eCV3, eCm1, eGO, eGR, jICge, jICne, jIFeq, jIFne, eINC2, eLA0, eLI1, eLI2, ePI, eRI, eSI2, fM_when_0, fM_when_16, fM_when_20, fM_when_21, fM_when_29, fM_when_31, fM_when_48, fM_when_54, fM_when_73, fM_when_75, fM_when_81, bM_when_0, bM_when_16, bM_when_20, bM_when_21, bM_when_29, bM_when_31, bM_when_48, bM_when_54, bM_when_73, bM_when_75, bM_when_81, ln_mnow, ln_mtrial, rg_m_32, rg_m_34, ty_m, ty_mnow, ty_mtrial, Option.toList_some, Option.toList_none, List.cons_append, List.nil_append, List.length_cons, List.length_nil, List.mem_cons, List.not_mem_nil, or_false, false_or, or_true, true_or, ↓reduceIte, true_and, and_true, Nat.reduceEqDiff, Nat.reduceAdd, Nat.reduceLeDiff, Nat.reduceLT, dl_i, dl_r, dl_n, dl_u, eq_self, not_true_eq_false, not_false_eq_true, n10, n01, nm0, n0m, imp_t, imp_f]
      rw [nI_leI (by omega) (by omega)]
      refine ⟨fun q => absurd q (by omega), fun _ => ?_⟩
      refine call0 (c_steps' (Or.inr rfl) (hVA.mv (Or.inr rfl) hf) ?_)
      intro K hK hrK
      simp only [ixr_of, run_s, run_0, rM_when, rok_i, rok_z, bx_cons, bx_nil, eBP, eC0, eC1, eCS1, eCS2, eCS3, eCV0, eCV1, eCV3, eCm1, eGO, eGR, jICge, jICne, jIFeq, jIFne, eINC2, eLA0, eLI1, eLI2, ePI, eRI, eSI2, fM_when_0, fM_when_16, fM_when_20, fM_when_21, fM_when_29, fM_when_31, fM_when_48, fM_when_54, fM_when_73, fM_when_75, fM_when_81, bM_when_0, bM_when_16, bM_when_20, bM_when_21, bM_when_29, bM_when_31, bM_when_48, bM_when_54, bM_when_73, bM_when_75, bM_when_81, ln_mnow, ln_mtrial, rg_m_32, rg_m_34, ty_m, ty_mnow, ty_mtrial, Option.toList_some, Option.toList_none, List.cons_append, List.nil_append, List.length_cons, List.length_nil, List.mem_cons, List.not_mem_nil, or_false, false_or, or_true, true_or, ↓reduceIte, true_and, and_true, Nat.reduceEqDiff, Nat.reduceAdd, Nat.reduceLeDiff, Nat.reduceLT, dl_i, dl_r, dl_n, dl_u, eq_self, not_true_eq_false, not_false_eq_true, n10, n01, nm0, n0m, imp_t, imp_f]
      refine call0 (c_viewOf ty_mtrial (by rw [ln_mtrial]; decide) ?_)
      simp only [ixr_of, run_s, run_0, rM_when, rok_i, rok_z, bx_cons, bx_nil, eBP, eC0, eC1, eCS1, eCS2, eCS3, eCV0, eCV1, eCV3, eCm1, eGO, eGR, jICge, jICne, jIFeq, jIFne, eINC2, eLA0, eLI1, eLI2, ePI, eRI, eSI2, fM_when_0, fM_when_16, fM_when_20, fM_when_21, fM_when_29, fM_when_31, fM_when_48, fM_when_54, fM_when_73, fM_when_75, fM_when_81, bM_when_0, bM_when_16, bM_when_20, bM_when_21, bM_when_29, bM_when_31, bM_when_48, bM_when_54, bM_when_73, bM_when_75, bM_when_81, ln_mnow, ln_mtrial, rg_m_32, rg_m_34, ty_m, ty_mnow, ty_mtrial, Option.toList_some, Option.toList_none, List.cons_append, List.nil_append, List.length_cons, List.length_nil, List.mem_cons, List.not_mem_nil, or_false, false_or, or_true, true_or, ↓reduceIte, true_and, and_true, Nat.reduceEqDiff, Nat.reduceAdd, Nat.reduceLeDiff, Nat.reduceLT, dl_i, dl_r, dl_n, dl_u, eq_self, not_true_eq_false, not_false_eq_true, n10, n01, nm0, n0m, nI_add, imp_t, imp_f]
      have hrK' : (K 500126, K 500000 48) = itR (asN I) nV nC (I 500124, I 500000 48) (k + 1) := by
        rw [hrK, hr, st1_say (hSay.tr (hf.say (Or.inr rfl))) hV.2.1 hV.2.2.2.1]
        rfl
      have hrow : K 500126 = (itR (asN I) nV nC (I 500124, I 500000 48) (k + 1)).1 := congrArg Prod.fst hrK'
      rw [hrow]
      refine ⟨fun q => ?_, fun q => ?_⟩
      · refine ih (k + 1) K (by omega) (hf.tr hK) hrK' (fun m m1 m2 => ?_)
        by_cases e : m = k + 1
        · subst e; exact q
        · exact hno m m1 (by omega)
      · exact h2 hin (k + 1) (by omega) (by omega) q (fun m m1 m2 => hno m m1 (by omega)) K (hf.tr hK)
  refine loop 99 0 _ (by omega) ((Fr.rf (a := 500126)).srow (Or.inl rfl) (by decide)) ?_ (fun m m1 m2 => by omega)
  rw [sr_s, sr_n (by decide), hA124, hAl]
  rfl
end CM12
