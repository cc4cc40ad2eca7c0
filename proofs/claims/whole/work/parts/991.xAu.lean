/-! contracts of the class, 30: the aqueduct: strainers, all -/
def snX (S : Tn) (gr : Nat → Int32) (mo : Int32 × Int32) (v h : Nat) : Int32 := nI (vz S v (5 + h)) + gr v + (if mo.1 = nI (v * 3 + h) then mo.2 else nI 0)
def s3X (S : Tn) (sn : Nat → Nat → Int32) (v : Nat) : Nat → (Nat → Int32) × Int32 → (Nat → Int32) × Int32
  | 0, q => q
  | h + 1, q => (toR (cl S.1.1 v h 0) S.1.1 (s3X S sn v h q, sn v h)).1
def s6X (S : Tn) (sn : Nat → Nat → Int32) : Nat → (Nat → Int32) × Int32 → (Nat → Int32) × Int32
  | 0, q => q
  | v + 1, q => s3X S sn v 3 (s6X S sn v q)
section XAu
variable {Γ : Gm} {l : Launch} {b : Bool} {d : Nat} {J : Iv} {E : Ev} {kr : Kr} {kx : Kxx} {y t : Nat} {S : Tn}
theorem x_strain (hC : AqC b E y t) (hV : DyV J y S.1.1) (hX : XTn J t S) (hk : kr none (rfH J y 13 (s6X S (snX S (J (y + 6)) (J y 14, J y 15)) S.1.1 (J (y + 1), J y 13))) E) : Ex Γ l (shB b) (d + 2) (0, 0) mAq_strain [.ref 3, .ref y] J E kr kx := by
  refine ex_of (ls0 := [some (.ref 3), some (.ref y), none, none, none, none]) tAq_strain (by decide +kernel) kAq_strain rfl (Nat.le_of_ble_eq_true rfl) rfl ?_
  intro go hgo
  have hA0 := hC.2.2.1
  have hC0 := hC
  obtain ⟨r3, ⟨ty, tn⟩, ⟨ht, ⟨q0, -, -, -, -, q5, -⟩, ⟨t1, -, -, -, -, t6, -⟩, l1, -, -, -, -, l6, -⟩, hy, hty, ht2, ht3⟩ := hC
  obtain ⟨v7, v8, v9⟩ := id hV
  obtain ⟨X10, X11, X12, X13, X14, Xw, Xv, Xc⟩ := id hX
  have g6 : rget (shB b) E t 6 = .ref (t + 7) := (tn 6 (by decide)).1
  have a6 : tyc (shB b) E (t + 7) = 101 := (tn 6 (by decide)).2.1
  have n6 : len (shB b) E (t + 7) = 27 := (tn 6 (by decide)).2.2
  have e7 : ∀ q, rfH J y 13 q y 7 = nI S.1.1 := fun q => by rw [rf_n (by omega) (by omega)]; exact v7
  have e8 : ∀ q, rfH J y 13 q y 8 = nI (1 + 3 * S.1.1) := fun q => by rw [rf_n (by omega) (by omega)]; exact v8
  have e14 : ∀ q, rfH J y 13 q y 14 = J y 14 := fun q => rf_n (by omega) (by omega)
  have e15 : ∀ q, rfH J y 13 q y 15 = J y 15 := fun q => rf_n (by omega) (by omega)
  have e6 : ∀ q, rfH J y 13 q (y + 6) = J (y + 6) := fun q => rf_m (by omega) (by omega)
  have et : ∀ q, rfH J y 13 q (t + 7) = J (t + 7) := fun q => rf_m (by omega) (by omega)
  obtain ⟨sn, hsn⟩ : ∃ sn, sn = snX S (J (y + 6)) (J y 14, J y 15) := ⟨_, rfl⟩
  rw [← hsn] at hk
  have inner : ∀ (g h v : Nat) (Q : (Nat → Int32) × Int32) (x4 x5 : Option Value), g + h = 3 → v < S.1.1 → (∀ x3 x4 x5, go 2 [some (.ref 3), some (.ref y), some (.int (nI (v + 1))), x3, x4, x5] [] (rfH J y 13 (s3X S sn v 3 Q)) E (0, 0)) → go 12 [some (.ref 3), some (.ref y), some (.int (nI v)), some (.int (nI h)), x4, x5] [] (rfH J y 13 (s3X S sn v h Q)) E (0, 0) := by
    intro g
    induction g with
    | zero =>
      intro h v Q x4 x5 hg hv hN
      have : h = 3 := by omega
      subst this
      refine hgo 20 [2, 12] 12 _ _ _ _ _ ?_
      simp only [ixr_of, run_s, run_0, rAq_strain, rok_i, rok_z, bx_cons, bx_nil, eADD, eC0, eC3, eCV3, eGI, eGO, eGR, eIALD, jICge, jICne, eINC2, eINC3, eLA0, eLA1, eLI2, eLI3, eLI4, eLI5, eMUL, eRV, eSI2, eSI3, eSI4, eSI5, fAq_strain_0, fAq_strain_2, fAq_strain_10, fAq_strain_12, fAq_strain_17, fAq_strain_50, fAq_strain_57, fAq_strain_58, fAq_strain_81, fAq_strain_87, bAq_strain_0, bAq_strain_2, bAq_strain_10, bAq_strain_12, bAq_strain_17, bAq_strain_50, bAq_strain_57, bAq_strain_58, bAq_strain_81, bAq_strain_87, ln_xaqueduct_change, ln_xaqueduct_decided, ln_xaqueduct_fresh, ln_xaqueduct_sight, ln_xopinions, rg_xaqueduct_1, rg_xaqueduct_2, rg_xaqueduct_3, rg_xaqueduct_4, rg_xaqueduct_5, ty_xaqueduct, ty_xaqueduct_change, ty_xaqueduct_decided, ty_xaqueduct_fresh, ty_xaqueduct_sight, ty_xopinions, Option.toList_some, Option.toList_none, List.cons_append, List.nil_append, List.length_cons, List.length_nil, List.mem_cons, List.not_mem_nil, or_false, false_or, or_true, true_or, ↓reduceIte, true_and, and_true, Nat.reduceEqDiff, Nat.reduceAdd, Nat.reduceLeDiff, Nat.reduceLT, dl_i, dl_r, dl_n, dl_u, eq_self, not_true_eq_false, not_false_eq_true, n10, n01, nm0, n0m, nI_add, imp_t, imp_f]
      exact ⟨fun _ => hN _ _ _, fun z => absurd (Int32.le_refl _) z⟩
    | succ g ih =>
      intro h v Q x4 x5 hg hv hN
      have hh : h < 3 := by omega
      have c1 : (nI 3 ≤ nI h) = False := by rw [nIl (by omega) (by omega)]; exact eq_false (by omega)
      have i9 : v < 9 := by omega
      have i1 : v * 3 + h < 27 := by omega
      have x7 : J (t + 7) (v * 3 + h) = nI (vz S v (5 + h)) := by rw [Nat.mul_comm]; exact (Xv v i9).2.2.2.2.2 h hh
      have hf : cl S.1.1 v h 0 + S.1.1 ≤ 252 := by
        have := cl_lt v9 hv hh (show S.1.1 - 1 < S.1.1 by omega)
        unfold cl at this ⊢
        omega
      have ih' := fun x4 x5 => ih (h + 1) v Q x4 x5 (by omega) hv hN
      have hs0 : ¬ J y 14 = nI (v * 3 + h) → nI (vz S v (5 + h)) + J (y + 6) v + nI 0 = sn v h := fun z => by rw [hsn]; unfold snX; rw [if_neg z]
      have hs1 : J y 14 = nI (v * 3 + h) → nI (vz S v (5 + h)) + J (y + 6) v + J y 15 = sn v h := fun z => by rw [hsn]; unfold snX; rw [if_pos z]
      refine hgo 20 [2, 12] 12 _ _ _ _ _ ?_
      simp only [ixr_of, run_s, run_0, rAq_strain, rok_i, rok_z, bx_cons, bx_nil, eADD, eC0, eC3, eCV3, eGI, eGO, eGR, eIALD, jICge, jICne, eINC2, eINC3, eLA0, eLA1, eLI2, eLI3, eLI4, eLI5, eMUL, eRV, eSI2, eSI3, eSI4, eSI5, fAq_strain_0, fAq_strain_2, fAq_strain_10, fAq_strain_12, fAq_strain_17, fAq_strain_50, fAq_strain_57, fAq_strain_58, fAq_strain_81, fAq_strain_87, bAq_strain_0, bAq_strain_2, bAq_strain_10, bAq_strain_12, bAq_strain_17, bAq_strain_50, bAq_strain_57, bAq_strain_58, bAq_strain_81, bAq_strain_87, ln_xaqueduct_change, ln_xaqueduct_decided, ln_xaqueduct_fresh, ln_xaqueduct_sight, ln_xopinions, rg_xaqueduct_1, rg_xaqueduct_2, rg_xaqueduct_3, rg_xaqueduct_4, rg_xaqueduct_5, ty_xaqueduct, ty_xaqueduct_change, ty_xaqueduct_decided, ty_xaqueduct_fresh, ty_xaqueduct_sight, ty_xopinions, Option.toList_some, Option.toList_none, List.cons_append, List.nil_append, List.length_cons, List.length_nil, List.mem_cons, List.not_mem_nil, or_false, false_or, or_true, true_or, ↓reduceIte, true_and, and_true, Nat.reduceEqDiff, Nat.reduceAdd, Nat.reduceLeDiff, Nat.reduceLT, dl_i, dl_r, dl_n, dl_u, eq_self, not_true_eq_false, not_false_eq_true, n10, n01, nm0, n0m, c1, ty, r3, ht, g6, a6, n6, q5, t6, l6, et, e6, e14, e15, x7, i1, i9, nI_ml, nI_add, imp_t, imp_f]
      refine ⟨fun z => ?_, fun z => ?_⟩
      · rw [hs0 z]
        refine call0 (x_cell (w := 0) hA0 ⟨e7 _, e8 _, v9⟩ ?_)
        simp only [ixr_of, run_s, run_0, rAq_strain, rok_i, rok_z, bx_cons, bx_nil, eADD, eC0, eC3, eCV3, eGI, eGO, eGR, eIALD, jICge, jICne, eINC2, eINC3, eLA0, eLA1, eLI2, eLI3, eLI4, eLI5, eMUL, eRV, eSI2, eSI3, eSI4, eSI5, fAq_strain_0, fAq_strain_2, fAq_strain_10, fAq_strain_12, fAq_strain_17, fAq_strain_50, fAq_strain_57, fAq_strain_58, fAq_strain_81, fAq_strain_87, bAq_strain_0, bAq_strain_2, bAq_strain_10, bAq_strain_12, bAq_strain_17, bAq_strain_50, bAq_strain_57, bAq_strain_58, bAq_strain_81, bAq_strain_87, ln_xaqueduct_change, ln_xaqueduct_decided, ln_xaqueduct_fresh, ln_xaqueduct_sight, ln_xopinions, rg_xaqueduct_1, rg_xaqueduct_2, rg_xaqueduct_3, rg_xaqueduct_4, rg_xaqueduct_5, ty_xaqueduct, ty_xaqueduct_change, ty_xaqueduct_decided, ty_xaqueduct_fresh, ty_xaqueduct_sight, ty_xopinions, Option.toList_some, Option.toList_none, List.cons_append, List.nil_append, List.length_cons, List.length_nil, List.mem_cons, List.not_mem_nil, or_false, false_or, or_true, true_or, ↓reduceIte, true_and, and_true, Nat.reduceEqDiff, Nat.reduceAdd, Nat.reduceLeDiff, Nat.reduceLT, dl_i, dl_r, dl_n, dl_u, eq_self, not_true_eq_false, not_false_eq_true, n10, n01, nm0, n0m, imp_t, imp_f]
        refine call0 (x_takeOut hC0 ⟨e7 _, e8 _, v9⟩ hf ?_)
        rw [rf_rf, rf_a, rf_g]
        simp only [ixr_of, run_s, run_0, rAq_strain, rok_i, rok_z, bx_cons, bx_nil, eADD, eC0, eC3, eCV3, eGI, eGO, eGR, eIALD, jICge, jICne, eINC2, eINC3, eLA0, eLA1, eLI2, eLI3, eLI4, eLI5, eMUL, eRV, eSI2, eSI3, eSI4, eSI5, fAq_strain_0, fAq_strain_2, fAq_strain_10, fAq_strain_12, fAq_strain_17, fAq_strain_50, fAq_strain_57, fAq_strain_58, fAq_strain_81, fAq_strain_87, bAq_strain_0, bAq_strain_2, bAq_strain_10, bAq_strain_12, bAq_strain_17, bAq_strain_50, bAq_strain_57, bAq_strain_58, bAq_strain_81, bAq_strain_87, ln_xaqueduct_change, ln_xaqueduct_decided, ln_xaqueduct_fresh, ln_xaqueduct_sight, ln_xopinions, rg_xaqueduct_1, rg_xaqueduct_2, rg_xaqueduct_3, rg_xaqueduct_4, rg_xaqueduct_5, ty_xaqueduct, ty_xaqueduct_change, ty_xaqueduct_decided, ty_xaqueduct_fresh, ty_xaqueduct_sight, ty_xopinions, Option.toList_some, Option.toList_none, List.cons_append, List.nil_append, List.length_cons, List.length_nil, List.mem_cons, List.not_mem_nil, or_false, false_or, or_true, true_or, ↓reduceIte, true_and, and_true, Nat.reduceEqDiff, Nat.reduceAdd, Nat.reduceLeDiff, Nat.reduceLT, dl_i, dl_r, dl_n, dl_u, eq_self, not_true_eq_false, not_false_eq_true, n10, n01, nm0, n0m, nI_add, imp_t, imp_f]
        exact ih' _ _
      · rw [hs1 z]
        refine call0 (x_cell (w := 0) hA0 ⟨e7 _, e8 _, v9⟩ ?_)
        simp only [ixr_of, run_s, run_0, rAq_strain, rok_i, rok_z, bx_cons, bx_nil, eADD, eC0, eC3, eCV3, eGI, eGO, eGR, eIALD, jICge, jICne, eINC2, eINC3, eLA0, eLA1, eLI2, eLI3, eLI4, eLI5, eMUL, eRV, eSI2, eSI3, eSI4, eSI5, fAq_strain_0, fAq_strain_2, fAq_strain_10, fAq_strain_12, fAq_strain_17, fAq_strain_50, fAq_strain_57, fAq_strain_58, fAq_strain_81, fAq_strain_87, bAq_strain_0, bAq_strain_2, bAq_strain_10, bAq_strain_12, bAq_strain_17, bAq_strain_50, bAq_strain_57, bAq_strain_58, bAq_strain_81, bAq_strain_87, ln_xaqueduct_change, ln_xaqueduct_decided, ln_xaqueduct_fresh, ln_xaqueduct_sight, ln_xopinions, rg_xaqueduct_1, rg_xaqueduct_2, rg_xaqueduct_3, rg_xaqueduct_4, rg_xaqueduct_5, ty_xaqueduct, ty_xaqueduct_change, ty_xaqueduct_decided, ty_xaqueduct_fresh, ty_xaqueduct_sight, ty_xopinions, Option.toList_some, Option.toList_none, List.cons_append, List.nil_append, List.length_cons, List.length_nil, List.mem_cons, List.not_mem_nil, or_false, false_or, or_true, true_or, ↓reduceIte, true_and, and_true, Nat.reduceEqDiff, Nat.reduceAdd, Nat.reduceLeDiff, Nat.reduceLT, dl_i, dl_r, dl_n, dl_u, eq_self, not_true_eq_false, not_false_eq_true, n10, n01, nm0, n0m, imp_t, imp_f]
        refine call0 (x_takeOut hC0 ⟨e7 _, e8 _, v9⟩ hf ?_)
        rw [rf_rf, rf_a, rf_g]
        simp only [ixr_of, run_s, run_0, rAq_strain, rok_i, rok_z, bx_cons, bx_nil, eADD, eC0, eC3, eCV3, eGI, eGO, eGR, eIALD, jICge, jICne, eINC2, eINC3, eLA0, eLA1, eLI2, eLI3, eLI4, eLI5, eMUL, eRV, eSI2, eSI3, eSI4, eSI5, fAq_strain_0, fAq_strain_2, fAq_strain_10, fAq_strain_12, fAq_strain_17, fAq_strain_50, fAq_strain_57, fAq_strain_58, fAq_strain_81, fAq_strain_87, bAq_strain_0, bAq_strain_2, bAq_strain_10, bAq_strain_12, bAq_strain_17, bAq_strain_50, bAq_strain_57, bAq_strain_58, bAq_strain_81, bAq_strain_87, ln_xaqueduct_change, ln_xaqueduct_decided, ln_xaqueduct_fresh, ln_xaqueduct_sight, ln_xopinions, rg_xaqueduct_1, rg_xaqueduct_2, rg_xaqueduct_3, rg_xaqueduct_4, rg_xaqueduct_5, ty_xaqueduct, ty_xaqueduct_change, ty_xaqueduct_decided, ty_xaqueduct_fresh, ty_xaqueduct_sight, ty_xopinions, Option.toList_some, Option.toList_none, List.cons_append, List.nil_append, List.length_cons, List.length_nil, List.mem_cons, List.not_mem_nil, or_false, false_or, or_true, true_or, ↓reduceIte, true_and, and_true, Nat.reduceEqDiff, Nat.reduceAdd, Nat.reduceLeDiff, Nat.reduceLT, dl_i, dl_r, dl_n, dl_u, eq_self, not_true_eq_false, not_false_eq_true, n10, n01, nm0, n0m, nI_add, imp_t, imp_f]
        exact ih' _ _
  have outer : ∀ (g v : Nat) (x3 x4 x5 : Option Value), g + v = S.1.1 → go 2 [some (.ref 3), some (.ref y), some (.int (nI v)), x3, x4, x5] [] (rfH J y 13 (s6X S sn v (J (y + 1), J y 13))) E (0, 0) := by
    intro g
    induction g with
    | zero =>
      intro v x3 x4 x5 hg
      have : v = S.1.1 := by omega
      subst this
      have c1 : (nI S.1.1 ≤ nI S.1.1) = True := eq_true (Int32.le_refl _)
      refine hgo 20 [2, 12] 2 _ _ _ _ _ ?_
      simp only [ixr_of, run_s, run_0, rAq_strain, rok_i, rok_z, bx_cons, bx_nil, eADD, eC0, eC3, eCV3, eGI, eGO, eGR, eIALD, jICge, jICne, eINC2, eINC3, eLA0, eLA1, eLI2, eLI3, eLI4, eLI5, eMUL, eRV, eSI2, eSI3, eSI4, eSI5, fAq_strain_0, fAq_strain_2, fAq_strain_10, fAq_strain_12, fAq_strain_17, fAq_strain_50, fAq_strain_57, fAq_strain_58, fAq_strain_81, fAq_strain_87, bAq_strain_0, bAq_strain_2, bAq_strain_10, bAq_strain_12, bAq_strain_17, bAq_strain_50, bAq_strain_57, bAq_strain_58, bAq_strain_81, bAq_strain_87, ln_xaqueduct_change, ln_xaqueduct_decided, ln_xaqueduct_fresh, ln_xaqueduct_sight, ln_xopinions, rg_xaqueduct_1, rg_xaqueduct_2, rg_xaqueduct_3, rg_xaqueduct_4, rg_xaqueduct_5, ty_xaqueduct, ty_xaqueduct_change, ty_xaqueduct_decided, ty_xaqueduct_fresh, ty_xaqueduct_sight, ty_xopinions, Option.toList_some, Option.toList_none, List.cons_append, List.nil_append, List.length_cons, List.length_nil, List.mem_cons, List.not_mem_nil, or_false, false_or, or_true, true_or, ↓reduceIte, true_and, and_true, Nat.reduceEqDiff, Nat.reduceAdd, Nat.reduceLeDiff, Nat.reduceLT, dl_i, dl_r, dl_n, dl_u, eq_self, not_true_eq_false, not_false_eq_true, n10, n01, nm0, n0m, ht, e7, c1, imp_t, imp_f]
      exact hk
    | succ g ih =>
      intro v x3 x4 x5 hg
      have c1 : (nI S.1.1 ≤ nI v) = False := by rw [nIl (by omega) (by omega)]; exact eq_false (by omega)
      refine hgo 20 [2, 12] 2 _ _ _ _ _ ?_
      simp only [ixr_of, run_s, run_0, rAq_strain, rok_i, rok_z, bx_cons, bx_nil, eADD, eC0, eC3, eCV3, eGI, eGO, eGR, eIALD, jICge, jICne, eINC2, eINC3, eLA0, eLA1, eLI2, eLI3, eLI4, eLI5, eMUL, eRV, eSI2, eSI3, eSI4, eSI5, fAq_strain_0, fAq_strain_2, fAq_strain_10, fAq_strain_12, fAq_strain_17, fAq_strain_50, fAq_strain_57, fAq_strain_58, fAq_strain_81, fAq_strain_87, bAq_strain_0, bAq_strain_2, bAq_strain_10, bAq_strain_12, bAq_strain_17, bAq_strain_50, bAq_strain_57, bAq_strain_58, bAq_strain_81, bAq_strain_87, ln_xaqueduct_change, ln_xaqueduct_decided, ln_xaqueduct_fresh, ln_xaqueduct_sight, ln_xopinions, rg_xaqueduct_1, rg_xaqueduct_2, rg_xaqueduct_3, rg_xaqueduct_4, rg_xaqueduct_5, ty_xaqueduct, ty_xaqueduct_change, ty_xaqueduct_decided, ty_xaqueduct_fresh, ty_xaqueduct_sight, ty_xopinions, Option.toList_some, Option.toList_none, List.cons_append, List.nil_append, List.length_cons, List.length_nil, List.mem_cons, List.not_mem_nil, or_false, false_or, or_true, true_or, ↓reduceIte, true_and, and_true, Nat.reduceEqDiff, Nat.reduceAdd, Nat.reduceLeDiff, Nat.reduceLT, dl_i, dl_r, dl_n, dl_u, eq_self, not_true_eq_false, not_false_eq_true, n10, n01, nm0, n0m, ht, e7, c1, imp_t, imp_f]
      exact inner 3 0 v _ _ _ (by omega) (by omega) (fun x3 x4 x5 => ih (v + 1) x3 x4 x5 (by omega))
  refine hgo 20 [2] 0 _ _ _ _ _ ?_
  simp only [ixr_of, run_s, run_0, rAq_strain, rok_i, rok_z, bx_cons, bx_nil, eADD, eC0, eC3, eCV3, eGI, eGO, eGR, eIALD, jICge, jICne, eINC2, eINC3, eLA0, eLA1, eLI2, eLI3, eLI4, eLI5, eMUL, eRV, eSI2, eSI3, eSI4, eSI5, fAq_strain_0, fAq_strain_2, fAq_strain_10, fAq_strain_12, fAq_strain_17, fAq_strain_50, fAq_strain_57, fAq_strain_58, fAq_strain_81, fAq_strain_87, bAq_strain_0, bAq_strain_2, bAq_strain_10, bAq_strain_12, bAq_strain_17, bAq_strain_50, bAq_strain_57, bAq_strain_58, bAq_strain_81, bAq_strain_87, ln_xaqueduct_change, ln_xaqueduct_decided, ln_xaqueduct_fresh, ln_xaqueduct_sight, ln_xopinions, rg_xaqueduct_1, rg_xaqueduct_2, rg_xaqueduct_3, rg_xaqueduct_4, rg_xaqueduct_5, ty_xaqueduct, ty_xaqueduct_change, ty_xaqueduct_decided, ty_xaqueduct_fresh, ty_xaqueduct_sight, ty_xopinions, Option.toList_some, Option.toList_none, List.cons_append, List.nil_append, List.length_cons, List.length_nil, List.mem_cons, List.not_mem_nil, or_false, false_or, or_true, true_or, ↓reduceIte, true_and, and_true, Nat.reduceEqDiff, Nat.reduceAdd, Nat.reduceLeDiff, Nat.reduceLT, dl_i, dl_r, dl_n, dl_u, eq_self, not_true_eq_false, not_false_eq_true, n10, n01, nm0, n0m, imp_t, imp_f]
  have := outer S.1.1 0 none none none (by omega)
  rw [show s6X S sn 0 (J (y + 1), J y 13) = (J (y + 1), J y 13) from rfl, rf_id] at this
  exact this
end XAu
