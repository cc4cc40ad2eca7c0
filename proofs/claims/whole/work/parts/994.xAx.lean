/-! contracts of the class, 33: the aqueduct: what was decided is put -/
def tgH (J : Iv) (a b c : Nat) (q : T3) : Iv := fun i => if i = a then q.1 else if i = b then q.2.1 else if i = c then q.2.2 else J i
section Tg
variable {J : Iv} {a b c k : Nat} {q : T3} {x : Int32}
theorem tg_a : tgH J a b c q a = q.1 := if_pos rfl
theorem tg_b (h : b ≠ a) : tgH J a b c q b = q.2.1 := by unfold tgH; rw [if_neg h, if_pos rfl]
theorem tg_c (h : c ≠ a) (h2 : c ≠ b) : tgH J a b c q c = q.2.2 := by unfold tgH; rw [if_neg h, if_neg h2, if_pos rfl]
theorem tg_n {i : Nat} (h1 : i ≠ a) (h2 : i ≠ b) (h3 : i ≠ c) : tgH J a b c q i = J i := by unfold tgH; rw [if_neg h1, if_neg h2, if_neg h3]
theorem up_row {I : Iv} {i : Nat} : up I i k x = sr I i (ru (I i) k x) := by
  rw [← up_sr, sr_id]
theorem tg_ua : up (tgH J a b c q) a k x = tgH J a b c (ru q.1 k x, q.2) := by
  rw [up_row, tg_a]
  funext i
  unfold sr tgH
  by_cases h : i = a
  · rw [if_pos h, if_pos h]
  · rw [if_neg h, if_neg h, if_neg h]
theorem tg_ub (hb : b ≠ a) : up (tgH J a b c q) b k x = tgH J a b c (q.1, ru q.2.1 k x, q.2.2) := by
  rw [up_row, tg_b hb]
  funext i
  unfold sr tgH
  by_cases h : i = b
  · rw [if_pos h, if_neg (by omega), if_pos h]
  · rw [if_neg h, if_neg h, if_neg h]
theorem tg_uc (hc : c ≠ a) (hc2 : c ≠ b) : up (tgH J a b c q) c k x = tgH J a b c (q.1, q.2.1, ru q.2.2 k x) := by
  rw [up_row, tg_c hc hc2]
  funext i
  unfold sr tgH
  by_cases h : i = c
  · rw [if_pos h, if_neg (by omega), if_neg (by omega), if_pos h]
  · rw [if_neg h, if_neg h, if_neg h]
theorem tg_id : tgH J a b c (J a, J b, J c) = J := by
  funext i
  unfold tgH
  by_cases h : i = a
  · rw [if_pos h, h]
  · rw [if_neg h]
    by_cases h2 : i = b
    · rw [if_pos h2, h2]
    · rw [if_neg h2]
      by_cases h3 : i = c
      · rw [if_pos h3, h3]
      · rw [if_neg h3]
end Tg
/-- basins, puts, latest -/
def af1 (fr : Nat → Int32) (nV v h : Nat) (q : T3) : T3 := (ru q.1 (cl nV v h v) (q.1 (cl nV v h v) + fr (v * 3 + h)), ru q.2.1 (v * 3 + h) (q.2.1 (v * 3 + h) + fr (v * 3 + h)), ru q.2.2 v (q.2.2 v + fr (v * 3 + h)))
def afV (fr : Nat → Int32) (nV v : Nat) (q : T3) : T3 := af1 fr nV v 2 (af1 fr nV v 1 (af1 fr nV v 0 (q.1, q.2.1, ru q.2.2 v (nI 0))))
def afR (fr : Nat → Int32) (nV : Nat) : Nat → T3 → T3
  | 0, q => q
  | v + 1, q => afV fr nV v (afR fr nV v q)
section XAx
variable {Γ : Gm} {l : Launch} {b : Bool} {d : Nat} {J : Iv} {E : Ev} {kr : Kr} {kx : Kxx} {y t nV : Nat}
theorem x_addFresh (hC : AqC b E y t) (hV : DyV J y nV) (hk : kr none (tgH J (y + 1) (y + 4) (y + 3) (afR (J 17) nV nV (J (y + 1), J (y + 4), J (y + 3)))) E) : Ex Γ l (shB b) (d + 2) (0, 0) mAq_addFresh [.ref 3, .ref y] J E kr kx := by
  refine ex_of (ls0 := [some (.ref 3), some (.ref y), none, none, none]) tAq_addFresh (by decide +kernel) kAq_addFresh rfl (Nat.le_of_ble_eq_true rfl) rfl ?_
  intro go hgo
  have hA0 := hC.2.2.1
  obtain ⟨r3, -, ⟨ht, ⟨q0, -, q2, q3, -⟩, ⟨t1, -, t3, t4, -⟩, l1, -, l3, l4, -⟩, hy, hty, ht2, ht3⟩ := hC
  obtain ⟨v7, v8, v9⟩ := id hV
  have e7 : ∀ q, tgH J (y + 1) (y + 4) (y + 3) q y 7 = nI nV := fun q => by rw [tg_n (by omega) (by omega) (by omega)]; exact v7
  have e8 : ∀ q, tgH J (y + 1) (y + 4) (y + 3) q y 8 = nI (1 + 3 * nV) := fun q => by rw [tg_n (by omega) (by omega) (by omega)]; exact v8
  have e17 : ∀ q, tgH J (y + 1) (y + 4) (y + 3) q 17 = J 17 := fun q => tg_n (by omega) (by omega) (by omega)
  have eA : ∀ q, tgH J (y + 1) (y + 4) (y + 3) q (y + 1) = q.1 := fun q => tg_a
  have eB : ∀ q, tgH J (y + 1) (y + 4) (y + 3) q (y + 4) = q.2.1 := fun q => tg_b (by omega)
  have eC : ∀ q, tgH J (y + 1) (y + 4) (y + 3) q (y + 3) = q.2.2 := fun q => tg_c (by omega) (by omega)
  have uA : ∀ q k x, up (tgH J (y + 1) (y + 4) (y + 3) q) (y + 1) k x = tgH J (y + 1) (y + 4) (y + 3) (ru q.1 k x, q.2) := fun q k x => tg_ua
  have uB : ∀ q k x, up (tgH J (y + 1) (y + 4) (y + 3) q) (y + 4) k x = tgH J (y + 1) (y + 4) (y + 3) (q.1, ru q.2.1 k x, q.2.2) := fun q k x => tg_ub (by omega)
  have uC : ∀ q k x, up (tgH J (y + 1) (y + 4) (y + 3) q) (y + 3) k x = tgH J (y + 1) (y + 4) (y + 3) (q.1, q.2.1, ru q.2.2 k x) := fun q k x => tg_uc (by omega) (by omega)
  have step : ∀ (v h : Nat) (Q : T3) (x4 : Option Value), v < nV → h < 3 → (∀ x4, go 19 [some (.ref 3), some (.ref y), some (.int (nI v)), some (.int (nI (h + 1))), x4] [] (tgH J (y + 1) (y + 4) (y + 3) (af1 (J 17) nV v h Q)) E (0, 0)) → go 19 [some (.ref 3), some (.ref y), some (.int (nI v)), some (.int (nI h)), x4] [] (tgH J (y + 1) (y + 4) (y + 3) Q) E (0, 0) := by
    intro v h Q x4 hv hh hg
    have c1 : (nI 3 ≤ nI h) = False := by rw [nIl (by omega) (by omega)]; exact eq_false (by omega)
    have i1 := cl_lt v9 hv hh hv
    have i2 : v * 3 + h < 27 := by omega
    have i3 : v < 9 := by omega
    refine hgo 20 [2, 19] 19 _ _ _ _ _ ?_
    simp only [ixr_of, run_s, run_0, rAq_addFresh, rok_i, rok_z, bx_cons, bx_nil, eADD, eC0, eC3, eCV3, eDUP2, eGI, eGO, eGR, eIALD, eIAST, jICge, eINC2, eINC3, eLA0, eLA1, eLI2, eLI3, eLI4, eMUL, eRV, eSI2, eSI3, eSI4, fAq_addFresh_0, fAq_addFresh_2, fAq_addFresh_10, fAq_addFresh_19, fAq_addFresh_24, fAq_addFresh_85, fAq_addFresh_91, bAq_addFresh_0, bAq_addFresh_2, bAq_addFresh_10, bAq_addFresh_19, bAq_addFresh_24, bAq_addFresh_85, bAq_addFresh_91, ln_xaqueduct_change, ln_xaqueduct_decided, ln_xaqueduct_fresh, ln_xaqueduct_sight, ln_xopinions, rg_xaqueduct_1, rg_xaqueduct_2, rg_xaqueduct_3, rg_xaqueduct_4, rg_xaqueduct_5, ty_xaqueduct, ty_xaqueduct_change, ty_xaqueduct_decided, ty_xaqueduct_fresh, ty_xaqueduct_sight, ty_xopinions, Option.toList_some, Option.toList_none, List.cons_append, List.nil_append, List.length_cons, List.length_nil, List.mem_cons, List.not_mem_nil, or_false, false_or, or_true, true_or, ↓reduceIte, true_and, and_true, Nat.reduceEqDiff, Nat.reduceAdd, Nat.reduceLeDiff, Nat.reduceLT, dl_i, dl_r, dl_n, dl_u, eq_self, not_true_eq_false, not_false_eq_true, n10, n01, nm0, n0m, c1, ht, q0, e17, i2, nI_ml, nI_add, imp_t, imp_f]
    refine call0 (x_cell hA0 ⟨e7 _, e8 _, v9⟩ ?_)
    simp only [ixr_of, run_s, run_0, rAq_addFresh, rok_i, rok_z, bx_cons, bx_nil, eADD, eC0, eC3, eCV3, eDUP2, eGI, eGO, eGR, eIALD, eIAST, jICge, eINC2, eINC3, eLA0, eLA1, eLI2, eLI3, eLI4, eMUL, eRV, eSI2, eSI3, eSI4, fAq_addFresh_0, fAq_addFresh_2, fAq_addFresh_10, fAq_addFresh_19, fAq_addFresh_24, fAq_addFresh_85, fAq_addFresh_91, bAq_addFresh_0, bAq_addFresh_2, bAq_addFresh_10, bAq_addFresh_19, bAq_addFresh_24, bAq_addFresh_85, bAq_addFresh_91, ln_xaqueduct_change, ln_xaqueduct_decided, ln_xaqueduct_fresh, ln_xaqueduct_sight, ln_xopinions, rg_xaqueduct_1, rg_xaqueduct_2, rg_xaqueduct_3, rg_xaqueduct_4, rg_xaqueduct_5, ty_xaqueduct, ty_xaqueduct_change, ty_xaqueduct_decided, ty_xaqueduct_fresh, ty_xaqueduct_sight, ty_xopinions, Option.toList_some, Option.toList_none, List.cons_append, List.nil_append, List.length_cons, List.length_nil, List.mem_cons, List.not_mem_nil, or_false, false_or, or_true, true_or, ↓reduceIte, true_and, and_true, Nat.reduceEqDiff, Nat.reduceAdd, Nat.reduceLeDiff, Nat.reduceLT, dl_i, dl_r, dl_n, dl_u, eq_self, not_true_eq_false, not_false_eq_true, n10, n01, nm0, n0m, ht, q0, q2, q3, t1, t3, t4, l1, l3, l4, eA, eB, eC, uA, uB, uC, i1, i2, i3, nI_ml, nI_add, imp_t, imp_f]
    exact hg _
  have loop : ∀ (g v : Nat) (x3 x4 : Option Value), g + v = nV → go 2 [some (.ref 3), some (.ref y), some (.int (nI v)), x3, x4] [] (tgH J (y + 1) (y + 4) (y + 3) (afR (J 17) nV v (J (y + 1), J (y + 4), J (y + 3)))) E (0, 0) := by
    intro g
    induction g with
    | zero =>
      intro v x3 x4 hg
      have : v = nV := by omega
      subst this
      have c1 : (nI v ≤ nI v) = True := eq_true (Int32.le_refl _)
      refine hgo 20 [2, 19] 2 _ _ _ _ _ ?_
      simp only [ixr_of, run_s, run_0, rAq_addFresh, rok_i, rok_z, bx_cons, bx_nil, eADD, eC0, eC3, eCV3, eDUP2, eGI, eGO, eGR, eIALD, eIAST, jICge, eINC2, eINC3, eLA0, eLA1, eLI2, eLI3, eLI4, eMUL, eRV, eSI2, eSI3, eSI4, fAq_addFresh_0, fAq_addFresh_2, fAq_addFresh_10, fAq_addFresh_19, fAq_addFresh_24, fAq_addFresh_85, fAq_addFresh_91, bAq_addFresh_0, bAq_addFresh_2, bAq_addFresh_10, bAq_addFresh_19, bAq_addFresh_24, bAq_addFresh_85, bAq_addFresh_91, ln_xaqueduct_change, ln_xaqueduct_decided, ln_xaqueduct_fresh, ln_xaqueduct_sight, ln_xopinions, rg_xaqueduct_1, rg_xaqueduct_2, rg_xaqueduct_3, rg_xaqueduct_4, rg_xaqueduct_5, ty_xaqueduct, ty_xaqueduct_change, ty_xaqueduct_decided, ty_xaqueduct_fresh, ty_xaqueduct_sight, ty_xopinions, Option.toList_some, Option.toList_none, List.cons_append, List.nil_append, List.length_cons, List.length_nil, List.mem_cons, List.not_mem_nil, or_false, false_or, or_true, true_or, ↓reduceIte, true_and, and_true, Nat.reduceEqDiff, Nat.reduceAdd, Nat.reduceLeDiff, Nat.reduceLT, dl_i, dl_r, dl_n, dl_u, eq_self, not_true_eq_false, not_false_eq_true, n10, n01, nm0, n0m, ht, e7, c1, imp_t, imp_f]
      exact hk
    | succ g ih =>
      intro v x3 x4 hg
      have hv : v < nV := by omega
      have c1 : (nI nV ≤ nI v) = False := by rw [nIl (by omega) (by omega)]; exact eq_false (by omega)
      have i3 : v < 9 := by omega
      refine hgo 20 [2, 19] 2 _ _ _ _ _ ?_
      simp only [ixr_of, run_s, run_0, rAq_addFresh, rok_i, rok_z, bx_cons, bx_nil, eADD, eC0, eC3, eCV3, eDUP2, eGI, eGO, eGR, eIALD, eIAST, jICge, eINC2, eINC3, eLA0, eLA1, eLI2, eLI3, eLI4, eMUL, eRV, eSI2, eSI3, eSI4, fAq_addFresh_0, fAq_addFresh_2, fAq_addFresh_10, fAq_addFresh_19, fAq_addFresh_24, fAq_addFresh_85, fAq_addFresh_91, bAq_addFresh_0, bAq_addFresh_2, bAq_addFresh_10, bAq_addFresh_19, bAq_addFresh_24, bAq_addFresh_85, bAq_addFresh_91, ln_xaqueduct_change, ln_xaqueduct_decided, ln_xaqueduct_fresh, ln_xaqueduct_sight, ln_xopinions, rg_xaqueduct_1, rg_xaqueduct_2, rg_xaqueduct_3, rg_xaqueduct_4, rg_xaqueduct_5, ty_xaqueduct, ty_xaqueduct_change, ty_xaqueduct_decided, ty_xaqueduct_fresh, ty_xaqueduct_sight, ty_xopinions, Option.toList_some, Option.toList_none, List.cons_append, List.nil_append, List.length_cons, List.length_nil, List.mem_cons, List.not_mem_nil, or_false, false_or, or_true, true_or, ↓reduceIte, true_and, and_true, Nat.reduceEqDiff, Nat.reduceAdd, Nat.reduceLeDiff, Nat.reduceLT, dl_i, dl_r, dl_n, dl_u, eq_self, not_true_eq_false, not_false_eq_true, n10, n01, nm0, n0m, ht, e7, c1, q2, t3, l3, uC, i3, imp_t, imp_f]
      refine step v 0 _ _ hv (by decide) (fun x4 => step v 1 _ _ hv (by decide) (fun x4 => step v 2 _ _ hv (by decide) (fun x4 => ?_)))
      refine hgo 20 [2, 19] 19 _ _ _ _ _ ?_
      simp only [ixr_of, run_s, run_0, rAq_addFresh, rok_i, rok_z, bx_cons, bx_nil, eADD, eC0, eC3, eCV3, eDUP2, eGI, eGO, eGR, eIALD, eIAST, jICge, eINC2, eINC3, eLA0, eLA1, eLI2, eLI3, eLI4, eMUL, eRV, eSI2, eSI3, eSI4, fAq_addFresh_0, fAq_addFresh_2, fAq_addFresh_10, fAq_addFresh_19, fAq_addFresh_24, fAq_addFresh_85, fAq_addFresh_91, bAq_addFresh_0, bAq_addFresh_2, bAq_addFresh_10, bAq_addFresh_19, bAq_addFresh_24, bAq_addFresh_85, bAq_addFresh_91, ln_xaqueduct_change, ln_xaqueduct_decided, ln_xaqueduct_fresh, ln_xaqueduct_sight, ln_xopinions, rg_xaqueduct_1, rg_xaqueduct_2, rg_xaqueduct_3, rg_xaqueduct_4, rg_xaqueduct_5, ty_xaqueduct, ty_xaqueduct_change, ty_xaqueduct_decided, ty_xaqueduct_fresh, ty_xaqueduct_sight, ty_xopinions, Option.toList_some, Option.toList_none, List.cons_append, List.nil_append, List.length_cons, List.length_nil, List.mem_cons, List.not_mem_nil, or_false, false_or, or_true, true_or, ↓reduceIte, true_and, and_true, Nat.reduceEqDiff, Nat.reduceAdd, Nat.reduceLeDiff, Nat.reduceLT, dl_i, dl_r, dl_n, dl_u, eq_self, not_true_eq_false, not_false_eq_true, n10, n01, nm0, n0m, nI_add, imp_t, imp_f]
      refine ⟨fun _ => ih (v + 1) _ _ (by omega), fun z => absurd (Int32.le_refl _) z⟩
  refine hgo 20 [2] 0 _ _ _ _ _ ?_
  simp only [ixr_of, run_s, run_0, rAq_addFresh, rok_i, rok_z, bx_cons, bx_nil, eADD, eC0, eC3, eCV3, eDUP2, eGI, eGO, eGR, eIALD, eIAST, jICge, eINC2, eINC3, eLA0, eLA1, eLI2, eLI3, eLI4, eMUL, eRV, eSI2, eSI3, eSI4, fAq_addFresh_0, fAq_addFresh_2, fAq_addFresh_10, fAq_addFresh_19, fAq_addFresh_24, fAq_addFresh_85, fAq_addFresh_91, bAq_addFresh_0, bAq_addFresh_2, bAq_addFresh_10, bAq_addFresh_19, bAq_addFresh_24, bAq_addFresh_85, bAq_addFresh_91, ln_xaqueduct_change, ln_xaqueduct_decided, ln_xaqueduct_fresh, ln_xaqueduct_sight, ln_xopinions, rg_xaqueduct_1, rg_xaqueduct_2, rg_xaqueduct_3, rg_xaqueduct_4, rg_xaqueduct_5, ty_xaqueduct, ty_xaqueduct_change, ty_xaqueduct_decided, ty_xaqueduct_fresh, ty_xaqueduct_sight, ty_xopinions, Option.toList_some, Option.toList_none, List.cons_append, List.nil_append, List.length_cons, List.length_nil, List.mem_cons, List.not_mem_nil, or_false, false_or, or_true, true_or, ↓reduceIte, true_and, and_true, Nat.reduceEqDiff, Nat.reduceAdd, Nat.reduceLeDiff, Nat.reduceLT, dl_i, dl_r, dl_n, dl_u, eq_self, not_true_eq_false, not_false_eq_true, n10, n01, nm0, n0m, imp_t, imp_f]
  have := loop nV 0 none none (by omega)
  rw [show afR (J 17) nV 0 (J (y + 1), J (y + 4), J (y + 3)) = (J (y + 1), J (y + 4), J (y + 3)) from rfl, tg_id] at this
  exact this
end XAx
