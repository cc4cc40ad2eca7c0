/-! contracts of the class, 27: the aqueduct: led to the town, to the gardens -/
/-- three rows -/
def tqH (J : Iv) (y : Nat) (q : (Nat → Int32) × (Nat → Int32) × (Nat → Int32)) : Iv := fun i => if i = 16 then q.1 else if i = y + 7 then q.2.1 else if i = y + 5 then q.2.2 else J i
section Tq
variable {J : Iv} {y k : Nat} {q : (Nat → Int32) × (Nat → Int32) × (Nat → Int32)} {x : Int32}
theorem tq_a : tqH J y q 16 = q.1 := if_pos rfl
theorem tq_b (hy : 20 ≤ y) : tqH J y q (y + 7) = q.2.1 := by unfold tqH; rw [if_neg (by omega), if_pos rfl]
theorem tq_c (hy : 20 ≤ y) : tqH J y q (y + 5) = q.2.2 := by unfold tqH; rw [if_neg (by omega), if_neg (by omega), if_pos rfl]
theorem tq_n {i : Nat} (h1 : i ≠ 16) (h2 : i ≠ y + 7) (h3 : i ≠ y + 5) : tqH J y q i = J i := by unfold tqH; rw [if_neg h1, if_neg h2, if_neg h3]
theorem tq_ua : up (tqH J y q) 16 k x = tqH J y (ru q.1 k x, q.2) := by
  funext a c
  by_cases h : a = 16
  · subst h
    rw [tq_a]
    unfold up ru
    dsimp only
    by_cases e : c = k
    · rw [if_pos ⟨rfl, e⟩, if_pos e]
    · rw [if_neg (fun z => e z.2), if_neg e, tq_a]
  · rw [up_n (fun z => h z.1)]
    unfold tqH
    rw [if_neg h, if_neg h]
theorem tq_ub (hy : 20 ≤ y) : up (tqH J y q) (y + 7) k x = tqH J y (q.1, ru q.2.1 k x, q.2.2) := by
  funext a c
  by_cases h : a = y + 7
  · subst h
    rw [tq_b hy]
    unfold up ru
    dsimp only
    by_cases e : c = k
    · rw [if_pos ⟨rfl, e⟩, if_pos e]
    · rw [if_neg (fun z => e z.2), if_neg e, tq_b hy]
  · rw [up_n (fun z => h z.1)]
    unfold tqH
    by_cases e : a = 16
    · rw [if_pos e, if_pos e]
    · rw [if_neg e, if_neg e, if_neg h, if_neg h]
theorem tq_uc (hy : 20 ≤ y) : up (tqH J y q) (y + 5) k x = tqH J y (q.1, q.2.1, ru q.2.2 k x) := by
  funext a c
  by_cases h : a = y + 5
  · subst h
    rw [tq_c hy]
    unfold up ru
    dsimp only
    by_cases e : c = k
    · rw [if_pos ⟨rfl, e⟩, if_pos e]
    · rw [if_neg (fun z => e z.2), if_neg e, tq_c hy]
  · rw [up_n (fun z => h z.1)]
    unfold tqH
    by_cases e : a = 16
    · rw [if_pos e, if_pos e]
    · rw [if_neg e, if_neg e]
      by_cases e2 : a = y + 7
      · rw [if_pos e2, if_pos e2]
      · rw [if_neg e2, if_neg e2, if_neg h, if_neg h]
theorem tq_id (hy : 20 ≤ y) : tqH J y (J 16, J (y + 7), J (y + 5)) = J := by
  funext a
  unfold tqH
  by_cases e : a = 16
  · rw [if_pos e, e]
  · rw [if_neg e]
    by_cases e2 : a = y + 7
    · rw [if_pos e2, e2]
    · rw [if_neg e2]
      by_cases e3 : a = y + 5
      · rw [if_pos e3, e3]
      · rw [if_neg e3]
end Tq
abbrev T3 : Type := (Nat → Int32) × (Nat → Int32) × (Nat → Int32)
/-- the tap: what each put of h, up to w -/
def twR (bas : Nat → Int32) (nV u : Nat) (p : Int32) (h : Nat) : Nat → T3 → T3
  | 0, q => q
  | w + 1, q =>
    let o := twR bas nV u p h w q
    let e := bas (cl nV u h w) * p / nI 8
    (ru o.1 (cl nV u h w) (o.1 (cl nV u h w) - e), ru o.2.1 (1 + h) (o.2.1 (1 + h) + e), ru o.2.2 (w * 3 + h) (o.2.2 (w * 3 + h) + e))
def thR (bas : Nat → Int32) (nV u : Nat) (p : Int32) : Nat → T3 → T3
  | 0, q => q
  | h + 1, q => twR bas nV u p h nV (thR bas nV u p h q)
def taR (bas : Nat → Int32) (nV u : Nat) (p : Int32) (q : T3) : T3 :=
  thR bas nV u p 3 (ru q.1 (u * (1 + 3 * nV)) (q.1 (u * (1 + 3 * nV)) - bas (u * (1 + 3 * nV)) * p / nI 8), ru q.2.1 0 (bas (u * (1 + 3 * nV)) * p / nI 8), q.2.2)
section XAr
variable {Γ : Gm} {l : Launch} {b : Bool} {d : Nat} {J : Iv} {E : Ev} {kr : Kr} {kx : Kxx} {y t nV : Nat}
theorem x_leadToTown {u p : Nat} (hC : AqC b E y t) (hV : DyV J y nV) (hu : J t 12 = nI u) (hu9 : u < nV) (hp : J t 13 = nI p) (hk : kr none (tqH J y (taR (J (y + 1)) nV u (nI p) (J 16, J (y + 7), J (y + 5)))) E) : Ex Γ l (shB b) (d + 2) (0, 0) mAq_leadToTown [.ref 3, .ref y] J E kr kx := by
  refine ex_of (ls0 := [some (.ref 3), some (.ref y), none, none, none, none, none]) tAq_leadToTown (by decide +kernel) kAq_leadToTown rfl (Nat.le_of_ble_eq_true rfl) rfl ?_
  intro go hgo
  have hA0 := hC.2.2.1
  obtain ⟨r3, ⟨ty, tn⟩, ⟨ht, ⟨q0, -, -, -, q4, -, q6⟩, ⟨t1, -, -, -, t5, -, t7⟩, l1, -, -, -, l5, -, l7⟩, hy, hty, ht2, ht3⟩ := hC
  obtain ⟨v7, v8, v9⟩ := hV
  have e12 : ∀ q, tqH J y q t 12 = nI u := fun q => by rw [tq_n (by omega) (by omega) (by omega)]; exact hu
  have e13 : ∀ q, tqH J y q t 13 = nI p := fun q => by rw [tq_n (by omega) (by omega) (by omega)]; exact hp
  have e7 : ∀ q, tqH J y q y 7 = nI nV := fun q => by rw [tq_n (by omega) (by omega) (by omega)]; exact v7
  have e8 : ∀ q, tqH J y q y 8 = nI (1 + 3 * nV) := fun q => by rw [tq_n (by omega) (by omega) (by omega)]; exact v8
  have e1 : ∀ q, tqH J y q (y + 1) = J (y + 1) := fun q => tq_n (by omega) (by omega) (by omega)
  have eA : ∀ q, tqH J y q 16 = q.1 := fun q => tq_a
  have eB : ∀ q, tqH J y q (y + 7) = q.2.1 := fun q => tq_b hy
  have eC : ∀ q, tqH J y q (y + 5) = q.2.2 := fun q => tq_c hy
  have uA : ∀ q k x, up (tqH J y q) 16 k x = tqH J y (ru q.1 k x, q.2) := fun q k x => tq_ua
  have uB : ∀ q k x, up (tqH J y q) (y + 7) k x = tqH J y (q.1, ru q.2.1 k x, q.2.2) := fun q k x => tq_ub hy
  have uC : ∀ q k x, up (tqH J y q) (y + 5) k x = tqH J y (q.1, q.2.1, ru q.2.2 k x) := fun q k x => tq_uc hy
  have i0 := wa_lt v9 hu9
  have hne : (nI u = -1) = False := eq_false (nI_nm (by omega))
  obtain ⟨Q, hQ⟩ : ∃ Q : T3, Q = (ru (J 16) (u * (1 + 3 * nV)) (J 16 (u * (1 + 3 * nV)) - J (y + 1) (u * (1 + 3 * nV)) * nI p / nI 8), ru (J (y + 7)) 0 (J (y + 1) (u * (1 + 3 * nV)) * nI p / nI 8), J (y + 5)) := ⟨_, rfl⟩
  have hk' : kr none (tqH J y (thR (J (y + 1)) nV u (nI p) 3 Q)) E := by rw [hQ]; exact hk
  have inner : ∀ (g w h : Nat) (x5 x6 : Option Value), g + w = nV → h < 3 → (∀ x4 x5 x6, go 65 [some (.ref 3), some (.ref y), some (.int (nI (u * (1 + 3 * nV)))), some (.int (nI (h + 1))), x4, x5, x6] [] (tqH J y (thR (J (y + 1)) nV u (nI p) (h + 1) Q)) E (0, 0)) → go 73 [some (.ref 3), some (.ref y), some (.int (nI (u * (1 + 3 * nV)))), some (.int (nI h)), some (.int (nI w)), x5, x6] [] (tqH J y (twR (J (y + 1)) nV u (nI p) h w (thR (J (y + 1)) nV u (nI p) h Q))) E (0, 0) := by
    intro g
    induction g with
    | zero =>
      intro w h x5 x6 hg hh hN
      have : w = nV := by omega
      subst this
      have c1 : (nI w ≤ nI w) = True := eq_true (Int32.le_refl _)
      refine hgo 20 [65, 73] 73 _ _ _ _ _ ?_
      simp only [ixr_of, run_s, run_0, rAq_leadToTown, rok_i, rok_z, bx_cons, bx_nil, eADD, eBP, eC0, eC1, eC3, eCV3, eCm1, eDIV, eDUP2, eGI, eGO, eGR, eIALD, eIAST, jICge, jICne, eINC3, eINC4, eLA0, eLA1, eLI2, eLI3, eLI4, eLI5, eLI6, eMUL, eRV, eSI2, eSI3, eSI4, eSI5, eSI6, eSUB, fAq_leadToTown_0, fAq_leadToTown_11, fAq_leadToTown_12, fAq_leadToTown_65, fAq_leadToTown_70, fAq_leadToTown_73, fAq_leadToTown_82, fAq_leadToTown_165, fAq_leadToTown_171, bAq_leadToTown_0, bAq_leadToTown_11, bAq_leadToTown_12, bAq_leadToTown_65, bAq_leadToTown_70, bAq_leadToTown_73, bAq_leadToTown_82, bAq_leadToTown_165, bAq_leadToTown_171, ln_xaqueduct_change, ln_xaqueduct_decided, ln_xaqueduct_fresh, ln_xaqueduct_sight, ln_xopinions, rg_xaqueduct_1, rg_xaqueduct_2, rg_xaqueduct_3, rg_xaqueduct_4, rg_xaqueduct_5, ty_xaqueduct, ty_xaqueduct_change, ty_xaqueduct_decided, ty_xaqueduct_fresh, ty_xaqueduct_sight, ty_xopinions, Option.toList_some, Option.toList_none, List.cons_append, List.nil_append, List.length_cons, List.length_nil, List.mem_cons, List.not_mem_nil, or_false, false_or, or_true, true_or, ↓reduceIte, true_and, and_true, Nat.reduceEqDiff, Nat.reduceAdd, Nat.reduceLeDiff, Nat.reduceLT, dl_i, dl_r, dl_n, dl_u, eq_self, not_true_eq_false, not_false_eq_true, n10, n01, nm0, n0m, ht, e7, c1, nI_add, imp_t, imp_f]
      exact hN _ _ _
    | succ g ih =>
      intro w h x5 x6 hg hh hN
      have hw : w < nV := by omega
      have c1 : (nI nV ≤ nI w) = False := by rw [nIl (by omega) (by omega)]; exact eq_false (by omega)
      have i1 := cl_lt v9 hu9 hh hw
      have i2 : 1 + h < 4 := by omega
      have i3 : w * 3 + h < 27 := by omega
      refine hgo 20 [65, 73] 73 _ _ _ _ _ ?_
      simp only [ixr_of, run_s, run_0, rAq_leadToTown, rok_i, rok_z, bx_cons, bx_nil, eADD, eBP, eC0, eC1, eC3, eCV3, eCm1, eDIV, eDUP2, eGI, eGO, eGR, eIALD, eIAST, jICge, jICne, eINC3, eINC4, eLA0, eLA1, eLI2, eLI3, eLI4, eLI5, eLI6, eMUL, eRV, eSI2, eSI3, eSI4, eSI5, eSI6, eSUB, fAq_leadToTown_0, fAq_leadToTown_11, fAq_leadToTown_12, fAq_leadToTown_65, fAq_leadToTown_70, fAq_leadToTown_73, fAq_leadToTown_82, fAq_leadToTown_165, fAq_leadToTown_171, bAq_leadToTown_0, bAq_leadToTown_11, bAq_leadToTown_12, bAq_leadToTown_65, bAq_leadToTown_70, bAq_leadToTown_73, bAq_leadToTown_82, bAq_leadToTown_165, bAq_leadToTown_171, ln_xaqueduct_change, ln_xaqueduct_decided, ln_xaqueduct_fresh, ln_xaqueduct_sight, ln_xopinions, rg_xaqueduct_1, rg_xaqueduct_2, rg_xaqueduct_3, rg_xaqueduct_4, rg_xaqueduct_5, ty_xaqueduct, ty_xaqueduct_change, ty_xaqueduct_decided, ty_xaqueduct_fresh, ty_xaqueduct_sight, ty_xopinions, Option.toList_some, Option.toList_none, List.cons_append, List.nil_append, List.length_cons, List.length_nil, List.mem_cons, List.not_mem_nil, or_false, false_or, or_true, true_or, ↓reduceIte, true_and, and_true, Nat.reduceEqDiff, Nat.reduceAdd, Nat.reduceLeDiff, Nat.reduceLT, dl_i, dl_r, dl_n, dl_u, eq_self, not_true_eq_false, not_false_eq_true, n10, n01, nm0, n0m, ht, ty, r3, e7, e12, c1, nI_add, imp_t, imp_f]
      refine call0 (x_cell hA0 ⟨e7 _, e8 _, v9⟩ ?_)
      simp only [ixr_of, run_s, run_0, rAq_leadToTown, rok_i, rok_z, bx_cons, bx_nil, eADD, eBP, eC0, eC1, eC3, eCV3, eCm1, eDIV, eDUP2, eGI, eGO, eGR, eIALD, eIAST, jICge, jICne, eINC3, eINC4, eLA0, eLA1, eLI2, eLI3, eLI4, eLI5, eLI6, eMUL, eRV, eSI2, eSI3, eSI4, eSI5, eSI6, eSUB, fAq_leadToTown_0, fAq_leadToTown_11, fAq_leadToTown_12, fAq_leadToTown_65, fAq_leadToTown_70, fAq_leadToTown_73, fAq_leadToTown_82, fAq_leadToTown_165, fAq_leadToTown_171, bAq_leadToTown_0, bAq_leadToTown_11, bAq_leadToTown_12, bAq_leadToTown_65, bAq_leadToTown_70, bAq_leadToTown_73, bAq_leadToTown_82, bAq_leadToTown_165, bAq_leadToTown_171, ln_xaqueduct_change, ln_xaqueduct_decided, ln_xaqueduct_fresh, ln_xaqueduct_sight, ln_xopinions, rg_xaqueduct_1, rg_xaqueduct_2, rg_xaqueduct_3, rg_xaqueduct_4, rg_xaqueduct_5, ty_xaqueduct, ty_xaqueduct_change, ty_xaqueduct_decided, ty_xaqueduct_fresh, ty_xaqueduct_sight, ty_xopinions, Option.toList_some, Option.toList_none, List.cons_append, List.nil_append, List.length_cons, List.length_nil, List.mem_cons, List.not_mem_nil, or_false, false_or, or_true, true_or, ↓reduceIte, true_and, and_true, Nat.reduceEqDiff, Nat.reduceAdd, Nat.reduceLeDiff, Nat.reduceLT, dl_i, dl_r, dl_n, dl_u, eq_self, not_true_eq_false, not_false_eq_true, n10, n01, nm0, n0m, ht, ty, r3, e1, eA, eB, eC, uA, uB, uC, e13, q0, q4, q6, t1, t5, t7, l1, l5, l7, i1, i2, i3, nI_add, nI_ml, imp_t, imp_f]
      refine ⟨by decide, ?_⟩
      exact ih (w + 1) h _ _ (by omega) hh hN
  have outer : ∀ (g h : Nat) (x4 x5 x6 : Option Value), g + h = 3 → go 65 [some (.ref 3), some (.ref y), some (.int (nI (u * (1 + 3 * nV)))), some (.int (nI h)), x4, x5, x6] [] (tqH J y (thR (J (y + 1)) nV u (nI p) h Q)) E (0, 0) := by
    intro g
    induction g with
    | zero =>
      intro h x4 x5 x6 hg
      have : h = 3 := by omega
      subst this
      refine hgo 20 [65, 73] 65 _ _ _ _ _ ?_
      simp only [ixr_of, run_s, run_0, rAq_leadToTown, rok_i, rok_z, bx_cons, bx_nil, eADD, eBP, eC0, eC1, eC3, eCV3, eCm1, eDIV, eDUP2, eGI, eGO, eGR, eIALD, eIAST, jICge, jICne, eINC3, eINC4, eLA0, eLA1, eLI2, eLI3, eLI4, eLI5, eLI6, eMUL, eRV, eSI2, eSI3, eSI4, eSI5, eSI6, eSUB, fAq_leadToTown_0, fAq_leadToTown_11, fAq_leadToTown_12, fAq_leadToTown_65, fAq_leadToTown_70, fAq_leadToTown_73, fAq_leadToTown_82, fAq_leadToTown_165, fAq_leadToTown_171, bAq_leadToTown_0, bAq_leadToTown_11, bAq_leadToTown_12, bAq_leadToTown_65, bAq_leadToTown_70, bAq_leadToTown_73, bAq_leadToTown_82, bAq_leadToTown_165, bAq_leadToTown_171, ln_xaqueduct_change, ln_xaqueduct_decided, ln_xaqueduct_fresh, ln_xaqueduct_sight, ln_xopinions, rg_xaqueduct_1, rg_xaqueduct_2, rg_xaqueduct_3, rg_xaqueduct_4, rg_xaqueduct_5, ty_xaqueduct, ty_xaqueduct_change, ty_xaqueduct_decided, ty_xaqueduct_fresh, ty_xaqueduct_sight, ty_xopinions, Option.toList_some, Option.toList_none, List.cons_append, List.nil_append, List.length_cons, List.length_nil, List.mem_cons, List.not_mem_nil, or_false, false_or, or_true, true_or, ↓reduceIte, true_and, and_true, Nat.reduceEqDiff, Nat.reduceAdd, Nat.reduceLeDiff, Nat.reduceLT, dl_i, dl_r, dl_n, dl_u, eq_self, not_true_eq_false, not_false_eq_true, n10, n01, nm0, n0m, imp_t, imp_f]
      exact ⟨fun _ => hk', fun z => absurd (Int32.le_refl _) z⟩
    | succ g ih =>
      intro h x4 x5 x6 hg
      have c1 : (nI 3 ≤ nI h) = False := by rw [nIl (by omega) (by omega)]; exact eq_false (by omega)
      refine hgo 20 [65, 73] 65 _ _ _ _ _ ?_
      simp only [ixr_of, run_s, run_0, rAq_leadToTown, rok_i, rok_z, bx_cons, bx_nil, eADD, eBP, eC0, eC1, eC3, eCV3, eCm1, eDIV, eDUP2, eGI, eGO, eGR, eIALD, eIAST, jICge, jICne, eINC3, eINC4, eLA0, eLA1, eLI2, eLI3, eLI4, eLI5, eLI6, eMUL, eRV, eSI2, eSI3, eSI4, eSI5, eSI6, eSUB, fAq_leadToTown_0, fAq_leadToTown_11, fAq_leadToTown_12, fAq_leadToTown_65, fAq_leadToTown_70, fAq_leadToTown_73, fAq_leadToTown_82, fAq_leadToTown_165, fAq_leadToTown_171, bAq_leadToTown_0, bAq_leadToTown_11, bAq_leadToTown_12, bAq_leadToTown_65, bAq_leadToTown_70, bAq_leadToTown_73, bAq_leadToTown_82, bAq_leadToTown_165, bAq_leadToTown_171, ln_xaqueduct_change, ln_xaqueduct_decided, ln_xaqueduct_fresh, ln_xaqueduct_sight, ln_xopinions, rg_xaqueduct_1, rg_xaqueduct_2, rg_xaqueduct_3, rg_xaqueduct_4, rg_xaqueduct_5, ty_xaqueduct, ty_xaqueduct_change, ty_xaqueduct_decided, ty_xaqueduct_fresh, ty_xaqueduct_sight, ty_xopinions, Option.toList_some, Option.toList_none, List.cons_append, List.nil_append, List.length_cons, List.length_nil, List.mem_cons, List.not_mem_nil, or_false, false_or, or_true, true_or, ↓reduceIte, true_and, and_true, Nat.reduceEqDiff, Nat.reduceAdd, Nat.reduceLeDiff, Nat.reduceLT, dl_i, dl_r, dl_n, dl_u, eq_self, not_true_eq_false, not_false_eq_true, n10, n01, nm0, n0m, c1, imp_t, imp_f]
      exact inner nV 0 h _ _ (by omega) (by omega) (fun x4 x5 x6 => ih (h + 1) x4 x5 x6 (by omega))
  refine hgo 20 [65] 0 _ _ _ _ _ ?_
  have hJ := tq_id (J := J) hy
  have o3 := outer 3 0 none none none (by omega)
  rw [show thR (J (y + 1)) nV u (nI p) 0 Q = Q from rfl, hQ] at o3
  have z4 : 0 < 4 := by decide
  rw [← hJ]
  simp only [ixr_of, run_s, run_0, rAq_leadToTown, rok_i, rok_z, bx_cons, bx_nil, eADD, eBP, eC0, eC1, eC3, eCV3, eCm1, eDIV, eDUP2, eGI, eGO, eGR, eIALD, eIAST, jICge, jICne, eINC3, eINC4, eLA0, eLA1, eLI2, eLI3, eLI4, eLI5, eLI6, eMUL, eRV, eSI2, eSI3, eSI4, eSI5, eSI6, eSUB, fAq_leadToTown_0, fAq_leadToTown_11, fAq_leadToTown_12, fAq_leadToTown_65, fAq_leadToTown_70, fAq_leadToTown_73, fAq_leadToTown_82, fAq_leadToTown_165, fAq_leadToTown_171, bAq_leadToTown_0, bAq_leadToTown_11, bAq_leadToTown_12, bAq_leadToTown_65, bAq_leadToTown_70, bAq_leadToTown_73, bAq_leadToTown_82, bAq_leadToTown_165, bAq_leadToTown_171, ln_xaqueduct_change, ln_xaqueduct_decided, ln_xaqueduct_fresh, ln_xaqueduct_sight, ln_xopinions, rg_xaqueduct_1, rg_xaqueduct_2, rg_xaqueduct_3, rg_xaqueduct_4, rg_xaqueduct_5, ty_xaqueduct, ty_xaqueduct_change, ty_xaqueduct_decided, ty_xaqueduct_fresh, ty_xaqueduct_sight, ty_xopinions, Option.toList_some, Option.toList_none, List.cons_append, List.nil_append, List.length_cons, List.length_nil, List.mem_cons, List.not_mem_nil, or_false, false_or, or_true, true_or, ↓reduceIte, true_and, and_true, Nat.reduceEqDiff, Nat.reduceAdd, Nat.reduceLeDiff, Nat.reduceLT, dl_i, dl_r, dl_n, dl_u, eq_self, not_true_eq_false, not_false_eq_true, n10, n01, nm0, n0m, ht, ty, r3, e7, e8, e12, e13, e1, eA, eB, eC, uA, uB, uC, hne, q0, q6, t1, t7, l1, l7, i0, nI_ml, imp_t, imp_f]
  exact ⟨by decide, o3⟩
theorem x_leadToTown0 (hC : AqC b E y t) (hu : J t 12 = -1) (hk : kr none J E) : Ex Γ l (shB b) (d + 2) (0, 0) mAq_leadToTown [.ref 3, .ref y] J E kr kx := by
  refine ex_of (ls0 := [some (.ref 3), some (.ref y), none, none, none, none, none]) tAq_leadToTown (by decide +kernel) kAq_leadToTown rfl (Nat.le_of_ble_eq_true rfl) rfl ?_
  intro go hgo
  obtain ⟨r3, ⟨ty, -⟩, -⟩ := hC
  refine hgo 20 [] 0 _ _ _ _ _ ?_
  simp only [ixr_of, run_s, run_0, rAq_leadToTown, rok_i, rok_z, bx_cons, bx_nil, eADD, eBP, eC0, eC1, eC3, eCV3, eCm1, eDIV, eDUP2, eGI, eGO, eGR, eIALD, eIAST, jICge, jICne, eINC3, eINC4, eLA0, eLA1, eLI2, eLI3, eLI4, eLI5, eLI6, eMUL, eRV, eSI2, eSI3, eSI4, eSI5, eSI6, eSUB, fAq_leadToTown_0, fAq_leadToTown_11, fAq_leadToTown_12, fAq_leadToTown_65, fAq_leadToTown_70, fAq_leadToTown_73, fAq_leadToTown_82, fAq_leadToTown_165, fAq_leadToTown_171, bAq_leadToTown_0, bAq_leadToTown_11, bAq_leadToTown_12, bAq_leadToTown_65, bAq_leadToTown_70, bAq_leadToTown_73, bAq_leadToTown_82, bAq_leadToTown_165, bAq_leadToTown_171, ln_xaqueduct_change, ln_xaqueduct_decided, ln_xaqueduct_fresh, ln_xaqueduct_sight, ln_xopinions, rg_xaqueduct_1, rg_xaqueduct_2, rg_xaqueduct_3, rg_xaqueduct_4, rg_xaqueduct_5, ty_xaqueduct, ty_xaqueduct_change, ty_xaqueduct_decided, ty_xaqueduct_fresh, ty_xaqueduct_sight, ty_xopinions, Option.toList_some, Option.toList_none, List.cons_append, List.nil_append, List.length_cons, List.length_nil, List.mem_cons, List.not_mem_nil, or_false, false_or, or_true, true_or, ↓reduceIte, true_and, and_true, Nat.reduceEqDiff, Nat.reduceAdd, Nat.reduceLeDiff, Nat.reduceLT, dl_i, dl_r, dl_n, dl_u, eq_self, not_true_eq_false, not_false_eq_true, n10, n01, nm0, n0m, ty, r3, hu, imp_t, imp_f]
  exact hk
/-- the change, and the gardens -/
def gaH (J : Iv) (y : Nat) (q : (Nat → Int32) × Int32) : Iv := up (sr J 16 q.1) y 12 q.2
theorem ga_a {q : (Nat → Int32) × Int32} (hy : 20 ≤ y) : gaH J y q 16 = q.1 := by
  funext k
  unfold gaH
  rw [up_n (by omega), sr_s]
theorem ga_g {q : (Nat → Int32) × Int32} : gaH J y q y 12 = q.2 := up_s
theorem ga_n {q : (Nat → Int32) × Int32} {i k : Nat} (h : i ≠ 16) (h2 : ¬ (i = y ∧ k = 12)) : gaH J y q i k = J i k := by
  unfold gaH
  rw [up_n h2, sr_n h]
theorem ga_m {q : (Nat → Int32) × Int32} {i : Nat} (h : i ≠ 16) (h2 : i ≠ y) : gaH J y q i = J i := by
  funext k
  exact ga_n h (fun z => h2 z.1)
theorem ga_ua {q : (Nat → Int32) × Int32} {k : Nat} {x : Int32} (hy : 20 ≤ y) : up (gaH J y q) 16 k x = gaH J y (ru q.1 k x, q.2) := by
  unfold gaH
  rw [up_com (by omega), up_sr]
theorem ga_ug {q : (Nat → Int32) × Int32} {x : Int32} : up (gaH J y q) y 12 x = gaH J y (q.1, x) := up_up
theorem ga_id (hy : 20 ≤ y) : gaH J y (J 16, J y 12) = J := by
  unfold gaH
  rw [sr_id]
  funext a c
  by_cases h : a = y ∧ c = 12
  · obtain ⟨rfl, rfl⟩ := h
    exact up_s
  · exact up_n h
def lgR (bas : Nat → Int32) (s : Nat) (p : Int32) : Nat → (Nat → Int32) × Int32 → (Nat → Int32) × Int32
  | 0, q => q
  | i + 1, q =>
    let o := lgR bas s p i q
    let e := bas (s + (1 + i)) * p / nI 8
    (ru o.1 (s + (1 + i)) (o.1 (s + (1 + i)) - e), o.2 + e)
def gdR (bas : Nat → Int32) (nV v : Nat) (p : Int32) (q : (Nat → Int32) × Int32) : (Nat → Int32) × Int32 := if p = nI 0 then q else
  lgR bas (v * (1 + 3 * nV)) p (3 * nV) (ru q.1 (v * (1 + 3 * nV)) (q.1 (v * (1 + 3 * nV)) - bas (v * (1 + 3 * nV)) * p / nI 8), q.2)
theorem x_leadToGardens {v : Nat} {p : Int32} (hC : AqC b E y t) (hV : DyV J y nV) (hv : v < nV) (hp : J (t + 3) v = p) (hk : kr none (gaH J y (gdR (J (y + 1)) nV v p (J 16, J y 12))) E) : Ex Γ l (shB b) (d + 1) (0, 0) mAq_leadToGardens [.ref 3, .ref y, .int (nI v)] J E kr kx := by
  refine ex_of (ls0 := [some (.ref 3), some (.ref y), some (.int (nI v)), none, none, none, none, none]) tAq_leadToGardens (by decide +kernel) kAq_leadToGardens rfl (Nat.le_of_ble_eq_true rfl) rfl ?_
  intro go hgo
  obtain ⟨r3, ⟨ty, tn⟩, ⟨ht, ⟨q0, -⟩, ⟨t1, -⟩, l1, -⟩, hy, hty, ht2, ht3⟩ := hC
  obtain ⟨v7, v8, v9⟩ := hV
  have g2 : rget (shB b) E t 2 = .ref (t + 3) := (tn 2 (by decide)).1
  have a2 : tyc (shB b) E (t + 3) = 101 := (tn 2 (by decide)).2.1
  have n2 : len (shB b) E (t + 3) = 9 := (tn 2 (by decide)).2.2
  have i9 : v < 9 := by omega
  have i0 := wa_lt v9 hv
  have e1 : ∀ q, gaH J y q (y + 1) = J (y + 1) := fun q => ga_m (by omega) (by omega)
  have e8 : ∀ q, gaH J y q y 8 = nI (1 + 3 * nV) := fun q => by rw [ga_n (by omega) (by omega)]; exact v8
  have eA : ∀ q, gaH J y q 16 = q.1 := fun q => ga_a hy
  have eG : ∀ q, gaH J y q y 12 = q.2 := fun q => ga_g
  have uA : ∀ q k x, up (gaH J y q) 16 k x = gaH J y (ru q.1 k x, q.2) := fun q k x => ga_ua hy
  have uG : ∀ q x, up (gaH J y q) y 12 x = gaH J y (q.1, x) := fun q x => ga_ug
  have ep : ∀ q, gaH J y q (t + 3) v = p := fun q => by rw [ga_m (by omega) (by omega)]; exact hp
  unfold gdR at hk
  rw [← ga_id (J := J) hy]
  refine hgo 20 [52] 0 _ _ _ _ _ ?_
  simp only [ixr_of, run_s, run_0, rAq_leadToGardens, rok_i, rok_z, bx_cons, bx_nil, eADD, eBP, eC1, eDIV, eDUP2, eDUPr, eGI, eGO, eGR, eIALD, eIAST, jICge, jIFne, eINC6, eLA0, eLA1, eLI2, eLI3, eLI4, eLI5, eLI6, eLI7, eMUL, ePI, eRV, eSI3, eSI4, eSI5, eSI6, eSI7, eSUB, fAq_leadToGardens_0, fAq_leadToGardens_14, fAq_leadToGardens_15, fAq_leadToGardens_52, fAq_leadToGardens_59, fAq_leadToGardens_108, bAq_leadToGardens_0, bAq_leadToGardens_14, bAq_leadToGardens_15, bAq_leadToGardens_52, bAq_leadToGardens_59, bAq_leadToGardens_108, ln_xaqueduct_change, ln_xaqueduct_decided, ln_xaqueduct_fresh, ln_xaqueduct_sight, ln_xopinions, rg_xaqueduct_1, rg_xaqueduct_2, rg_xaqueduct_3, rg_xaqueduct_4, rg_xaqueduct_5, ty_xaqueduct, ty_xaqueduct_change, ty_xaqueduct_decided, ty_xaqueduct_fresh, ty_xaqueduct_sight, ty_xopinions, Option.toList_some, Option.toList_none, List.cons_append, List.nil_append, List.length_cons, List.length_nil, List.mem_cons, List.not_mem_nil, or_false, false_or, or_true, true_or, ↓reduceIte, true_and, and_true, Nat.reduceEqDiff, Nat.reduceAdd, Nat.reduceLeDiff, Nat.reduceLT, dl_i, dl_r, dl_n, dl_u, eq_self, not_true_eq_false, not_false_eq_true, n10, n01, nm0, n0m, ty, r3, ht, g2, a2, n2, i9, i0, ep, e8, e1, eA, uA, q0, t1, l1, nI_ml, imp_t, imp_f]
  refine ⟨fun q => ?_, fun q => ?_⟩
  rotate_left
  · rw [if_pos q] at hk
    exact hk
  rw [if_neg q] at hk
  refine ⟨by decide, ?_⟩
  generalize (ru (J 16) (v * (1 + 3 * nV)) (J 16 (v * (1 + 3 * nV)) - J (y + 1) (v * (1 + 3 * nV)) * p / nI 8), J y 12) = Q at hk ⊢
  have loop : ∀ (g i : Nat) (x7 : Option Value), g + i = 3 * nV → go 52 [some (.ref 3), some (.ref y), some (.int (nI v)), some (.int p), some (.int (nI (1 + 3 * nV))), some (.int (nI (v * (1 + 3 * nV)))), some (.int (nI (1 + i))), x7] [] (gaH J y (lgR (J (y + 1)) (v * (1 + 3 * nV)) p i Q)) E (0, 0) := by
    intro g
    induction g with
    | zero =>
      intro i x7 hg
      have : i = 3 * nV := by omega
      subst this
      have c1 : (nI (1 + 3 * nV) ≤ nI (1 + 3 * nV)) = True := eq_true (Int32.le_refl _)
      refine hgo 20 [52] 52 _ _ _ _ _ ?_
      simp only [ixr_of, run_s, run_0, rAq_leadToGardens, rok_i, rok_z, bx_cons, bx_nil, eADD, eBP, eC1, eDIV, eDUP2, eDUPr, eGI, eGO, eGR, eIALD, eIAST, jICge, jIFne, eINC6, eLA0, eLA1, eLI2, eLI3, eLI4, eLI5, eLI6, eLI7, eMUL, ePI, eRV, eSI3, eSI4, eSI5, eSI6, eSI7, eSUB, fAq_leadToGardens_0, fAq_leadToGardens_14, fAq_leadToGardens_15, fAq_leadToGardens_52, fAq_leadToGardens_59, fAq_leadToGardens_108, bAq_leadToGardens_0, bAq_leadToGardens_14, bAq_leadToGardens_15, bAq_leadToGardens_52, bAq_leadToGardens_59, bAq_leadToGardens_108, ln_xaqueduct_change, ln_xaqueduct_decided, ln_xaqueduct_fresh, ln_xaqueduct_sight, ln_xopinions, rg_xaqueduct_1, rg_xaqueduct_2, rg_xaqueduct_3, rg_xaqueduct_4, rg_xaqueduct_5, ty_xaqueduct, ty_xaqueduct_change, ty_xaqueduct_decided, ty_xaqueduct_fresh, ty_xaqueduct_sight, ty_xopinions, Option.toList_some, Option.toList_none, List.cons_append, List.nil_append, List.length_cons, List.length_nil, List.mem_cons, List.not_mem_nil, or_false, false_or, or_true, true_or, ↓reduceIte, true_and, and_true, Nat.reduceEqDiff, Nat.reduceAdd, Nat.reduceLeDiff, Nat.reduceLT, dl_i, dl_r, dl_n, dl_u, eq_self, not_true_eq_false, not_false_eq_true, n10, n01, nm0, n0m, c1, imp_t, imp_f]
      exact hk
    | succ g ih =>
      intro i x7 hg
      have c1 : (nI (1 + 3 * nV) ≤ nI (1 + i)) = False := by rw [nIl (by omega) (by omega)]; exact eq_false (by omega)
      have i1 := blk v9 hv (show 1 + i < 1 + 3 * nV by omega)
      have hz : 1 + i + 1 = 1 + (i + 1) := by omega
      refine hgo 20 [52] 52 _ _ _ _ _ ?_
      simp only [ixr_of, run_s, run_0, rAq_leadToGardens, rok_i, rok_z, bx_cons, bx_nil, eADD, eBP, eC1, eDIV, eDUP2, eDUPr, eGI, eGO, eGR, eIALD, eIAST, jICge, jIFne, eINC6, eLA0, eLA1, eLI2, eLI3, eLI4, eLI5, eLI6, eLI7, eMUL, ePI, eRV, eSI3, eSI4, eSI5, eSI6, eSI7, eSUB, fAq_leadToGardens_0, fAq_leadToGardens_14, fAq_leadToGardens_15, fAq_leadToGardens_52, fAq_leadToGardens_59, fAq_leadToGardens_108, bAq_leadToGardens_0, bAq_leadToGardens_14, bAq_leadToGardens_15, bAq_leadToGardens_52, bAq_leadToGardens_59, bAq_leadToGardens_108, ln_xaqueduct_change, ln_xaqueduct_decided, ln_xaqueduct_fresh, ln_xaqueduct_sight, ln_xopinions, rg_xaqueduct_1, rg_xaqueduct_2, rg_xaqueduct_3, rg_xaqueduct_4, rg_xaqueduct_5, ty_xaqueduct, ty_xaqueduct_change, ty_xaqueduct_decided, ty_xaqueduct_fresh, ty_xaqueduct_sight, ty_xopinions, Option.toList_some, Option.toList_none, List.cons_append, List.nil_append, List.length_cons, List.length_nil, List.mem_cons, List.not_mem_nil, or_false, false_or, or_true, true_or, ↓reduceIte, true_and, and_true, Nat.reduceEqDiff, Nat.reduceAdd, Nat.reduceLeDiff, Nat.reduceLT, dl_i, dl_r, dl_n, dl_u, eq_self, not_true_eq_false, not_false_eq_true, n10, n01, nm0, n0m, c1, ht, q0, t1, l1, e1, eA, eG, uA, uG, i1, nI_add, imp_t, imp_f]
      refine ⟨by decide, ?_⟩
      rw [hz]
      exact ih (i + 1) _ (by omega)
  exact loop (3 * nV) 0 none (by omega)
end XAr
