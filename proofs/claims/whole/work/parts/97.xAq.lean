/-! contracts of the class, 26: the aqueduct: waters led -/
def AqC (b : Bool) (E : Ev) (y t : Nat) : Prop := rget (shB b) E 3 0 = .ref t ∧ TnA (shB b) E t ∧ DyA (shB b) E y ∧ 20 ≤ y ∧ (t + 10 < y ∨ y + 8 ≤ t) ∧ (t + 10 < 16 ∨ 20 ≤ t) ∧ 3 < t
def ldR (bas : Nat → Int32) (p : Int32) (k : Nat) : Int32 := if nI 0 < bas k then bas k * p / nI 8 else nI 0
def laR (bas : Nat → Int32) (f t : Nat) (p : Int32) : Nat → (Nat → Int32) → (Nat → Int32)
  | 0, r => r
  | i + 1, r => if nI 0 < bas (f + i) then ru (ru (laR bas f t p i r) (f + i) (laR bas f t p i r (f + i) - bas (f + i) * p / nI 8)) (t + i) (ru (laR bas f t p i r) (f + i) (laR bas f t p i r (f + i) - bas (f + i) * p / nI 8) (t + i) + bas (f + i) * p / nI 8) else laR bas f t p i r
section XAq
variable {Γ : Gm} {l : Launch} {b : Bool} {d : Nat} {J : Iv} {E : Ev} {kr : Kr} {kx : Kxx} {y t nV : Nat}
theorem blk {nV v i : Nat} (h9 : nV ≤ 9) (hv : v < nV) (hi : i < 1 + 3 * nV) : v * (1 + 3 * nV) + i < 252 := by
  have h2 : v * (1 + 3 * nV) + (1 + 3 * nV) ≤ nV * (1 + 3 * nV) := by
    have : (v + 1) * (1 + 3 * nV) ≤ nV * (1 + 3 * nV) := Nat.mul_le_mul_right _ hv
    rw [Nat.add_mul, Nat.one_mul] at this
    exact this
  have h3 : nV * (1 + 3 * nV) ≤ 9 * 28 := Nat.mul_le_mul h9 (by omega)
  omega
theorem x_leadAlong {c f g p : Nat} (hC : AqC b E y t) (hV : DyV J y nV) (hc : c < 20) (hf : J (t + 8) c = nI f) (hg : J (t + 9) c = nI g) (hp : J (t + 10) c = nI p) (hf9 : f < nV) (hg9 : g < nV) (hk : kr none (sr J 16 (laR (J (y + 1)) (f * (1 + 3 * nV)) (g * (1 + 3 * nV)) (nI p) (1 + 3 * nV) (J 16))) E) : Ex Γ l (shB b) (d + 1) (0, 0) mAq_leadAlong [.ref 3, .ref y, .int (nI c)] J E kr kx := by
  refine ex_of (ls0 := [some (.ref 3), some (.ref y), some (.int (nI c)), none, none, none, none, none, none, none]) tAq_leadAlong (by decide +kernel) kAq_leadAlong rfl (Nat.le_of_ble_eq_true rfl) rfl ?_
  intro go hgo
  obtain ⟨r3, ⟨ty, tn⟩, ⟨ht, ⟨q0, -⟩, ⟨t1, -⟩, l1, -⟩, hy, hty, ht2, ht3⟩ := hC
  obtain ⟨v7, v8, v9⟩ := hV
  have g7 : rget (shB b) E t 7 = .ref (t + 8) := (tn 7 (by decide)).1
  have g8 : rget (shB b) E t 8 = .ref (t + 9) := (tn 8 (by decide)).1
  have g9 : rget (shB b) E t 9 = .ref (t + 10) := (tn 9 (by decide)).1
  have a7 : tyc (shB b) E (t + 8) = 101 := (tn 7 (by decide)).2.1
  have a8 : tyc (shB b) E (t + 9) = 101 := (tn 8 (by decide)).2.1
  have a9 : tyc (shB b) E (t + 10) = 101 := (tn 9 (by decide)).2.1
  have n7 : len (shB b) E (t + 8) = 20 := (tn 7 (by decide)).2.2
  have n8 : len (shB b) E (t + 9) = 20 := (tn 8 (by decide)).2.2
  have n9 : len (shB b) E (t + 10) = 20 := (tn 9 (by decide)).2.2
  have eb : ∀ r, sr J 16 r (y + 1) = J (y + 1) := fun r => sr_n (by omega)
  have es : ∀ r, sr J 16 r 16 = r := fun r => sr_s
  have loop : ∀ (k i : Nat) (x8 x9 : Option Value), k + i = 1 + 3 * nV → go 45 [some (.ref 3), some (.ref y), some (.int (nI c)), some (.int (nI (1 + 3 * nV))), some (.int (nI (f * (1 + 3 * nV)))), some (.int (nI (g * (1 + 3 * nV)))), some (.int (nI p)), some (.int (nI i)), x8, x9] [] (sr J 16 (laR (J (y + 1)) (f * (1 + 3 * nV)) (g * (1 + 3 * nV)) (nI p) i (J 16))) E (0, 0) := by
    intro k
    induction k with
    | zero =>
      intro i x8 x9 hki
      have : i = 1 + 3 * nV := by omega
      subst this
      have c1 : (nI (1 + 3 * nV) ≤ nI (1 + 3 * nV)) = True := eq_true (Int32.le_refl _)
      refine hgo 20 [45] 45 _ _ _ _ _ ?_
      simp only [ixr_of, run_s, run_0, rAq_leadAlong, rok_i, rok_z, bx_cons, bx_nil, eADD, eBP, eC0, eDIV, eDUP2, eGI, eGO, eGR, eIALD, eIAST, jICge, jIFle, eINC7, eLA0, eLA1, eLI2, eLI3, eLI4, eLI5, eLI6, eLI7, eLI8, eLI9, eMUL, eRV, eSI3, eSI4, eSI5, eSI6, eSI7, eSI8, eSI9, eSUB, fAq_leadAlong_0, fAq_leadAlong_45, fAq_leadAlong_51, fAq_leadAlong_68, fAq_leadAlong_108, fAq_leadAlong_114, bAq_leadAlong_0, bAq_leadAlong_45, bAq_leadAlong_51, bAq_leadAlong_68, bAq_leadAlong_108, bAq_leadAlong_114, ln_xaqueduct_change, ln_xaqueduct_decided, ln_xaqueduct_fresh, ln_xaqueduct_sight, ln_xopinions, rg_xaqueduct_1, rg_xaqueduct_2, rg_xaqueduct_3, rg_xaqueduct_4, rg_xaqueduct_5, ty_xaqueduct, ty_xaqueduct_change, ty_xaqueduct_decided, ty_xaqueduct_fresh, ty_xaqueduct_sight, ty_xopinions, Option.toList_some, Option.toList_none, List.cons_append, List.nil_append, List.length_cons, List.length_nil, List.mem_cons, List.not_mem_nil, or_false, false_or, or_true, true_or, ↓reduceIte, true_and, and_true, Nat.reduceEqDiff, Nat.reduceAdd, Nat.reduceLeDiff, Nat.reduceLT, dl_i, dl_r, dl_n, dl_u, eq_self, not_true_eq_false, not_false_eq_true, n10, n01, nm0, n0m, c1, imp_t, imp_f]
      exact hk
    | succ k ih =>
      intro i x8 x9 hki
      have c1 : (nI (1 + 3 * nV) ≤ nI i) = False := by rw [nIl (by omega) (by omega)]; exact eq_false (by omega)
      have i1 := blk v9 hf9 (show i < 1 + 3 * nV by omega)
      have i2 := blk v9 hg9 (show i < 1 + 3 * nV by omega)
      have nxt : ∀ x8 x9, go 108 [some (.ref 3), some (.ref y), some (.int (nI c)), some (.int (nI (1 + 3 * nV))), some (.int (nI (f * (1 + 3 * nV)))), some (.int (nI (g * (1 + 3 * nV)))), some (.int (nI p)), some (.int (nI i)), x8, x9] [] (sr J 16 (laR (J (y + 1)) (f * (1 + 3 * nV)) (g * (1 + 3 * nV)) (nI p) (i + 1) (J 16))) E (0, 0) := by
        intro x8 x9
        refine hgo 20 [45] 108 _ _ _ _ _ ?_
        simp only [ixr_of, run_s, run_0, rAq_leadAlong, rok_i, rok_z, bx_cons, bx_nil, eADD, eBP, eC0, eDIV, eDUP2, eGI, eGO, eGR, eIALD, eIAST, jICge, jIFle, eINC7, eLA0, eLA1, eLI2, eLI3, eLI4, eLI5, eLI6, eLI7, eLI8, eLI9, eMUL, eRV, eSI3, eSI4, eSI5, eSI6, eSI7, eSI8, eSI9, eSUB, fAq_leadAlong_0, fAq_leadAlong_45, fAq_leadAlong_51, fAq_leadAlong_68, fAq_leadAlong_108, fAq_leadAlong_114, bAq_leadAlong_0, bAq_leadAlong_45, bAq_leadAlong_51, bAq_leadAlong_68, bAq_leadAlong_108, bAq_leadAlong_114, ln_xaqueduct_change, ln_xaqueduct_decided, ln_xaqueduct_fresh, ln_xaqueduct_sight, ln_xopinions, rg_xaqueduct_1, rg_xaqueduct_2, rg_xaqueduct_3, rg_xaqueduct_4, rg_xaqueduct_5, ty_xaqueduct, ty_xaqueduct_change, ty_xaqueduct_decided, ty_xaqueduct_fresh, ty_xaqueduct_sight, ty_xopinions, Option.toList_some, Option.toList_none, List.cons_append, List.nil_append, List.length_cons, List.length_nil, List.mem_cons, List.not_mem_nil, or_false, false_or, or_true, true_or, ↓reduceIte, true_and, and_true, Nat.reduceEqDiff, Nat.reduceAdd, Nat.reduceLeDiff, Nat.reduceLT, dl_i, dl_r, dl_n, dl_u, eq_self, not_true_eq_false, not_false_eq_true, n10, n01, nm0, n0m, nI_add, imp_t, imp_f]
        exact ih (i + 1) x8 x9 (by omega)
      refine hgo 20 [45, 108] 45 _ _ _ _ _ ?_
      simp only [ixr_of, run_s, run_0, rAq_leadAlong, rok_i, rok_z, bx_cons, bx_nil, eADD, eBP, eC0, eDIV, eDUP2, eGI, eGO, eGR, eIALD, eIAST, jICge, jIFle, eINC7, eLA0, eLA1, eLI2, eLI3, eLI4, eLI5, eLI6, eLI7, eLI8, eLI9, eMUL, eRV, eSI3, eSI4, eSI5, eSI6, eSI7, eSI8, eSI9, eSUB, fAq_leadAlong_0, fAq_leadAlong_45, fAq_leadAlong_51, fAq_leadAlong_68, fAq_leadAlong_108, fAq_leadAlong_114, bAq_leadAlong_0, bAq_leadAlong_45, bAq_leadAlong_51, bAq_leadAlong_68, bAq_leadAlong_108, bAq_leadAlong_114, ln_xaqueduct_change, ln_xaqueduct_decided, ln_xaqueduct_fresh, ln_xaqueduct_sight, ln_xopinions, rg_xaqueduct_1, rg_xaqueduct_2, rg_xaqueduct_3, rg_xaqueduct_4, rg_xaqueduct_5, ty_xaqueduct, ty_xaqueduct_change, ty_xaqueduct_decided, ty_xaqueduct_fresh, ty_xaqueduct_sight, ty_xopinions, Option.toList_some, Option.toList_none, List.cons_append, List.nil_append, List.length_cons, List.length_nil, List.mem_cons, List.not_mem_nil, or_false, false_or, or_true, true_or, ↓reduceIte, true_and, and_true, Nat.reduceEqDiff, Nat.reduceAdd, Nat.reduceLeDiff, Nat.reduceLT, dl_i, dl_r, dl_n, dl_u, eq_self, not_true_eq_false, not_false_eq_true, n10, n01, nm0, n0m, c1, ht, q0, t1, l1, nI_add, i1, i2, eb, es, up_sr, imp_t, imp_f]
      refine ⟨fun q => ?_, fun q => ⟨by decide, ?_⟩⟩
      · have := nxt (some (.int (J (y + 1) (f * (1 + 3 * nV) + i)))) x9
        rw [show laR (J (y + 1)) (f * (1 + 3 * nV)) (g * (1 + 3 * nV)) (nI p) (i + 1) (J 16) = _ from if_neg (Int32.not_lt.mpr q)] at this
        exact this
      · have := nxt (some (.int (J (y + 1) (f * (1 + 3 * nV) + i)))) (some (.int (J (y + 1) (f * (1 + 3 * nV) + i) * nI p / nI 8)))
        rw [show laR (J (y + 1)) (f * (1 + 3 * nV)) (g * (1 + 3 * nV)) (nI p) (i + 1) (J 16) = _ from if_pos (Int32.not_le.mp q)] at this
        exact this
  refine hgo 20 [45] 0 _ _ _ _ _ ?_
  simp only [ixr_of, run_s, run_0, rAq_leadAlong, rok_i, rok_z, bx_cons, bx_nil, eADD, eBP, eC0, eDIV, eDUP2, eGI, eGO, eGR, eIALD, eIAST, jICge, jIFle, eINC7, eLA0, eLA1, eLI2, eLI3, eLI4, eLI5, eLI6, eLI7, eLI8, eLI9, eMUL, eRV, eSI3, eSI4, eSI5, eSI6, eSI7, eSI8, eSI9, eSUB, fAq_leadAlong_0, fAq_leadAlong_45, fAq_leadAlong_51, fAq_leadAlong_68, fAq_leadAlong_108, fAq_leadAlong_114, bAq_leadAlong_0, bAq_leadAlong_45, bAq_leadAlong_51, bAq_leadAlong_68, bAq_leadAlong_108, bAq_leadAlong_114, ln_xaqueduct_change, ln_xaqueduct_decided, ln_xaqueduct_fresh, ln_xaqueduct_sight, ln_xopinions, rg_xaqueduct_1, rg_xaqueduct_2, rg_xaqueduct_3, rg_xaqueduct_4, rg_xaqueduct_5, ty_xaqueduct, ty_xaqueduct_change, ty_xaqueduct_decided, ty_xaqueduct_fresh, ty_xaqueduct_sight, ty_xopinions, Option.toList_some, Option.toList_none, List.cons_append, List.nil_append, List.length_cons, List.length_nil, List.mem_cons, List.not_mem_nil, or_false, false_or, or_true, true_or, ↓reduceIte, true_and, and_true, Nat.reduceEqDiff, Nat.reduceAdd, Nat.reduceLeDiff, Nat.reduceLT, dl_i, dl_r, dl_n, dl_u, eq_self, not_true_eq_false, not_false_eq_true, n10, n01, nm0, n0m, ht, v8, r3, ty, g7, g8, g9, a7, a8, a9, n7, n8, n9, hf, hg, hp, hc, nI_ml, imp_t, imp_f]
  have := loop (1 + 3 * nV) 0 none none (by omega)
  rw [show laR (J (y + 1)) (f * (1 + 3 * nV)) (g * (1 + 3 * nV)) (nI p) 0 (J 16) = J 16 from rfl, sr_id] at this
  exact this
end XAq
