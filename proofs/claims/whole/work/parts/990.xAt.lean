/-! contracts of the class, 29: the aqueduct: springs, strainers -/
/-- a row of y's, and a number of y's -/
def rfH (J : Iv) (y j : Nat) (q : (Nat → Int32) × Int32) : Iv := up (sr J (y + 1) q.1) y j q.2
section Rf
variable {J : Iv} {y j k i : Nat} {q q' : (Nat → Int32) × Int32} {x : Int32}
theorem rf_a : rfH J y j q (y + 1) = q.1 := by
  funext k
  unfold rfH
  rw [up_n (by omega), sr_s]
theorem rf_g : rfH J y j q y j = q.2 := up_s
theorem rf_n (h : i ≠ y + 1) (h2 : ¬ (i = y ∧ k = j)) : rfH J y j q i k = J i k := by
  unfold rfH
  rw [up_n h2, sr_n h]
theorem rf_m (h : i ≠ y + 1) (h2 : i ≠ y) : rfH J y j q i = J i := by
  funext k
  exact rf_n h (fun z => h2 z.1)
theorem rf_ua : up (rfH J y j q) (y + 1) k x = rfH J y j (ru q.1 k x, q.2) := by
  unfold rfH
  rw [up_com (by omega), up_sr]
theorem rf_ug : up (rfH J y j q) y j x = rfH J y j (q.1, x) := up_up
theorem rf_id : rfH J y j (J (y + 1), J y j) = J := by
  unfold rfH
  rw [sr_id]
  funext a c
  by_cases h : a = y ∧ c = j
  · obtain ⟨rfl, rfl⟩ := h
    exact up_s
  · exact up_n h
theorem rf_rf : rfH (rfH J y j q) y j q' = rfH J y j q' := by
  unfold rfH
  funext a c
  by_cases h : a = y ∧ c = j
  · obtain ⟨rfl, rfl⟩ := h
    rw [up_s, up_s]
  · rw [up_n h, up_n h]
    by_cases h2 : a = y + 1
    · rw [h2, sr_s, sr_s]
    · rw [sr_n h2, sr_n h2, up_n h, sr_n h2]
end Rf
def fi1 (S : Tn) (dry : Int32) (v : Nat) (q : (Nat → Int32) × Int32) : (Nat → Int32) × Int32 :=
  let r' := ru q.1 (v * (1 + 3 * S.1.1)) (q.1 (v * (1 + 3 * S.1.1)) + nI (vz S v 1))
  if dry = nI 0 then (r', q.2) else if (loN q.2 >>> (nI 16 &&& 31) &&& nI 15) < dry then (q.1, loN q.2) else (r', loN q.2)
def fiR (S : Tn) (dry : Int32) : Nat → (Nat → Int32) × Int32 → (Nat → Int32) × Int32
  | 0, q => q
  | v + 1, q => fi1 S dry v (fiR S dry v q)
def to1 (f : Nat) (w : Nat) (q : ((Nat → Int32) × Int32) × Int32) : ((Nat → Int32) × Int32) × Int32 :=
  if nI 0 < q.2 then ((ru q.1.1 (f + w) (q.1.1 (f + w) - miI q.2 (q.1.1 (f + w))), q.1.2 + miI q.2 (q.1.1 (f + w))), q.2 - miI q.2 (q.1.1 (f + w))) else q
def toR (f : Nat) : Nat → ((Nat → Int32) × Int32) × Int32 → ((Nat → Int32) × Int32) × Int32
  | 0, q => q
  | w + 1, q => to1 f w (toR f w q)
theorem to_end {f : Nat} {q : ((Nat → Int32) × Int32) × Int32} : ∀ (g w : Nat), ¬ nI 0 < (toR f w q).2 → toR f (w + g) q = toR f w q
  | 0, _, _ => rfl
  | g + 1, w, h => by
    have ih := to_end g w h
    show to1 f (w + g) (toR f (w + g) q) = _
    rw [ih]
    exact if_neg h
section XAt
variable {Γ : Gm} {l : Launch} {b : Bool} {d : Nat} {J : Iv} {E : Ev} {kr : Kr} {kx : Kxx} {y t : Nat} {S : Tn}
theorem x_afill (hC : AqC b E y t) (hV : DyV J y S.1.1) (hX : XTn J t S) (hk : kr none (rfH J y 16 (fiR S (J y 17) S.1.1 (J (y + 1), J y 16))) E) : Ex Γ l (shB b) (d + 2) (0, 0) mAq_fill [.ref 3, .ref y] J E kr kx := by
  refine ex_of (ls0 := [some (.ref 3), some (.ref y), none]) tAq_fill (by decide +kernel) kAq_fill rfl (Nat.le_of_ble_eq_true rfl) rfl ?_
  intro go hgo
  have hA0 := hC.2.2.1
  obtain ⟨r3, ⟨ty, tn⟩, ⟨ht, ⟨q0, -⟩, ⟨t1, -⟩, l1, -⟩, hy, hty, ht2, ht3⟩ := hC
  obtain ⟨v7, v8, v9⟩ := id hV
  obtain ⟨X10, X11, X12, X13, X14, Xw, Xv, Xc⟩ := id hX
  have g1 : rget (shB b) E t 1 = .ref (t + 2) := (tn 1 (by decide)).1
  have a1 : tyc (shB b) E (t + 2) = 101 := (tn 1 (by decide)).2.1
  have n1 : len (shB b) E (t + 2) = 9 := (tn 1 (by decide)).2.2
  have e7 : ∀ q, rfH J y 16 q y 7 = nI S.1.1 := fun q => by rw [rf_n (by omega) (by omega)]; exact v7
  have e8 : ∀ q, rfH J y 16 q y 8 = nI (1 + 3 * S.1.1) := fun q => by rw [rf_n (by omega) (by omega)]; exact v8
  have e17 : ∀ q, rfH J y 16 q y 17 = J y 17 := fun q => rf_n (by omega) (by omega)
  have e16 : ∀ q, rfH J y 16 q y 16 = q.2 := fun q => rf_g
  have eA : ∀ q, rfH J y 16 q (y + 1) = q.1 := fun q => rf_a
  have uA : ∀ q k x, up (rfH J y 16 q) (y + 1) k x = rfH J y 16 (ru q.1 k x, q.2) := fun q k x => rf_ua
  have et : ∀ q, rfH J y 16 q (t + 2) = J (t + 2) := fun q => rf_m (by omega) (by omega)
  have loop : ∀ (g v : Nat), g + v = S.1.1 → go 2 [some (.ref 3), some (.ref y), some (.int (nI v))] [] (rfH J y 16 (fiR S (J y 17) v (J (y + 1), J y 16))) E (0, 0) := by
    intro g
    induction g with
    | zero =>
      intro v hg
      have : v = S.1.1 := by omega
      subst this
      have c1 : (nI S.1.1 ≤ nI S.1.1) = True := eq_true (Int32.le_refl _)
      refine hgo 20 [2] 2 _ _ _ _ _ ?_
      simp only [ixr_of, run_s, run_0, rAq_fill, rok_i, rok_z, bx_cons, bx_nil, eADD, eC0, eCV0, eDUP2, eGI, eGO, eGR, eIALD, eIAST, jICge, jIFne, eINC2, eLA0, eLA1, eLI2, eMUL, eRV, eSI2, fAq_fill_0, fAq_fill_2, fAq_fill_10, fAq_fill_17, fAq_fill_40, fAq_fill_46, bAq_fill_0, bAq_fill_2, bAq_fill_10, bAq_fill_17, bAq_fill_40, bAq_fill_46, ln_xaqueduct_change, ln_xaqueduct_decided, ln_xaqueduct_fresh, ln_xaqueduct_sight, ln_xopinions, rg_xaqueduct_1, rg_xaqueduct_2, rg_xaqueduct_3, rg_xaqueduct_4, rg_xaqueduct_5, ty_xaqueduct, ty_xaqueduct_change, ty_xaqueduct_decided, ty_xaqueduct_fresh, ty_xaqueduct_sight, ty_xopinions, Option.toList_some, Option.toList_none, List.cons_append, List.nil_append, List.length_cons, List.length_nil, List.mem_cons, List.not_mem_nil, or_false, false_or, or_true, true_or, ↓reduceIte, true_and, and_true, Nat.reduceEqDiff, Nat.reduceAdd, Nat.reduceLeDiff, Nat.reduceLT, dl_i, dl_r, dl_n, dl_u, eq_self, not_true_eq_false, not_false_eq_true, n10, n01, nm0, n0m, ht, e7, c1, imp_t, imp_f]
      exact hk
    | succ g ih =>
      intro v hg
      have hv : v < S.1.1 := by omega
      have c1 : (nI S.1.1 ≤ nI v) = False := by rw [nIl (by omega) (by omega)]; exact eq_false (by omega)
      have i9 : v < 9 := by omega
      have i1 := wa_lt v9 hv
      have x2 : J (t + 2) v = nI (vz S v 1) := (Xv v i9).1
      have ih' := ih (v + 1) (by omega)
      rw [show fiR S (J y 17) (v + 1) (J (y + 1), J y 16) = fi1 S (J y 17) v (fiR S (J y 17) v (J (y + 1), J y 16)) from rfl] at ih'
      generalize fiR S (J y 17) v (J (y + 1), J y 16) = Q at ih' ⊢
      unfold fi1 at ih'
      refine hgo 20 [2] 2 _ _ _ _ _ ?_
      simp only [ixr_of, run_s, run_0, rAq_fill, rok_i, rok_z, bx_cons, bx_nil, eADD, eC0, eCV0, eDUP2, eGI, eGO, eGR, eIALD, eIAST, jICge, jIFne, eINC2, eLA0, eLA1, eLI2, eMUL, eRV, eSI2, fAq_fill_0, fAq_fill_2, fAq_fill_10, fAq_fill_17, fAq_fill_40, fAq_fill_46, bAq_fill_0, bAq_fill_2, bAq_fill_10, bAq_fill_17, bAq_fill_40, bAq_fill_46, ln_xaqueduct_change, ln_xaqueduct_decided, ln_xaqueduct_fresh, ln_xaqueduct_sight, ln_xopinions, rg_xaqueduct_1, rg_xaqueduct_2, rg_xaqueduct_3, rg_xaqueduct_4, rg_xaqueduct_5, ty_xaqueduct, ty_xaqueduct_change, ty_xaqueduct_decided, ty_xaqueduct_fresh, ty_xaqueduct_sight, ty_xopinions, Option.toList_some, Option.toList_none, List.cons_append, List.nil_append, List.length_cons, List.length_nil, List.mem_cons, List.not_mem_nil, or_false, false_or, or_true, true_or, ↓reduceIte, true_and, and_true, Nat.reduceEqDiff, Nat.reduceAdd, Nat.reduceLeDiff, Nat.reduceLT, dl_i, dl_r, dl_n, dl_u, eq_self, not_true_eq_false, not_false_eq_true, n10, n01, nm0, n0m, ht, e7, c1, imp_t, imp_f]
      refine call0 (x_isNextDry hA0 (fun z => ?_) (fun z => ?_))
      · rw [e17] at z
        rw [if_pos z] at ih'
        simp only [ixr_of, run_s, run_0, rAq_fill, rok_i, rok_z, bx_cons, bx_nil, eADD, eC0, eCV0, eDUP2, eGI, eGO, eGR, eIALD, eIAST, jICge, jIFne, eINC2, eLA0, eLA1, eLI2, eMUL, eRV, eSI2, fAq_fill_0, fAq_fill_2, fAq_fill_10, fAq_fill_17, fAq_fill_40, fAq_fill_46, bAq_fill_0, bAq_fill_2, bAq_fill_10, bAq_fill_17, bAq_fill_40, bAq_fill_46, ln_xaqueduct_change, ln_xaqueduct_decided, ln_xaqueduct_fresh, ln_xaqueduct_sight, ln_xopinions, rg_xaqueduct_1, rg_xaqueduct_2, rg_xaqueduct_3, rg_xaqueduct_4, rg_xaqueduct_5, ty_xaqueduct, ty_xaqueduct_change, ty_xaqueduct_decided, ty_xaqueduct_fresh, ty_xaqueduct_sight, ty_xopinions, Option.toList_some, Option.toList_none, List.cons_append, List.nil_append, List.length_cons, List.length_nil, List.mem_cons, List.not_mem_nil, or_false, false_or, or_true, true_or, ↓reduceIte, true_and, and_true, Nat.reduceEqDiff, Nat.reduceAdd, Nat.reduceLeDiff, Nat.reduceLT, dl_i, dl_r, dl_n, dl_u, eq_self, not_true_eq_false, not_false_eq_true, n10, n01, nm0, n0m, ht, ty, r3, q0, t1, l1, e8, eA, uA, et, g1, a1, n1, i9, i1, x2, nI_ml, nI_add, imp_t, imp_f]
        exact ih'
      · rw [e17] at z
        rw [if_neg z] at ih'
        rw [e17, e16, rf_ug]
        by_cases z2 : (loN Q.2 >>> (nI 16 &&& 31) &&& nI 15) < J y 17
        · rw [bi_t z2]
          rw [if_pos z2] at ih'
          simp only [ixr_of, run_s, run_0, rAq_fill, rok_i, rok_z, bx_cons, bx_nil, eADD, eC0, eCV0, eDUP2, eGI, eGO, eGR, eIALD, eIAST, jICge, jIFne, eINC2, eLA0, eLA1, eLI2, eMUL, eRV, eSI2, fAq_fill_0, fAq_fill_2, fAq_fill_10, fAq_fill_17, fAq_fill_40, fAq_fill_46, bAq_fill_0, bAq_fill_2, bAq_fill_10, bAq_fill_17, bAq_fill_40, bAq_fill_46, ln_xaqueduct_change, ln_xaqueduct_decided, ln_xaqueduct_fresh, ln_xaqueduct_sight, ln_xopinions, rg_xaqueduct_1, rg_xaqueduct_2, rg_xaqueduct_3, rg_xaqueduct_4, rg_xaqueduct_5, ty_xaqueduct, ty_xaqueduct_change, ty_xaqueduct_decided, ty_xaqueduct_fresh, ty_xaqueduct_sight, ty_xopinions, Option.toList_some, Option.toList_none, List.cons_append, List.nil_append, List.length_cons, List.length_nil, List.mem_cons, List.not_mem_nil, or_false, false_or, or_true, true_or, ↓reduceIte, true_and, and_true, Nat.reduceEqDiff, Nat.reduceAdd, Nat.reduceLeDiff, Nat.reduceLT, dl_i, dl_r, dl_n, dl_u, eq_self, not_true_eq_false, not_false_eq_true, n10, n01, nm0, n0m, ht, ty, r3, q0, t1, l1, e8, eA, uA, et, g1, a1, n1, i9, i1, x2, nI_ml, nI_add, imp_t, imp_f]
          exact ih'
        · rw [bi_f z2]
          rw [if_neg z2] at ih'
          simp only [ixr_of, run_s, run_0, rAq_fill, rok_i, rok_z, bx_cons, bx_nil, eADD, eC0, eCV0, eDUP2, eGI, eGO, eGR, eIALD, eIAST, jICge, jIFne, eINC2, eLA0, eLA1, eLI2, eMUL, eRV, eSI2, fAq_fill_0, fAq_fill_2, fAq_fill_10, fAq_fill_17, fAq_fill_40, fAq_fill_46, bAq_fill_0, bAq_fill_2, bAq_fill_10, bAq_fill_17, bAq_fill_40, bAq_fill_46, ln_xaqueduct_change, ln_xaqueduct_decided, ln_xaqueduct_fresh, ln_xaqueduct_sight, ln_xopinions, rg_xaqueduct_1, rg_xaqueduct_2, rg_xaqueduct_3, rg_xaqueduct_4, rg_xaqueduct_5, ty_xaqueduct, ty_xaqueduct_change, ty_xaqueduct_decided, ty_xaqueduct_fresh, ty_xaqueduct_sight, ty_xopinions, Option.toList_some, Option.toList_none, List.cons_append, List.nil_append, List.length_cons, List.length_nil, List.mem_cons, List.not_mem_nil, or_false, false_or, or_true, true_or, ↓reduceIte, true_and, and_true, Nat.reduceEqDiff, Nat.reduceAdd, Nat.reduceLeDiff, Nat.reduceLT, dl_i, dl_r, dl_n, dl_u, eq_self, not_true_eq_false, not_false_eq_true, n10, n01, nm0, n0m, ht, ty, r3, q0, t1, l1, e8, eA, uA, et, g1, a1, n1, i9, i1, x2, nI_ml, nI_add, imp_t, imp_f]
          exact ih'
  refine hgo 20 [2] 0 _ _ _ _ _ ?_
  simp only [ixr_of, run_s, run_0, rAq_fill, rok_i, rok_z, bx_cons, bx_nil, eADD, eC0, eCV0, eDUP2, eGI, eGO, eGR, eIALD, eIAST, jICge, jIFne, eINC2, eLA0, eLA1, eLI2, eMUL, eRV, eSI2, fAq_fill_0, fAq_fill_2, fAq_fill_10, fAq_fill_17, fAq_fill_40, fAq_fill_46, bAq_fill_0, bAq_fill_2, bAq_fill_10, bAq_fill_17, bAq_fill_40, bAq_fill_46, ln_xaqueduct_change, ln_xaqueduct_decided, ln_xaqueduct_fresh, ln_xaqueduct_sight, ln_xopinions, rg_xaqueduct_1, rg_xaqueduct_2, rg_xaqueduct_3, rg_xaqueduct_4, rg_xaqueduct_5, ty_xaqueduct, ty_xaqueduct_change, ty_xaqueduct_decided, ty_xaqueduct_fresh, ty_xaqueduct_sight, ty_xopinions, Option.toList_some, Option.toList_none, List.cons_append, List.nil_append, List.length_cons, List.length_nil, List.mem_cons, List.not_mem_nil, or_false, false_or, or_true, true_or, ↓reduceIte, true_and, and_true, Nat.reduceEqDiff, Nat.reduceAdd, Nat.reduceLeDiff, Nat.reduceLT, dl_i, dl_r, dl_n, dl_u, eq_self, not_true_eq_false, not_false_eq_true, n10, n01, nm0, n0m, imp_t, imp_f]
  have := loop S.1.1 0 (by omega)
  rw [show fiR S (J y 17) 0 (J (y + 1), J y 16) = (J (y + 1), J y 16) from rfl, rf_id] at this
  exact this
theorem x_takeOut {f nV : Nat} {m : Int32} (hC : AqC b E y t) (hV : DyV J y nV) (hf : f + nV ≤ 252) (hk : kr none (rfH J y 13 (toR f nV ((J (y + 1), J y 13), m)).1) E) : Ex Γ l (shB b) (d + 1) (0, 0) mAq_takeOut [.ref 3, .ref y, .int (nI f), .int m] J E kr kx := by
  refine ex_of (ls0 := [some (.ref 3), some (.ref y), some (.int (nI f)), some (.int m), none, none, none]) tAq_takeOut (by decide +kernel) kAq_takeOut rfl (Nat.le_of_ble_eq_true rfl) rfl ?_
  intro go hgo
  obtain ⟨r3, -, ⟨ht, ⟨q0, -⟩, ⟨t1, -⟩, l1, -⟩, hy, hty, ht2, ht3⟩ := hC
  obtain ⟨v7, v8, v9⟩ := id hV
  have e7 : ∀ q, rfH J y 13 q y 7 = nI nV := fun q => by rw [rf_n (by omega) (by omega)]; exact v7
  have e13 : ∀ q, rfH J y 13 q y 13 = q.2 := fun q => rf_g
  have eA : ∀ q, rfH J y 13 q (y + 1) = q.1 := fun q => rf_a
  have uA : ∀ q k x, up (rfH J y 13 q) (y + 1) k x = rfH J y 13 (ru q.1 k x, q.2) := fun q k x => rf_ua
  have uG : ∀ q x, up (rfH J y 13 q) y 13 x = rfH J y 13 (q.1, x) := fun q x => rf_ug
  obtain ⟨Q0, hQ0⟩ : ∃ Q0, Q0 = ((J (y + 1), J y 13), m) := ⟨_, rfl⟩
  rw [← hQ0] at hk
  have loop : ∀ (g w : Nat) (x6 : Option Value), g + w = nV → go 6 [some (.ref 3), some (.ref y), some (.int (nI f)), some (.int m), some (.int (toR f w Q0).2), some (.int (nI w)), x6] [] (rfH J y 13 (toR f w Q0).1) E (0, 0) := by
    intro g
    induction g with
    | zero =>
      intro w x6 hg
      have : w = nV := by omega
      subst this
      have c1 : (nI w ≤ nI w) = True := eq_true (Int32.le_refl _)
      refine hgo 20 [6] 6 _ _ _ _ _ ?_
      simp only [ixr_of, run_s, run_0, rAq_takeOut, rok_i, rok_z, bx_cons, bx_nil, eADD, eC0, eDUP2, eDUPr, eGI, eGO, eGR, eIALD, eIAST, jICge, jIFle, eINC5, eLA1, eLI2, eLI3, eLI4, eLI5, eLI6, eMIN, ePI, eRV, eSI4, eSI5, eSI6, eSUB, fAq_takeOut_0, fAq_takeOut_6, fAq_takeOut_15, fAq_takeOut_20, fAq_takeOut_74, bAq_takeOut_0, bAq_takeOut_6, bAq_takeOut_15, bAq_takeOut_20, bAq_takeOut_74, ln_xaqueduct_change, ln_xaqueduct_decided, ln_xaqueduct_fresh, ln_xaqueduct_sight, ln_xopinions, rg_xaqueduct_1, rg_xaqueduct_2, rg_xaqueduct_3, rg_xaqueduct_4, rg_xaqueduct_5, ty_xaqueduct, ty_xaqueduct_change, ty_xaqueduct_decided, ty_xaqueduct_fresh, ty_xaqueduct_sight, ty_xopinions, Option.toList_some, Option.toList_none, List.cons_append, List.nil_append, List.length_cons, List.length_nil, List.mem_cons, List.not_mem_nil, or_false, false_or, or_true, true_or, ↓reduceIte, true_and, and_true, Nat.reduceEqDiff, Nat.reduceAdd, Nat.reduceLeDiff, Nat.reduceLT, dl_i, dl_r, dl_n, dl_u, eq_self, not_true_eq_false, not_false_eq_true, n10, n01, nm0, n0m, ht, e7, c1, imp_t, imp_f]
      exact hk
    | succ g ih =>
      intro w x6 hg
      have c1 : (nI nV ≤ nI w) = False := by rw [nIl (by omega) (by omega)]; exact eq_false (by omega)
      have i1 : f + w < 252 := by omega
      refine hgo 20 [6] 6 _ _ _ _ _ ?_
      by_cases z : nI 0 < (toR f w Q0).2
      · have c2 : ((toR f w Q0).2 ≤ nI 0) = False := eq_false (Int32.not_le.mpr z)
        have ih' := fun x6 => ih (w + 1) x6 (by omega)
        rw [show toR f (w + 1) Q0 = _ from if_pos z] at ih'
        simp only [ixr_of, run_s, run_0, rAq_takeOut, rok_i, rok_z, bx_cons, bx_nil, eADD, eC0, eDUP2, eDUPr, eGI, eGO, eGR, eIALD, eIAST, jICge, jIFle, eINC5, eLA1, eLI2, eLI3, eLI4, eLI5, eLI6, eMIN, ePI, eRV, eSI4, eSI5, eSI6, eSUB, fAq_takeOut_0, fAq_takeOut_6, fAq_takeOut_15, fAq_takeOut_20, fAq_takeOut_74, bAq_takeOut_0, bAq_takeOut_6, bAq_takeOut_15, bAq_takeOut_20, bAq_takeOut_74, ln_xaqueduct_change, ln_xaqueduct_decided, ln_xaqueduct_fresh, ln_xaqueduct_sight, ln_xopinions, rg_xaqueduct_1, rg_xaqueduct_2, rg_xaqueduct_3, rg_xaqueduct_4, rg_xaqueduct_5, ty_xaqueduct, ty_xaqueduct_change, ty_xaqueduct_decided, ty_xaqueduct_fresh, ty_xaqueduct_sight, ty_xopinions, Option.toList_some, Option.toList_none, List.cons_append, List.nil_append, List.length_cons, List.length_nil, List.mem_cons, List.not_mem_nil, or_false, false_or, or_true, true_or, ↓reduceIte, true_and, and_true, Nat.reduceEqDiff, Nat.reduceAdd, Nat.reduceLeDiff, Nat.reduceLT, dl_i, dl_r, dl_n, dl_u, eq_self, not_true_eq_false, not_false_eq_true, n10, n01, nm0, n0m, ht, e7, c1, c2, q0, t1, l1, eA, e13, uA, uG, i1, nI_add, imp_t, imp_f]
        exact ih' _
      · have c2 : ((toR f w Q0).2 ≤ nI 0) = True := eq_true (Int32.not_lt.mp z)
        simp only [ixr_of, run_s, run_0, rAq_takeOut, rok_i, rok_z, bx_cons, bx_nil, eADD, eC0, eDUP2, eDUPr, eGI, eGO, eGR, eIALD, eIAST, jICge, jIFle, eINC5, eLA1, eLI2, eLI3, eLI4, eLI5, eLI6, eMIN, ePI, eRV, eSI4, eSI5, eSI6, eSUB, fAq_takeOut_0, fAq_takeOut_6, fAq_takeOut_15, fAq_takeOut_20, fAq_takeOut_74, bAq_takeOut_0, bAq_takeOut_6, bAq_takeOut_15, bAq_takeOut_20, bAq_takeOut_74, ln_xaqueduct_change, ln_xaqueduct_decided, ln_xaqueduct_fresh, ln_xaqueduct_sight, ln_xopinions, rg_xaqueduct_1, rg_xaqueduct_2, rg_xaqueduct_3, rg_xaqueduct_4, rg_xaqueduct_5, ty_xaqueduct, ty_xaqueduct_change, ty_xaqueduct_decided, ty_xaqueduct_fresh, ty_xaqueduct_sight, ty_xopinions, Option.toList_some, Option.toList_none, List.cons_append, List.nil_append, List.length_cons, List.length_nil, List.mem_cons, List.not_mem_nil, or_false, false_or, or_true, true_or, ↓reduceIte, true_and, and_true, Nat.reduceEqDiff, Nat.reduceAdd, Nat.reduceLeDiff, Nat.reduceLT, dl_i, dl_r, dl_n, dl_u, eq_self, not_true_eq_false, not_false_eq_true, n10, n01, nm0, n0m, ht, e7, c1, c2, imp_t, imp_f]
        have := to_end (g + 1) w z
        rw [show w + (g + 1) = nV by omega] at this
        rw [← this]
        exact hk
  have := loop nV 0 none (by omega)
  rw [show toR f 0 Q0 = Q0 from rfl, hQ0] at this
  refine hgo 20 [6] 0 _ _ _ _ _ ?_
  rw [show rfH J y 13 ((J (y + 1), J y 13), m).1 = J from rf_id] at this
  simp only [ixr_of, run_s, run_0, rAq_takeOut, rok_i, rok_z, bx_cons, bx_nil, eADD, eC0, eDUP2, eDUPr, eGI, eGO, eGR, eIALD, eIAST, jICge, jIFle, eINC5, eLA1, eLI2, eLI3, eLI4, eLI5, eLI6, eMIN, ePI, eRV, eSI4, eSI5, eSI6, eSUB, fAq_takeOut_0, fAq_takeOut_6, fAq_takeOut_15, fAq_takeOut_20, fAq_takeOut_74, bAq_takeOut_0, bAq_takeOut_6, bAq_takeOut_15, bAq_takeOut_20, bAq_takeOut_74, ln_xaqueduct_change, ln_xaqueduct_decided, ln_xaqueduct_fresh, ln_xaqueduct_sight, ln_xopinions, rg_xaqueduct_1, rg_xaqueduct_2, rg_xaqueduct_3, rg_xaqueduct_4, rg_xaqueduct_5, ty_xaqueduct, ty_xaqueduct_change, ty_xaqueduct_decided, ty_xaqueduct_fresh, ty_xaqueduct_sight, ty_xopinions, Option.toList_some, Option.toList_none, List.cons_append, List.nil_append, List.length_cons, List.length_nil, List.mem_cons, List.not_mem_nil, or_false, false_or, or_true, true_or, ↓reduceIte, true_and, and_true, Nat.reduceEqDiff, Nat.reduceAdd, Nat.reduceLeDiff, Nat.reduceLT, dl_i, dl_r, dl_n, dl_u, eq_self, not_true_eq_false, not_false_eq_true, n10, n01, nm0, n0m, imp_t, imp_f]
  exact this
end XAt
