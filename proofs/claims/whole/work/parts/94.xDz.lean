/-! contracts of the class, 23: days, more -/
theorem nI_dvN {a b : Nat} (ha : a < 2147483648) (hb : b < 2147483648) (h0 : 0 < b) : nI a / nI b = nI (a / b) := by
  apply Int32.toInt_inj.mp
  have h1 : (nI a).toInt = a := Int32.toInt_ofNat_of_lt ha
  have h2 : (nI b).toInt = b := Int32.toInt_ofNat_of_lt hb
  have h3 : (nI (a / b)).toInt = ((a / b : Nat) : Int) := Int32.toInt_ofNat_of_lt (Nat.lt_of_le_of_lt (Nat.div_le_self a b) ha)
  rw [Int32.toInt_div, h1, h2, h3, ← Int.ofNat_tdiv]
  have h4 : a / b < 2147483648 := Nat.lt_of_le_of_lt (Nat.div_le_self a b) ha
  generalize a / b = c at h4 ⊢
  exact Int.bmod_eq_of_le (by omega) (by omega)
theorem acp_n {I : Iv} {s a t b c i k : Nat} (h : i ≠ t) : acp I s a t b c i k = I i k := if_neg (fun q => h q.1)
theorem acp_s {I : Iv} {s t c k : Nat} (h : k < c) : acp I s 0 t 0 c t k = I s k := by
  unfold acp
  rw [if_pos ⟨rfl, by omega, by omega⟩, Nat.sub_zero, Nat.zero_add]
section XDz
variable {Γ : Gm} {l : Launch} {sh : Sh} {d : Nat} {J : Iv} {E : Ev} {kr : Kr} {kx : Kxx} {y nV : Nat}
theorem x_sumOf {a n : Nat} (ht : tyc sh E a = 101) (hl : len sh E a = n) (hn : n < 1000) (hk : kr (some (.int (smI (J a) n))) J E) : Ex Γ l sh (d + 1) (0, 0) mDy_sumOf [.ref y, .ref a] J E kr kx := by
  refine ex_of (ls0 := [some (.ref y), some (.ref a), none, none]) tDy_sumOf (by decide +kernel) kDy_sumOf rfl (Nat.le_of_ble_eq_true rfl) rfl ?_
  intro go hgo
  have loop : ∀ (g w : Nat), g + w = n → go 4 [some (.ref y), some (.ref a), some (.int (smI (J a) w)), some (.int (nI w))] [] J E (0, 0) := by
    intro g
    induction g with
    | zero =>
      intro w hw
      have : w = n := by omega
      subst this
      have c1 : (nI w ≤ nI w) = True := eq_true (Int32.le_refl _)
      refine hgo 20 [4] 4 _ _ _ _ _ ?_
      simp only [ixr_of, run_s, run_0, rDy_sumOf, rok_i, rok_z, bx_cons, bx_nil, eADD, eALEN, eC0, eGO, eIALD, jICge, eINC3, eLA1, eLI2, eLI3, eRI, eSI2, eSI3, fDy_sumOf_0, fDy_sumOf_4, fDy_sumOf_10, fDy_sumOf_22, bDy_sumOf_0, bDy_sumOf_4, bDy_sumOf_10, bDy_sumOf_22, Option.toList_some, Option.toList_none, List.cons_append, List.nil_append, List.length_cons, List.length_nil, List.mem_cons, List.not_mem_nil, or_false, false_or, or_true, true_or, ↓reduceIte, true_and, and_true, Nat.reduceEqDiff, Nat.reduceAdd, Nat.reduceLeDiff, Nat.reduceLT, dl_i, dl_r, dl_n, dl_u, eq_self, not_true_eq_false, not_false_eq_true, n10, n01, nm0, n0m, ht, hl, c1, imp_t, imp_f]
      exact hk
    | succ g ih =>
      intro w hw
      have c1 : (nI n ≤ nI w) = False := by rw [nIl (by omega) (by omega)]; exact eq_false (by omega)
      have i1 : w < n := by omega
      refine hgo 20 [4] 4 _ _ _ _ _ ?_
      simp only [ixr_of, run_s, run_0, rDy_sumOf, rok_i, rok_z, bx_cons, bx_nil, eADD, eALEN, eC0, eGO, eIALD, jICge, eINC3, eLA1, eLI2, eLI3, eRI, eSI2, eSI3, fDy_sumOf_0, fDy_sumOf_4, fDy_sumOf_10, fDy_sumOf_22, bDy_sumOf_0, bDy_sumOf_4, bDy_sumOf_10, bDy_sumOf_22, Option.toList_some, Option.toList_none, List.cons_append, List.nil_append, List.length_cons, List.length_nil, List.mem_cons, List.not_mem_nil, or_false, false_or, or_true, true_or, ↓reduceIte, true_and, and_true, Nat.reduceEqDiff, Nat.reduceAdd, Nat.reduceLeDiff, Nat.reduceLT, dl_i, dl_r, dl_n, dl_u, eq_self, not_true_eq_false, not_false_eq_true, n10, n01, nm0, n0m, ht, hl, c1, nI_add, i1, imp_t, imp_f]
      exact ixr_n i1 (ih (w + 1) (by omega))
  refine hgo 20 [4] 0 _ _ _ _ _ ?_
  simp only [ixr_of, run_s, run_0, rDy_sumOf, rok_i, rok_z, bx_cons, bx_nil, eADD, eALEN, eC0, eGO, eIALD, jICge, eINC3, eLA1, eLI2, eLI3, eRI, eSI2, eSI3, fDy_sumOf_0, fDy_sumOf_4, fDy_sumOf_10, fDy_sumOf_22, bDy_sumOf_0, bDy_sumOf_4, bDy_sumOf_10, bDy_sumOf_22, Option.toList_some, Option.toList_none, List.cons_append, List.nil_append, List.length_cons, List.length_nil, List.mem_cons, List.not_mem_nil, or_false, false_or, or_true, true_or, ↓reduceIte, true_and, and_true, Nat.reduceEqDiff, Nat.reduceAdd, Nat.reduceLeDiff, Nat.reduceLT, dl_i, dl_r, dl_n, dl_u, eq_self, not_true_eq_false, not_false_eq_true, n10, n01, nm0, n0m, imp_t, imp_f]
  exact loop n 0 (by omega)
theorem x_isPleased {v : Nat} (hA : DyA sh E y) (hk : kr (some (.int (bi (J y 10 >>> (nI v &&& 31) &&& nI 1 = nI 1)))) J E) : Ex Γ l sh (d + 1) (0, 0) mDy_isPleased [.ref y, .int (nI v)] J E kr kx := by
  refine ex_of (ls0 := [some (.ref y), some (.int (nI v))]) tDy_isPleased (by decide +kernel) kDy_isPleased rfl (Nat.le_of_ble_eq_true rfl) rfl ?_
  intro go hgo
  have ht := hA.1
  refine hgo 20 [] 0 _ _ _ _ _ ?_
  simp only [ixr_of, run_s, run_0, rDy_isPleased, rok_i, rok_z, bx_cons, bx_nil, eAND, eC0, eC1, eGI, eGO, jICne, eLA0, eLI1, eRI, eSHR, fDy_isPleased_0, fDy_isPleased_12, fDy_isPleased_16, fDy_isPleased_17, bDy_isPleased_0, bDy_isPleased_12, bDy_isPleased_16, bDy_isPleased_17, Option.toList_some, Option.toList_none, List.cons_append, List.nil_append, List.length_cons, List.length_nil, List.mem_cons, List.not_mem_nil, or_false, false_or, or_true, true_or, ↓reduceIte, true_and, and_true, Nat.reduceEqDiff, Nat.reduceAdd, Nat.reduceLeDiff, Nat.reduceLT, dl_i, dl_r, dl_n, dl_u, eq_self, not_true_eq_false, not_false_eq_true, n10, n01, nm0, n0m, ht, imp_t, imp_f]
  refine ⟨fun q => ?_, fun q => ?_⟩
  · rw [bi_f q] at hk; exact hk
  · rw [bi_t q] at hk; exact hk
theorem x_isContrary {v : Nat} (hA : DyA sh E y) (hk : kr (some (.int (bi (J y 11 >>> (nI v &&& 31) &&& nI 1 = nI 1)))) J E) : Ex Γ l sh (d + 1) (0, 0) mDy_isContrary [.ref y, .int (nI v)] J E kr kx := by
  refine ex_of (ls0 := [some (.ref y), some (.int (nI v))]) tDy_isContrary (by decide +kernel) kDy_isContrary rfl (Nat.le_of_ble_eq_true rfl) rfl ?_
  intro go hgo
  have ht := hA.1
  refine hgo 20 [] 0 _ _ _ _ _ ?_
  simp only [ixr_of, run_s, run_0, rDy_isContrary, rok_i, rok_z, bx_cons, bx_nil, eAND, eC0, eC1, eGI, eGO, jICne, eLA0, eLI1, eRI, eSHR, fDy_isContrary_0, fDy_isContrary_12, fDy_isContrary_16, fDy_isContrary_17, bDy_isContrary_0, bDy_isContrary_12, bDy_isContrary_16, bDy_isContrary_17, Option.toList_some, Option.toList_none, List.cons_append, List.nil_append, List.length_cons, List.length_nil, List.mem_cons, List.not_mem_nil, or_false, false_or, or_true, true_or, ↓reduceIte, true_and, and_true, Nat.reduceEqDiff, Nat.reduceAdd, Nat.reduceLeDiff, Nat.reduceLT, dl_i, dl_r, dl_n, dl_u, eq_self, not_true_eq_false, not_false_eq_true, n10, n01, nm0, n0m, ht, imp_t, imp_f]
  refine ⟨fun q => ?_, fun q => ?_⟩
  · rw [bi_f q] at hk; exact hk
  · rw [bi_t q] at hk; exact hk
theorem ush {x : Int32} : (x.toUInt32 >>> ((nI 16).toUInt32 &&& Int32.toUInt32 31)).toInt32 &&& nI 15 = x >>> (nI 16 &&& 31) &&& nI 15 := by
  have e1 : (x.toUInt32 >>> ((nI 16).toUInt32 &&& Int32.toUInt32 31)).toInt32.toBitVec = x.toBitVec >>> 16 := rfl
  have e2 : (x >>> (nI 16 &&& 31)).toBitVec = x.toBitVec.sshiftRight 16 := rfl
  apply Int32.toBitVec_inj.mp
  rw [Int32.toBitVec_and, Int32.toBitVec_and, e1, e2]
  apply BitVec.eq_of_getLsbD_eq
  intro i hi
  rw [BitVec.getLsbD_and, BitVec.getLsbD_and]
  by_cases h : i < 4
  · rw [BitVec.getLsbD_ushiftRight, BitVec.getLsbD_sshiftRight]
    have h1 : ¬ 32 ≤ i := by omega
    have h2 : 16 + i < 32 := by omega
    simp only [h1, h2, decide_false, Bool.not_false, Bool.true_and, if_true]
  · have : (nI 15).toBitVec.getLsbD i = false := by
      have : ∀ i, i < 32 → ¬ i < 4 → (nI 15).toBitVec.getLsbD i = false := by decide
      exact this i hi h
    rw [this, Bool.and_false, Bool.and_false]
/-- the lot drawn -/
def loN (x : Int32) : Int32 := x * nI 1103515245 + nI 12345
theorem x_isNextDry (hA : DyA sh E y) (h0 : J y 17 = nI 0 → kr (some (.int (nI 0))) J E) (h1 : ¬ J y 17 = nI 0 → kr (some (.int (bi ((loN (J y 16) >>> (nI 16 &&& 31) &&& nI 15) < J y 17)))) (up J y 16 (loN (J y 16))) E) : Ex Γ l sh (d + 1) (0, 0) mDy_isNextDry [.ref y] J E kr kx := by
  refine ex_of (ls0 := [some (.ref y)]) tDy_isNextDry (by decide +kernel) kDy_isNextDry rfl (Nat.le_of_ble_eq_true rfl) rfl ?_
  intro go hgo
  have ht := hA.1
  have e16 : ∀ x, up J y 16 x y 16 = x := fun x => up_s
  have e17 : ∀ x, up J y 16 x y 17 = J y 17 := fun x => up_n (by omega)
  refine hgo 20 [] 0 _ _ _ _ _ ?_
  simp only [ixr_of, run_s, run_0, rDy_isNextDry, rok_i, rok_z, bx_cons, bx_nil, eADD, eAND, eBP, eC0, eC1, eGI, eGO, jICge, jIFne, eLA0, eLDC, eMUL, ePI, eRI, eSP, eUSHR, fDy_isNextDry_0, fDy_isNextDry_7, fDy_isNextDry_9, fDy_isNextDry_41, fDy_isNextDry_45, fDy_isNextDry_46, bDy_isNextDry_0, bDy_isNextDry_7, bDy_isNextDry_9, bDy_isNextDry_41, bDy_isNextDry_45, bDy_isNextDry_46, Option.toList_some, Option.toList_none, List.cons_append, List.nil_append, List.length_cons, List.length_nil, List.mem_cons, List.not_mem_nil, or_false, false_or, or_true, true_or, ↓reduceIte, true_and, and_true, Nat.reduceEqDiff, Nat.reduceAdd, Nat.reduceLeDiff, Nat.reduceLT, dl_i, dl_r, dl_n, dl_u, eq_self, not_true_eq_false, not_false_eq_true, n10, n01, nm0, n0m, ht, e16, e17, imp_t, imp_f]
  rw [ush]
  refine ⟨fun q => ?_, h0⟩
  unfold loN at h1
  have hk := h1 q
  refine ⟨fun q2 => ?_, fun q2 => ?_⟩
  · rw [bi_f (Int32.not_lt.mpr q2)] at hk; exact hk
  · rw [bi_t (Int32.not_le.mp q2)] at hk; exact hk
theorem x_pastCell {v : Nat} {x : Int32} {n : Nat} (hx : mxI (nI 0) x = nI n) (hn : n < 2147483648) (hk : kr (some (.int (nI ((n % 5 * 9 + v) * 4)))) J E) : Ex Γ l sh (d + 1) (0, 0) mDy_pastCell [.ref y, .int (nI v), .int x] J E kr kx := by
  refine ex_of (ls0 := [some (.ref y), some (.int (nI v)), some (.int x)]) tDy_pastCell (by decide +kernel) kDy_pastCell rfl (Nat.le_of_ble_eq_true rfl) rfl ?_
  intro go hgo
  refine hgo 20 [] 0 _ _ _ _ _ ?_
  simp only [ixr_of, run_s, run_0, rDy_pastCell, rok_i, rok_z, bx_cons, bx_nil, eADD, eBP, eC0, eC4, eC5, eLI1, eLI2, eMAX, eMUL, eREM, eRI, fDy_pastCell_0, bDy_pastCell_0, Option.toList_some, Option.toList_none, List.cons_append, List.nil_append, List.length_cons, List.length_nil, List.mem_cons, List.not_mem_nil, or_false, false_or, or_true, true_or, ↓reduceIte, true_and, and_true, Nat.reduceEqDiff, Nat.reduceAdd, Nat.reduceLeDiff, Nat.reduceLT, dl_i, dl_r, dl_n, dl_u, eq_self, not_true_eq_false, not_false_eq_true, n10, n01, nm0, n0m, hx, imp_t, imp_f]
  refine ⟨by decide, ?_⟩
  have e : nI n - nI n / nI 5 * nI 5 = nI (n % 5) := by
    rw [nI_dvN hn (by decide) (by decide), nI_ml, nI_sb (Nat.div_mul_le_self n 5)]
    congr 1
    omega
  rw [e, nI_ml, nI_add, nI_ml]
  exact hk
theorem x_seen (hA : DyA sh E y) (hk : kr (some (.int (vwI (fun k => J (y + 7) (k - 497))))) J E) : Ex Γ l sh (d + 1) (0, 0) mDy_seen [.ref y] J E kr kx := by
  refine ex_of (ls0 := [some (.ref y), none, none]) tDy_seen (by decide +kernel) kDy_seen rfl (Nat.le_of_ble_eq_true rfl) rfl ?_
  intro go hgo
  obtain ⟨ht, ⟨-, -, -, -, -, -, q6⟩, ⟨-, -, -, -, -, -, t7⟩, -, -, -, -, -, -, l7⟩ := hA
  have step : ∀ (h : Nat) (a : Int32), h < 3 → go 4 [some (.ref y), some (.int (a ||| (if nI 0 < J (y + 7) (1 + h) then nI 1 <<< (nI h &&& 31) else nI 0))), some (.int (nI (h + 1)))] [] J E (0, 0) → go 4 [some (.ref y), some (.int a), some (.int (nI h))] [] J E (0, 0) := by
    intro h a hh hg
    have c1 : (nI 3 ≤ nI h) = False := by rw [nIl (by omega) (by omega)]; exact eq_false (by omega)
    have i1 : 1 + h < 4 := by omega
    refine hgo 20 [4] 4 _ _ _ _ _ ?_
    simp only [ixr_of, run_s, run_0, rDy_seen, rok_i, rok_z, bx_cons, bx_nil, eADD, eC0, eC1, eC3, eGO, eGR, eIALD, jICge, jIFle, eINC2, eLA0, eLI1, eLI2, eOR, eRI, eSHL, eSI1, eSI2, fDy_seen_0, fDy_seen_4, fDy_seen_9, fDy_seen_21, fDy_seen_27, fDy_seen_28, fDy_seen_36, bDy_seen_0, bDy_seen_4, bDy_seen_9, bDy_seen_21, bDy_seen_27, bDy_seen_28, bDy_seen_36, Option.toList_some, Option.toList_none, List.cons_append, List.nil_append, List.length_cons, List.length_nil, List.mem_cons, List.not_mem_nil, or_false, false_or, or_true, true_or, ↓reduceIte, true_and, and_true, Nat.reduceEqDiff, Nat.reduceAdd, Nat.reduceLeDiff, Nat.reduceLT, dl_i, dl_r, dl_n, dl_u, eq_self, not_true_eq_false, not_false_eq_true, n10, n01, nm0, n0m, ht, q6, t7, l7, c1, nI_add, i1, imp_t, imp_f]
    refine ⟨fun q => ?_, fun q => ?_⟩
    · rw [if_neg (Int32.not_lt.mpr q)] at hg; exact hg
    · rw [if_pos (Int32.not_le.mp q)] at hg; exact hg
  refine hgo 20 [4] 0 _ _ _ _ _ ?_
  simp only [ixr_of, run_s, run_0, rDy_seen, rok_i, rok_z, bx_cons, bx_nil, eADD, eC0, eC1, eC3, eGO, eGR, eIALD, jICge, jIFle, eINC2, eLA0, eLI1, eLI2, eOR, eRI, eSHL, eSI1, eSI2, fDy_seen_0, fDy_seen_4, fDy_seen_9, fDy_seen_21, fDy_seen_27, fDy_seen_28, fDy_seen_36, bDy_seen_0, bDy_seen_4, bDy_seen_9, bDy_seen_21, bDy_seen_27, bDy_seen_28, bDy_seen_36, Option.toList_some, Option.toList_none, List.cons_append, List.nil_append, List.length_cons, List.length_nil, List.mem_cons, List.not_mem_nil, or_false, false_or, or_true, true_or, ↓reduceIte, true_and, and_true, Nat.reduceEqDiff, Nat.reduceAdd, Nat.reduceLeDiff, Nat.reduceLT, dl_i, dl_r, dl_n, dl_u, eq_self, not_true_eq_false, not_false_eq_true, n10, n01, nm0, n0m, imp_t, imp_f]
  refine step 0 _ (by decide) (step 1 _ (by decide) (step 2 _ (by decide) ?_))
  refine hgo 20 [4] 4 _ _ _ _ _ ?_
  simp only [ixr_of, run_s, run_0, rDy_seen, rok_i, rok_z, bx_cons, bx_nil, eADD, eC0, eC1, eC3, eGO, eGR, eIALD, jICge, jIFle, eINC2, eLA0, eLI1, eLI2, eOR, eRI, eSHL, eSI1, eSI2, fDy_seen_0, fDy_seen_4, fDy_seen_9, fDy_seen_21, fDy_seen_27, fDy_seen_28, fDy_seen_36, bDy_seen_0, bDy_seen_4, bDy_seen_9, bDy_seen_21, bDy_seen_27, bDy_seen_28, bDy_seen_36, Option.toList_some, Option.toList_none, List.cons_append, List.nil_append, List.length_cons, List.length_nil, List.mem_cons, List.not_mem_nil, or_false, false_or, or_true, true_or, ↓reduceIte, true_and, and_true, Nat.reduceEqDiff, Nat.reduceAdd, Nat.reduceLeDiff, Nat.reduceLT, dl_i, dl_r, dl_n, dl_u, eq_self, not_true_eq_false, not_false_eq_true, n10, n01, nm0, n0m, imp_t, imp_f]
  exact ⟨fun _ => hk, fun q => absurd (Int32.le_refl _) q⟩
/-- the days z copied to y -/
def CpD (J K : Iv) (y z : Nat) : Prop := (∀ i, ¬ (y ≤ i ∧ i < y + 8) → K i = J i) ∧ (∀ j, 7 ≤ j → j < 18 → K y j = J z j) ∧ (∀ k, k < 252 → K (y + 1) k = J (z + 1) k) ∧ (∀ k, k < 180 → K (y + 2) k = J (z + 2) k) ∧ (∀ k, k < 9 → K (y + 3) k = J (z + 3) k) ∧ (∀ k, k < 27 → K (y + 4) k = J (z + 4) k) ∧ (∀ k, k < 27 → K (y + 5) k = J (z + 5) k) ∧ (∀ k, k < 9 → K (y + 6) k = J (z + 6) k) ∧ (∀ k, k < 4 → K (y + 7) k = J (z + 7) k)
theorem x_copyFrom {z : Nat} (hA : DyA sh E y) (hZ : DyA sh E z) (hyz : y + 8 ≤ z ∨ z + 8 ≤ y) (hk : ∀ K, CpD J K y z → kr none K E) : Ex Γ l sh (d + 1) (0, 0) mDy_copyFrom [.ref y, .ref z] J E kr kx := by
  refine ex_of (ls0 := [some (.ref y), some (.ref z)]) tDy_copyFrom (by decide +kernel) kDy_copyFrom rfl (Nat.le_of_ble_eq_true rfl) rfl ?_
  intro go hgo
  obtain ⟨ht, ⟨q0, q1, q2, q3, q4, q5, q6⟩, ⟨t1, t2, t3, t4, t5, t6, t7⟩, l1, l2, l3, l4, l5, l6, l7⟩ := hA
  obtain ⟨zt, ⟨z0, z1, z2, z3, z4, z5, z6⟩, ⟨s1, s2, s3, s4, s5, s6, s7⟩, m1, m2, m3, m4, m5, m6, m7⟩ := hZ
  have u1 : ∀ (I : Iv) (j : Nat) (x : Int32) (k : Nat), up I y j x z k = I z k := fun I j x k => up_n (by omega)
  have a1 : ∀ (I : Iv) (s a b c k : Nat), acp I s a (y + 1) b c z k = I z k := fun I s a b c k => acp_n (by omega)
  have a2 : ∀ (I : Iv) (s a b c k : Nat), acp I s a (y + 2) b c z k = I z k := fun I s a b c k => acp_n (by omega)
  have a3 : ∀ (I : Iv) (s a b c k : Nat), acp I s a (y + 3) b c z k = I z k := fun I s a b c k => acp_n (by omega)
  have a4 : ∀ (I : Iv) (s a b c k : Nat), acp I s a (y + 4) b c z k = I z k := fun I s a b c k => acp_n (by omega)
  have a5 : ∀ (I : Iv) (s a b c k : Nat), acp I s a (y + 5) b c z k = I z k := fun I s a b c k => acp_n (by omega)
  have a6 : ∀ (I : Iv) (s a b c k : Nat), acp I s a (y + 6) b c z k = I z k := fun I s a b c k => acp_n (by omega)
  have a7 : ∀ (I : Iv) (s a b c k : Nat), acp I s a (y + 7) b c z k = I z k := fun I s a b c k => acp_n (by omega)
  refine hgo 20 [] 0 _ _ _ _ _ ?_
  simp only [ixr_of, run_s, run_0, rDy_copyFrom, rok_i, rok_z, bx_cons, bx_nil, eACP, eALEN, eC0, eGI, eGR, eLA0, eLA1, ePI, eRV, fDy_copyFrom_0, bDy_copyFrom_0, Option.toList_some, Option.toList_none, List.cons_append, List.nil_append, List.length_cons, List.length_nil, List.mem_cons, List.not_mem_nil, or_false, false_or, or_true, true_or, ↓reduceIte, true_and, and_true, Nat.reduceEqDiff, Nat.reduceAdd, Nat.reduceLeDiff, Nat.reduceLT, dl_i, dl_r, dl_n, dl_u, eq_self, not_true_eq_false, not_false_eq_true, n10, n01, nm0, n0m, ht, q0, q1, q2, q3, q4, q5, q6, t1, t2, t3, t4, t5, t6, t7, l1, l2, l3, l4, l5, l6, l7, zt, z0, z1, z2, z3, z4, z5, z6, s1, s2, s3, s4, s5, s6, s7, m1, m2, m3, m4, m5, m6, m7, u1, a1, a2, a3, a4, a5, a6, a7, imp_t, imp_f]
  refine acr_n (by decide) (by decide) (acr_n (by decide) (by decide) (acr_n (by decide) (by decide) (acr_n (by decide) (by decide) (acr_n (by decide) (by decide) (acr_n (by decide) (by decide) (acr_n (by decide) (by decide) ?_))))))
  have hA0 : ∀ i, ¬ (y < i ∧ i < y + 8) → acp (acp (acp (acp (acp (acp (acp J (z + 1) 0 (y + 1) 0 252) (z + 2) 0 (y + 2) 0 180) (z + 3) 0 (y + 3) 0 9) (z + 4) 0 (y + 4) 0 27) (z + 5) 0 (y + 5) 0 27) (z + 6) 0 (y + 6) 0 9) (z + 7) 0 (y + 7) 0 4 i = J i := by
    intro i hi
    funext k
    rw [acp_n (by omega), acp_n (by omega), acp_n (by omega), acp_n (by omega), acp_n (by omega), acp_n (by omega), acp_n (by omega)]
  have hA1 : ∀ k, k < 252 → acp (acp (acp (acp (acp (acp (acp J (z + 1) 0 (y + 1) 0 252) (z + 2) 0 (y + 2) 0 180) (z + 3) 0 (y + 3) 0 9) (z + 4) 0 (y + 4) 0 27) (z + 5) 0 (y + 5) 0 27) (z + 6) 0 (y + 6) 0 9) (z + 7) 0 (y + 7) 0 4 (y + 1) k = J (z + 1) k := by
    intro k hk
    rw [acp_n (by omega), acp_n (by omega), acp_n (by omega), acp_n (by omega), acp_n (by omega), acp_n (by omega), acp_s hk]
  have hA2 : ∀ k, k < 180 → acp (acp (acp (acp (acp (acp (acp J (z + 1) 0 (y + 1) 0 252) (z + 2) 0 (y + 2) 0 180) (z + 3) 0 (y + 3) 0 9) (z + 4) 0 (y + 4) 0 27) (z + 5) 0 (y + 5) 0 27) (z + 6) 0 (y + 6) 0 9) (z + 7) 0 (y + 7) 0 4 (y + 2) k = J (z + 2) k := by
    intro k hk
    rw [acp_n (by omega), acp_n (by omega), acp_n (by omega), acp_n (by omega), acp_n (by omega), acp_s hk, acp_n (by omega)]
  have hA3 : ∀ k, k < 9 → acp (acp (acp (acp (acp (acp (acp J (z + 1) 0 (y + 1) 0 252) (z + 2) 0 (y + 2) 0 180) (z + 3) 0 (y + 3) 0 9) (z + 4) 0 (y + 4) 0 27) (z + 5) 0 (y + 5) 0 27) (z + 6) 0 (y + 6) 0 9) (z + 7) 0 (y + 7) 0 4 (y + 3) k = J (z + 3) k := by
    intro k hk
    rw [acp_n (by omega), acp_n (by omega), acp_n (by omega), acp_n (by omega), acp_s hk, acp_n (by omega), acp_n (by omega)]
  have hA4 : ∀ k, k < 27 → acp (acp (acp (acp (acp (acp (acp J (z + 1) 0 (y + 1) 0 252) (z + 2) 0 (y + 2) 0 180) (z + 3) 0 (y + 3) 0 9) (z + 4) 0 (y + 4) 0 27) (z + 5) 0 (y + 5) 0 27) (z + 6) 0 (y + 6) 0 9) (z + 7) 0 (y + 7) 0 4 (y + 4) k = J (z + 4) k := by
    intro k hk
    rw [acp_n (by omega), acp_n (by omega), acp_n (by omega), acp_s hk, acp_n (by omega), acp_n (by omega), acp_n (by omega)]
  have hA5 : ∀ k, k < 27 → acp (acp (acp (acp (acp (acp (acp J (z + 1) 0 (y + 1) 0 252) (z + 2) 0 (y + 2) 0 180) (z + 3) 0 (y + 3) 0 9) (z + 4) 0 (y + 4) 0 27) (z + 5) 0 (y + 5) 0 27) (z + 6) 0 (y + 6) 0 9) (z + 7) 0 (y + 7) 0 4 (y + 5) k = J (z + 5) k := by
    intro k hk
    rw [acp_n (by omega), acp_n (by omega), acp_s hk, acp_n (by omega), acp_n (by omega), acp_n (by omega), acp_n (by omega)]
  have hA6 : ∀ k, k < 9 → acp (acp (acp (acp (acp (acp (acp J (z + 1) 0 (y + 1) 0 252) (z + 2) 0 (y + 2) 0 180) (z + 3) 0 (y + 3) 0 9) (z + 4) 0 (y + 4) 0 27) (z + 5) 0 (y + 5) 0 27) (z + 6) 0 (y + 6) 0 9) (z + 7) 0 (y + 7) 0 4 (y + 6) k = J (z + 6) k := by
    intro k hk
    rw [acp_n (by omega), acp_s hk, acp_n (by omega), acp_n (by omega), acp_n (by omega), acp_n (by omega), acp_n (by omega)]
  have hA7 : ∀ k, k < 4 → acp (acp (acp (acp (acp (acp (acp J (z + 1) 0 (y + 1) 0 252) (z + 2) 0 (y + 2) 0 180) (z + 3) 0 (y + 3) 0 9) (z + 4) 0 (y + 4) 0 27) (z + 5) 0 (y + 5) 0 27) (z + 6) 0 (y + 6) 0 9) (z + 7) 0 (y + 7) 0 4 (y + 7) k = J (z + 7) k := by
    intro k hk
    rw [acp_s hk, acp_n (by omega), acp_n (by omega), acp_n (by omega), acp_n (by omega), acp_n (by omega), acp_n (by omega)]
  generalize acp (acp (acp (acp (acp (acp (acp J (z + 1) 0 (y + 1) 0 252) (z + 2) 0 (y + 2) 0 180) (z + 3) 0 (y + 3) 0 9) (z + 4) 0 (y + 4) 0 27) (z + 5) 0 (y + 5) 0 27) (z + 6) 0 (y + 6) 0 9) (z + 7) 0 (y + 7) 0 4 = A at *
  refine hk _ ⟨fun i hi => ?_, fun j h7 h18 => ?_, fun k hk => ?_, fun k hk => ?_, fun k hk => ?_, fun k hk => ?_, fun k hk => ?_, fun k hk => ?_, fun k hk => ?_⟩
  · rw [← hA0 i (by omega)]
    funext k
    iterate 11 rw [up_n (by omega)]
  · have hj : j = 7 ∨ j = 8 ∨ j = 9 ∨ j = 10 ∨ j = 11 ∨ j = 12 ∨ j = 13 ∨ j = 14 ∨ j = 15 ∨ j = 16 ∨ j = 17 := by omega
    rcases hj with rfl | rfl | rfl | rfl | rfl | rfl | rfl | rfl | rfl | rfl | rfl
    · iterate 10 rw [up_n (by omega)]
      exact up_s
    · iterate 9 rw [up_n (by omega)]
      exact up_s
    · iterate 8 rw [up_n (by omega)]
      exact up_s
    · iterate 7 rw [up_n (by omega)]
      exact up_s
    · iterate 6 rw [up_n (by omega)]
      exact up_s
    · iterate 5 rw [up_n (by omega)]
      exact up_s
    · iterate 4 rw [up_n (by omega)]
      exact up_s
    · iterate 3 rw [up_n (by omega)]
      exact up_s
    · iterate 2 rw [up_n (by omega)]
      exact up_s
    · iterate 1 rw [up_n (by omega)]
      exact up_s
    · skip
      exact up_s
  · rw [← hA1 k hk]
    iterate 11 rw [up_n (by omega)]
  · rw [← hA2 k hk]
    iterate 11 rw [up_n (by omega)]
  · rw [← hA3 k hk]
    iterate 11 rw [up_n (by omega)]
  · rw [← hA4 k hk]
    iterate 11 rw [up_n (by omega)]
  · rw [← hA5 k hk]
    iterate 11 rw [up_n (by omega)]
  · rw [← hA6 k hk]
    iterate 11 rw [up_n (by omega)]
  · rw [← hA7 k hk]
    iterate 11 rw [up_n (by omega)]
end XDz
