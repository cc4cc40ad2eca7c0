/-! contracts of HerbWatersModel, 10: days on -/
def plB (I : Iv) (v : Nat) : Bool := decide (I 500000 41 >>> (nI v &&& 31) &&& nI 1 = nI 0) && (decide (I 500000 46 = -1) || decide (I 500000 46 = nI v))
def coB (I : Iv) (v : Nat) : Bool := decide (I 500000 42 >>> (nI v &&& 31) &&& nI 1 = nI 1)
theorem plB_i {I : Iv} (v : Nat) : plB I v = true ↔ plF I v := by simp [plB, plF]
theorem coB_i {I : Iv} (v : Nat) : coB I v = true ↔ coF I v := by simp [coB, coF]
/-- a day, by what I says -/
def st1 (I : Iv) (nV nC : Nat) (q : (Nat → Int32) × Int32) : (Nat → Int32) × Int32 := stepR I nV nC (plB I) (coB I) q.1 q.2
def itR (I : Iv) (nV nC : Nat) (q : (Nat → Int32) × Int32) : Nat → (Nat → Int32) × Int32
  | 0 => q
  | n + 1 => st1 I nV nC (itR I nV nC q n)
/-- I and J say the same of the town, the opinions, who puts, the filters, the drought -/
def Say (I J : Iv) : Prop := (∀ i, (i = 500004 ∨ i = 500067 ∨ i = 500123 ∨ (500016 ≤ i ∧ i < 500025) ∨ (500047 ≤ i ∧ i < 500067) ∨ (500070 ≤ i ∧ i < 500079) ∨ (500080 ≤ i ∧ i < 500089)) → J i = I i) ∧ ∀ j, (j = 41 ∨ j = 42 ∨ j = 43 ∨ j = 44 ∨ j = 45 ∨ j = 46 ∨ j = 47 ∨ j = 49) → J 500000 j = I 500000 j
theorem Fr.say {a : Nat} {I J : Iv} (ha : a = 500124 ∨ a = 500126) (h : Fr a I J) : Say I J := ⟨fun i hi => h.1 i (by omega) (by omega) (by omega) (by omega) (by omega) (by omega), fun j hj => h.2 j (by omega)⟩
theorem Say.rf {I : Iv} : Say I I := ⟨fun _ _ => rfl, fun _ _ => rfl⟩
theorem Say.tr {I J K : Iv} (h : Say I J) (h2 : Say J K) : Say I K := ⟨fun i hi => (h2.1 i hi).trans (h.1 i hi), fun j hj => (h2.2 j hj).trans (h.2 j hj)⟩
theorem chR_say {I J : Iv} {n : Int32} {v b st : Nat} (h : Say I J) : ∀ c, c ≤ 20 → ∀ r, chR J n v b st c r = chR I n v b st c r
  | 0, _, _ => rfl
  | c + 1, hc, r => by
    unfold chR
    rw [chR_say h c (by omega) r, h.1 (500047 + c) (by omega)]
theorem flR_say {I J : Iv} {nC : Nat} {n : Int32} {v b st : Nat} {r : Nat → Int32} (h : Say I J) (hc : nC ≤ 20) (hv : v < 9) : flR J nC n v b st r = flR I nC n v b st r := by
  unfold flR toT toG
  rw [chR_say h nC hc r, h.1 (500016 + v) (by omega), h.1 500004 (by omega)]
theorem f4k_say {I J : Iv} {nC : Nat} {old : Nat → Int32} {v : Nat} (h : Say I J) (hc : nC ≤ 20) (hv : v < 9) : ∀ k r, f4k J nC old v k r = f4k I nC old v k r
  | 0, r => flR_say h hc hv
  | k + 1, r => by
    unfold f4k
    rw [f4k_say h hc hv k r, flR_say h hc hv]
theorem f4_say {I J : Iv} {nC : Nat} {old : Nat → Int32} (h : Say I J) (hc : nC ≤ 20) : ∀ v, v ≤ 9 → ∀ r, f4 J nC old v r = f4 I nC old v r
  | 0, _, _ => rfl
  | v + 1, hv, r => by
    unfold f4
    rw [f4_say h hc v (by omega) r, f4k_say h hc (by omega)]
theorem g5_say {I J : Iv} {r : Nat → Int32} {x : Int32} (h : Say I J) : ∀ v, v ≤ 9 → g5 J r x v = g5 I r x v
  | 0, _ => rfl
  | v + 1, hv => by
    unfold g5
    rw [g5_say h v (by omega), h.1 (500016 + v) (by omega), h.2 47 (by decide)]
theorem stN_say {I J : Iv} {v hb : Nat} (h : Say I J) (hv : v < 9) : stN J v hb = stN I v hb := by
  unfold stN
  rw [h.1 (500016 + v) (by omega), h.1 500123 (by omega), h.2 _ (by decide), h.2 _ (by decide), h.2 _ (by decide), h.2 _ (by decide)]
theorem s3_say {I J : Iv} {v : Nat} (h : Say I J) (hv : v < 9) : ∀ k r, s3 J v k r = s3 I v k r
  | 0, _ => rfl
  | k + 1, r => by
    unfold s3
    rw [s3_say h hv k r, stN_say h hv]
theorem s6_say {I J : Iv} (h : Say I J) : ∀ v, v ≤ 9 → ∀ r, s6 J v r = s6 I v r
  | 0, _, _ => rfl
  | v + 1, hv, r => by
    unfold s6
    rw [s6_say h v (by omega) r, s3_say h (by omega)]
theorem pvl_say {I J : Iv} {v p : Nat} {kn : Nat → Int32} (h : Say I J) (hv : v < 9) : pvl J kn v p = pvl I kn v p := by
  unfold pvl
  rw [h.1 (500016 + v) (by omega), h.1 (500070 + v) (by omega), h.1 (500080 + v) (by omega)]
theorem q8_say {I J : Iv} {v : Nat} {kn : Nat → Int32} {c : Bool} (h : Say I J) (hv : v < 9) : ∀ p pn, q8 J kn v c p pn = q8 I kn v c p pn
  | 0, _ => rfl
  | p + 1, pn => by
    unfold q8
    rw [q8_say h hv p pn, pvl_say h hv, h.1 (500070 + v) (by omega)]
theorem d8v_say {I J : Iv} {pl co : Nat → Bool} {r : Nat → Int32} (h : Say I J) : ∀ v, v ≤ 9 → ∀ pn, d8v J pl co r v pn = d8v I pl co r v pn
  | 0, _, _ => rfl
  | v + 1, hv, pn => by
    unfold d8v
    rw [d8v_say h v (by omega) pn, q8_say h (by omega), h.1 500067 (by omega)]
    unfold knR
    rw [h.1 (500016 + v) (by omega)]
theorem plB_say {I J : Iv} (h : Say I J) : plB J = plB I := by
  funext v
  unfold plB
  rw [h.2 _ (by decide), h.2 _ (by decide)]
theorem coB_say {I J : Iv} (h : Say I J) : coB J = coB I := by
  funext v
  unfold coB
  rw [h.2 _ (by decide)]
theorem st1_say {I J : Iv} {nV nC : Nat} {q : (Nat → Int32) × Int32} (h : Say I J) (hV : nV ≤ 9) (hC : nC ≤ 20) : st1 J nV nC q = st1 I nV nC q := by
  unfold st1 stepR
  simp only [plB_say h, coB_say h, f4_say h hC nV hV, g5_say h nV hV, s6_say h nV hV, d8v_say h nV hV]
theorem itR_say {I J : Iv} {nV nC : Nat} {q : (Nat → Int32) × Int32} (h : Say I J) (hV : nV ≤ 9) (hC : nC ≤ 20) : ∀ n, itR J nV nC q n = itR I nV nC q n
  | 0 => rfl
  | n + 1 => by
    unfold itR
    rw [itR_say h hV hC n, st1_say h hV hC]
theorem VS.say {I J : Iv} {nV nC : Nat} (hV : VS I nV nC) (h : Say I J) : VS J nV nC := by
  obtain ⟨h1, h2, h3, h4, h5, h6, h7⟩ := hV
  refine ⟨by rw [h.1 _ (by omega)]; exact h1, h2, by rw [h.1 _ (by omega)]; exact h3, h4, fun c hc => ?_, fun v hv => ?_, fun v hv => ?_⟩
  · rw [h.1 (500047 + c) (by omega)]; exact h5 c hc
  · rw [h.1 (500016 + v) (by omega)]; exact h6 v hv
  · obtain ⟨pm, q1, q2, q3⟩ := h7 v hv
    refine ⟨pm, q1, by rw [h.1 _ (by omega)]; exact q2, fun p hp => ?_⟩
    unfold wfQ wfP
    rw [h.1 (500070 + v) (by omega), h.1 (500080 + v) (by omega)]
    exact q3 p hp
section CM10
variable {Γ : Gm} {l : Launch} {d : Nat} {I : Iv} {E : Ev} {kr : Kr} {kx : Kxx}
/-- a day, said with st1 -/
theorem c_steps' {a nV nC : Nat} (ha : a = 500124 ∨ a = 500126) (hV : VS I nV nC) (h : ∀ J : Iv, Fr a I J → (J a, J 500000 48) = st1 I nV nC (I a, I 500000 48) → kr none J E) : Ex Γ l shN (d + 6) (0, 0) mM_steps [.ref 500000, .ref a] I E kr kx :=
  c_steps ha hV plB_i coB_i (fun J hf h1 h2 => h J hf (Prod.ext h1 h2))
/-- a whole row copied -/
theorem c_copies' {f t : Nat} (hf : tyc shN E f = 101) (hfl : 502 ≤ len shN E f) (ht : tyc shN E t = 101) (htl : len shN E t = 502) (hft : f ≠ t) (h : kr none (sr I t (I f)) E) : Ex Γ l shN (d + 1) (0, 0) mM_copies [.ref f, .ref t] I E kr kx := by
  refine ex_eqv (c_copies hf hfl ht (by omega) hft ⟨_, fun i j hij => ?_, h⟩)
  unfold sr cp
  by_cases e : i = t
  · subst e
    rw [ht, htl] at hij
    rw [if_pos rfl, if_pos ⟨rfl, by omega⟩]
  · rw [if_neg e, if_neg (fun q => e q.1)]
theorem c_goesOn {n nV nC : Nat} (hn : n < 1000) (hV : VS I nV nC) (h : ∀ J : Iv, Fr 500126 I J → (J 500126, J 500000 48) = itR I nV nC (I 500124, I 500000 48) n → kr none J E) : Ex Γ l shN (d + 7) (0, 0) mM_goesOn [.ref 500000, .int (nI n)] I E kr kx := by
  refine ex_of (ls0 := [some (.ref 500000), some (.int (nI n)), none]) tM_goesOn (by decide +kernel) kM_goesOn rfl (Nat.le_of_ble_eq_true rfl) rfl ?_
  intro go hgo
  have loop : ∀ (g k : Nat) (J : Iv), g + k = n → Fr 500126 I J → (J 500126, J 500000 48) = itR I nV nC (I 500124, I 500000 48) k → go 13 [some (.ref 500000), some (.int (nI n)), some (.int (nI k))] [] J E (0, 0) := by
    intro g
    induction g with
    | zero =>
      intro k J hk hf hr
      have : k = n := by omega
      subst this
      refine hgo 20 [13] 13 _ _ _ _ _ ?_
      simp only [ixr_of, run_s, run_0, rM_goesOn, rok_i, rok_z, bx_cons, bx_nil, eC0, eCS2, eCV1, eGO, eGR, jICge, eINC2, eLA0, eLI1, eLI2, eRV, eSI2, fM_goesOn_0, fM_goesOn_13, fM_goesOn_18, fM_goesOn_32, bM_goesOn_0, bM_goesOn_13, bM_goesOn_18, bM_goesOn_32, ln_mnow, ln_mtrial, rg_m_32, rg_m_34, ty_m, ty_mnow, ty_mtrial, Option.toList_some, Option.toList_none, List.cons_append, List.nil_append, List.length_cons, List.length_nil, List.mem_cons, List.not_mem_nil, or_false, false_or, or_true, true_or, ↓reduceIte, true_and, and_true, Nat.reduceEqDiff, Nat.reduceAdd, Nat.reduceLeDiff, Nat.reduceLT, dl_i, dl_r, dl_n, dl_u, eq_self, not_true_eq_false, not_false_eq_true, n10, n01, nm0, n0m, imp_t, imp_f]
      exact ⟨fun _ => h J hf hr, fun q => absurd (Int32.le_refl _) q⟩
    | succ g ih =>
      intro k J hk hf hr
      refine hgo 20 [13] 13 _ _ _ _ _ ?_
      simp only [ixr_of, run_s, run_0, rM_goesOn, rok_i, rok_z, bx_cons, bx_nil, eC0, eCS2, eCV1, eGO, eGR, jICge, eINC2, eLA0, eLI1, eLI2, eRV, eSI2, fM_goesOn_0, fM_goesOn_13, fM_goesOn_18, fM_goesOn_32, bM_goesOn_0, bM_goesOn_13, bM_goesOn_18, bM_goesOn_32, ln_mnow, ln_mtrial, rg_m_32, rg_m_34, ty_m, ty_mnow, ty_mtrial, Option.toList_some, Option.toList_none, List.cons_append, List.nil_append, List.length_cons, List.length_nil, List.mem_cons, List.not_mem_nil, or_false, false_or, or_true, true_or, ↓reduceIte, true_and, and_true, Nat.reduceEqDiff, Nat.reduceAdd, Nat.reduceLeDiff, Nat.reduceLT, dl_i, dl_r, dl_n, dl_u, eq_self, not_true_eq_false, not_false_eq_true, n10, n01, nm0, n0m, imp_t, imp_f]
      rw [nI_leI (by omega) (by omega)]
      refine ⟨fun q => absurd q (by omega), fun _ => ?_⟩
      refine call0 (c_steps' (Or.inr rfl) (hV.mv (Or.inr rfl) hf) ?_)
      intro K hK hrK
      simp only [ixr_of, run_s, run_0, rM_goesOn, rok_i, rok_z, bx_cons, bx_nil, eC0, eCS2, eCV1, eGO, eGR, jICge, eINC2, eLA0, eLI1, eLI2, eRV, eSI2, fM_goesOn_0, fM_goesOn_13, fM_goesOn_18, fM_goesOn_32, bM_goesOn_0, bM_goesOn_13, bM_goesOn_18, bM_goesOn_32, ln_mnow, ln_mtrial, rg_m_32, rg_m_34, ty_m, ty_mnow, ty_mtrial, Option.toList_some, Option.toList_none, List.cons_append, List.nil_append, List.length_cons, List.length_nil, List.mem_cons, List.not_mem_nil, or_false, false_or, or_true, true_or, ↓reduceIte, true_and, and_true, Nat.reduceEqDiff, Nat.reduceAdd, Nat.reduceLeDiff, Nat.reduceLT, dl_i, dl_r, dl_n, dl_u, eq_self, not_true_eq_false, not_false_eq_true, n10, n01, nm0, n0m, nI_add, imp_t, imp_f]
      refine ih (k + 1) K (by omega) (hf.tr hK) ?_
      rw [hrK, hr, st1_say (hf.say (Or.inr rfl)) hV.2.1 hV.2.2.2.1]
      rfl
  refine hgo 20 [13] 0 _ _ _ _ _ ?_
  simp only [ixr_of, run_s, run_0, rM_goesOn, rok_i, rok_z, bx_cons, bx_nil, eC0, eCS2, eCV1, eGO, eGR, jICge, eINC2, eLA0, eLI1, eLI2, eRV, eSI2, fM_goesOn_0, fM_goesOn_13, fM_goesOn_18, fM_goesOn_32, bM_goesOn_0, bM_goesOn_13, bM_goesOn_18, bM_goesOn_32, ln_mnow, ln_mtrial, rg_m_32, rg_m_34, ty_m, ty_mnow, ty_mtrial, Option.toList_some, Option.toList_none, List.cons_append, List.nil_append, List.length_cons, List.length_nil, List.mem_cons, List.not_mem_nil, or_false, false_or, or_true, true_or, ↓reduceIte, true_and, and_true, Nat.reduceEqDiff, Nat.reduceAdd, Nat.reduceLeDiff, Nat.reduceLT, dl_i, dl_r, dl_n, dl_u, eq_self, not_true_eq_false, not_false_eq_true, n10, n01, nm0, n0m, imp_t, imp_f]
  refine call0 (c_copies' ty_mnow (by rw [ln_mnow]; decide) ty_mtrial ln_mtrial (by decide) ?_)
  simp only [ixr_of, run_s, run_0, rM_goesOn, rok_i, rok_z, bx_cons, bx_nil, eC0, eCS2, eCV1, eGO, eGR, jICge, eINC2, eLA0, eLI1, eLI2, eRV, eSI2, fM_goesOn_0, fM_goesOn_13, fM_goesOn_18, fM_goesOn_32, bM_goesOn_0, bM_goesOn_13, bM_goesOn_18, bM_goesOn_32, ln_mnow, ln_mtrial, rg_m_32, rg_m_34, ty_m, ty_mnow, ty_mtrial, Option.toList_some, Option.toList_none, List.cons_append, List.nil_append, List.length_cons, List.length_nil, List.mem_cons, List.not_mem_nil, or_false, false_or, or_true, true_or, ↓reduceIte, true_and, and_true, Nat.reduceEqDiff, Nat.reduceAdd, Nat.reduceLeDiff, Nat.reduceLT, dl_i, dl_r, dl_n, dl_u, eq_self, not_true_eq_false, not_false_eq_true, n10, n01, nm0, n0m, imp_t, imp_f]
  refine loop n 0 _ (by omega) ((Fr.rf (a := 500126)).srow (Or.inl rfl) (by decide)) ?_
  rw [sr_s, sr_n (by decide)]
  rfl
def asN (I : Iv) : Iv := up (up (up (up (up (up I 500000 41 (I 500000 37)) 500000 42 (I 500000 38)) 500000 49 (nI 1)) 500000 43 (-1)) 500000 46 (-1)) 500000 47 (nI 0)
theorem asN_n {I : Iv} {i j : Nat} (h : i ≠ 500000 ∨ (j ≠ 41 ∧ j ≠ 42 ∧ j ≠ 49 ∧ j ≠ 43 ∧ j ≠ 46 ∧ j ≠ 47)) : asN I i j = I i j := by
  unfold asN
  rw [up_n (by omega), up_n (by omega), up_n (by omega), up_n (by omega), up_n (by omega), up_n (by omega)]
theorem asN_r {I : Iv} {i : Nat} (h : i ≠ 500000) : asN I i = I i := by funext j; exact asN_n (Or.inl h)
theorem VS.as {I : Iv} {nV nC : Nat} (hV : VS I nV nC) : VS (asN I) nV nC := by
  obtain ⟨h1, h2, h3, h4, h5, h6, h7⟩ := hV
  refine ⟨by rw [asN_r (by omega)]; exact h1, h2, by rw [asN_r (by omega)]; exact h3, h4, fun c hc => ?_, fun v hv => ?_, fun v hv => ?_⟩
  · rw [asN_r (by omega)]; exact h5 c hc
  · rw [asN_r (by omega)]; exact h6 v hv
  · obtain ⟨pm, q1, q2, q3⟩ := h7 v hv
    refine ⟨pm, q1, by rw [asN_r (by omega)]; exact q2, fun p hp => ?_⟩
    unfold wfQ wfP
    rw [asN_r (by omega), asN_r (by omega)]
    exact q3 p hp
/-- a call's refusal: thrown is w, one more refused of the kind rn -/
def ref1 (I : Iv) (w : Int32) (rn : Nat) : Iv := up (up I 500000 0 w) 500002 rn (I 500002 rn + nI 1)
/-- where thrown is 0, as at a call's start -/
theorem c_bad0 {p w : Int32} {rn : Nat} (hrn : rn < 2) (hw : ¬ w = nI 0) (h0 : I 500000 0 = nI 0) (h1 : p = nI 0 → kr (some (.int (nI 0))) I E) (h2 : ¬ p = nI 0 → kr (some (.int (nI 1))) (ref1 I w rn) E) : Ex Γ l shN (d + 1) (0, 0) mM_bad [.ref 500000, .int p, .int w, .int (nI rn)] I E kr kx :=
  c_bad hrn hw (fun q => by rw [bi_f (fun c => c h0)]; exact h1 q) (fun _ q => absurd h0 q) (fun q _ => h2 q)
end CM10
