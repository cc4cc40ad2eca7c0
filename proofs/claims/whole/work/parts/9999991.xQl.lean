/-! foresight: a round that comes again -/
/-- a row of the model in the class's rows -/
def RWd (A : Nat → Int32) (ba : Nat) (S : Tn) (r : Nat → Int32) : Prop := (∀ v, v < S.1.1 → A (ba + v * (1 + 3 * S.1.1)) = r v) ∧ (∀ v h w, v < S.1.1 → h < 3 → w < S.1.1 → A (ba + cl S.1.1 v h w) = r (9 + 27 * v + 9 * h + w)) ∧ ∀ v, v < S.1.1 → A (ba + ofR S v) = r (432 + v) ∧ ∀ a j, 1 ≤ a → a < vz S v 3 → j < 4 → A (ba + ofR S v + 1 + 4 * (a - 1) + j) = r (252 + 36 * a + 4 * v + j)
theorem wa_in {nV v : Nat} (hv : v < nV) : v * (1 + 3 * nV) < nV * (1 + 3 * nV) := Nat.mul_lt_mul_of_pos_right hv (by omega)
theorem cl_in {nV v h w : Nat} (hv : v < nV) (hh : h < 3) (hw : w < nV) : cl nV v h w < nV * (1 + 3 * nV) := by
  have h1 := it_lt hh hw
  have h2 : (v + 1) * (1 + 3 * nV) ≤ nV * (1 + 3 * nV) := Nat.mul_le_mul_right _ hv
  rw [Nat.succ_mul] at h2
  rw [cl_i]
  omega
theorem RWp.d {A B : Nat → Int32} {ba n : Nat} {J : Iv} {S : Tn} {r : Nat → Int32} (hS : TnV S) (h : RWp A B ba J S n S.1.1) (hD : DR J 48 S n r) : RWd A ba S r := by
  obtain ⟨-, -, -, hB, -, hP, hL, -⟩ := hD
  refine ⟨fun v hv => by rw [h.2.1 _ (wa_in hv)]; exact hB.1 v hv, fun v a w hv ha hw => by rw [h.2.1 _ (cl_in hv ha hw)]; exact hB.2 v a w hv ha hw, fun v hv => ⟨by rw [(h.2.2 v hv).1]; exact hL v hv, fun a j h1 h2 h3 => ?_⟩⟩
  have h5 := vz_5 (v := v) hS
  rw [(h.2.2 v hv).2 a j h1 h2 h3]
  exact (hP v hv (by omega) a j (by omega) h3).symm
theorem RWd.mv {A B : Nat → Int32} {ba : Nat} {S : Tn} {r : Nat → Int32} (hS : TnV S) (h : RWd A ba S r) (hk : ∀ k, k < ba + 405 → B k = A k) : RWd B ba S r := by
  have s9 := hS.1
  have hw := nVW s9
  have hb := ofR_b hS S.1.1
  refine ⟨fun v hv => ?_, fun v a w hv ha hw' => ?_, fun v hv => ⟨?_, fun a j h1 h2 h3 => ?_⟩⟩
  · have := wa_in hv
    rw [hk _ (by omega)]; exact h.1 v hv
  · have := cl_in hv ha hw'
    rw [hk _ (by omega)]; exact h.2.1 v a w hv ha hw'
  · have := ofR_m (S := S) (u := v) S.1.1 hv
    rw [hk _ (by omega)]; exact (h.2.2 v hv).1
  · have := ofR_m (S := S) (u := v) S.1.1 hv
    rw [hk _ (by omega)]; exact (h.2.2 v hv).2 a j h1 h2 h3
theorem ofR_f {S : Tn} {i : Nat} (h0 : S.1.1 * (1 + 3 * S.1.1) ≤ i) : ∀ v, i < ofR S v → ∃ u, u < v ∧ ofR S u ≤ i ∧ i < ofR S u + (1 + 4 * (vz S u 3 - 1))
  | 0, h => absurd (show i < S.1.1 * (1 + 3 * S.1.1) from h) (by omega)
  | v + 1, h => by
    by_cases q : i < ofR S v
    · obtain ⟨u, h1, h2⟩ := ofR_f h0 v q
      exact ⟨u, by omega, h2⟩
    · exact ⟨v, by omega, by omega, h⟩
theorem as_eq {A : Nat → Int32} {x y : Nat} {I : Iv} {S : Tn} {r s : Nat → Int32} (hS : TnV S) (hM : MT I S) (hr : RWd A x S r) (hs : RWd A y S s) (zr' : ZA r S.1.1) (zs : ZA s S.1.1) : (∀ i, i < ofR S S.1.1 → A (x + i) = A (y + i)) ↔ asP I S.1.1 r s := by
  have s9 := hS.1
  have hlg : ∀ v, v < S.1.1 → (I (500016 + v) 3).toNatClampNeg = vz S v 3 := fun v hv => by
    have := vz_5 (v := v) hS
    unfold vz at this ⊢
    rw [if_pos hv] at this ⊢
    rw [hM.2.2.2 v hv 3 (by decide), nI_clamp (by omega)]
  have h0 := ofR_0 (S := S) S.1.1
  constructor
  · intro h
    refine ⟨fun k hk => ?_, fun v hv => ⟨?_, fun e h1 h2 j hj => ?_⟩⟩
    · by_cases q : k < 9
      · by_cases q2 : k < S.1.1
        · have := wa_in q2
          rw [← hr.1 k q2, ← hs.1 k q2, h _ (by omega)]
        · rw [zr'.1 k (by omega) q, zs.1 k (by omega) q]
      · obtain ⟨v, a, w, hv, ha, hw, rfl⟩ : ∃ v a w, v < 9 ∧ a < 3 ∧ w < 9 ∧ k = 9 + 27 * v + 9 * a + w := ⟨(k - 9) / 27, (k - 9) % 27 / 9, (k - 9) % 9, by omega, by omega, by omega, by omega⟩
        by_cases q2 : v < S.1.1 ∧ w < S.1.1
        · have := cl_in q2.1 ha q2.2
          rw [← hr.2.1 v a w q2.1 ha q2.2, ← hs.2.1 v a w q2.1 ha q2.2, h _ (by omega)]
        · rw [zr'.2 v a w hv ha hw (by omega), zs.2 v a w hv ha hw (by omega)]
    · have := ofR_m (S := S) (u := v) S.1.1 hv
      rw [← (hr.2.2 v hv).1, ← (hs.2.2 v hv).1, h _ (by omega)]
    · have := ofR_m (S := S) (u := v) S.1.1 hv
      rw [hlg v hv] at h2
      rw [← (hr.2.2 v hv).2 e j h1 h2 hj, ← (hs.2.2 v hv).2 e j h1 h2 hj]
      have := h (ofR S v + 1 + 4 * (e - 1) + j) (by omega)
      rw [show x + (ofR S v + 1 + 4 * (e - 1) + j) = x + ofR S v + 1 + 4 * (e - 1) + j by omega, show y + (ofR S v + 1 + 4 * (e - 1) + j) = y + ofR S v + 1 + 4 * (e - 1) + j by omega] at this
      exact this
  · intro h i hi
    by_cases q : i < S.1.1 * (1 + 3 * S.1.1)
    · have hnv : 0 < S.1.1 := by
        by_cases z : S.1.1 = 0
        · rw [z] at q; omega
        · omega
      have hv : i / (1 + 3 * S.1.1) < S.1.1 := Nat.div_lt_of_lt_mul (by rw [Nat.mul_comm]; exact q)
      have hi2 : i % (1 + 3 * S.1.1) < 1 + 3 * S.1.1 := Nat.mod_lt _ (by omega)
      have hdm : i = i / (1 + 3 * S.1.1) * (1 + 3 * S.1.1) + i % (1 + 3 * S.1.1) := by rw [Nat.mul_comm]; exact (Nat.div_add_mod _ _).symm
      obtain ⟨v, hve⟩ : ∃ v, v = i / (1 + 3 * S.1.1) := ⟨_, rfl⟩
      obtain ⟨m, hme⟩ : ∃ m, m = i % (1 + 3 * S.1.1) := ⟨_, rfl⟩
      rw [← hve] at hv hdm
      rw [← hme] at hi2 hdm
      by_cases m0 : m = 0
      · rw [hdm, m0, Nat.add_zero, hr.1 v hv, hs.1 v hv]
        exact h.1 v (by omega)
      · have hh : (m - 1) / S.1.1 < 3 := Nat.div_lt_of_lt_mul (by rw [Nat.mul_comm]; omega)
        have hw : (m - 1) % S.1.1 < S.1.1 := Nat.mod_lt _ hnv
        have hdm2 : m - 1 = (m - 1) / S.1.1 * S.1.1 + (m - 1) % S.1.1 := by rw [Nat.mul_comm]; exact (Nat.div_add_mod _ _).symm
        have e : i = cl S.1.1 v ((m - 1) / S.1.1) ((m - 1) % S.1.1) := by
          rw [cl_i]
          omega
        rw [e, hr.2.1 v _ _ hv hh hw, hs.2.1 v _ _ hv hh hw]
        exact h.1 _ (by omega)
    · obtain ⟨v, hv, h1, h2⟩ := ofR_f (S := S) (by omega) S.1.1 hi
      by_cases q2 : i = ofR S v
      · rw [q2, (hr.2.2 v hv).1, (hs.2.2 v hv).1]
        exact (h.2 v hv).1
      · obtain ⟨a, j, ha, ha2, hj, e⟩ : ∃ a j, 1 ≤ a ∧ a < vz S v 3 ∧ j < 4 ∧ i = ofR S v + 1 + 4 * (a - 1) + j := ⟨(i - ofR S v - 1) / 4 + 1, (i - ofR S v - 1) % 4, by omega, by omega, by omega, by omega⟩
        rw [e, show x + (ofR S v + 1 + 4 * (a - 1) + j) = x + ofR S v + 1 + 4 * (a - 1) + j by omega, show y + (ofR S v + 1 + 4 * (a - 1) + j) = y + ofR S v + 1 + 4 * (a - 1) + j by omega, (hr.2.2 v hv).2 a j ha ha2 hj, (hs.2.2 v hv).2 a j ha ha2 hj]
        exact (h.2 v hv).2 a ha (by rw [hlg v hv]; exact ha2) j hj
section XQl
variable {Γ : Gm} {l : Launch} {b : Bool} {d : Nat} {I J : Iv} {E : Ev} {kr : Kr} {kx : Kxx} {y t n rw' : Nat} {S : Tn} {PS : Nat → List Pt} {op : Nat → Nat}
theorem rix {k i : Nat} (hk : k ≤ 200) (hi : i < 405) : k * 405 + i < 81405 := by omega
def eqW (A : Nat → Int32) (us o k : Nat) : Prop := ∀ i, i < us → A (o * 405 + i) = A (k * 405 + i)
theorem x_rowLike {k us : Nat} (hr : rget (shB b) E 47 3 = .ref rw') (hrt : tyc (shB b) E rw' = 101) (hrl : len (shB b) E rw' = 81405) (hk2 : k ≤ 200) (hus : us ≤ 405)
    (h1 : ∀ o, o < k → eqW (J rw') us o k → (∀ o', o' < o → ¬ eqW (J rw') us o' k) → kr (some (.int (nI o))) J E) (h0 : (∀ o, o < k → ¬ eqW (J rw') us o k) → kr (some (.int (-1))) J E) : Ex Γ l (shB b) (d + 1) (0, 0) mFo_rowLike [.ref 47, .int (nI k), .int (nI us)] J E kr kx := by
  refine ex_of (ls0 := [some (.ref 47), some (.int (nI k)), some (.int (nI us)), none, none]) tFo_rowLike (by decide +kernel) kFo_rowLike rfl (Nat.le_of_ble_eq_true rfl) rfl ?_
  intro go hgo
  have outer : ∀ (g o : Nat) (x4 : Option Value), g + o = k → (∀ o', o' < o → ¬ eqW (J rw') us o' k) → go 2 [some (.ref 47), some (.int (nI k)), some (.int (nI us)), some (.int (nI o)), x4] [] J E (0, 0) := by
    intro g
    induction g with
    | zero =>
      intro o x4 hg hno
      have : o = k := by omega
      subst this
      have c1 : (nI o ≤ nI o) = True := eq_true (Int32.le_refl _)
      refine hgo 20 [2, 10, 51] 2 _ _ _ _ _ ?_
      simp only [ixr_of, run_s, run_0, rFo_rowLike, rok_i, rok_z, bx_cons, bx_nil, eADD, eC0, eCm1, eGO, eGR, eIALD, jICge, jICne, eINC3, eINC4, eLA0, eLI1, eLI2, eLI3, eLI4, eMUL, eRI, eSI3, eSI4, eSP, fFo_rowLike_0, fFo_rowLike_2, fFo_rowLike_7, fFo_rowLike_10, fFo_rowLike_16, fFo_rowLike_45, fFo_rowLike_51, fFo_rowLike_57, fFo_rowLike_59, fFo_rowLike_65, bFo_rowLike_0, bFo_rowLike_2, bFo_rowLike_7, bFo_rowLike_10, bFo_rowLike_16, bFo_rowLike_45, bFo_rowLike_51, bFo_rowLike_57, bFo_rowLike_59, bFo_rowLike_65, ln_xformerGrades, rg_xforesight_0, rg_xforesight_1, rg_xforesight_2, ty_xaqueduct, ty_xforesight, ty_xformerGrades, ty_xftrial, Option.toList_some, Option.toList_none, List.cons_append, List.nil_append, List.length_cons, List.length_nil, List.mem_cons, List.not_mem_nil, or_false, false_or, or_true, true_or, ↓reduceIte, true_and, and_true, Nat.reduceEqDiff, Nat.reduceAdd, Nat.reduceLeDiff, Nat.reduceLT, dl_i, dl_r, dl_n, dl_u, eq_self, not_true_eq_false, not_false_eq_true, n10, n01, nm0, n0m, c1, imp_t, imp_f]
      exact h0 hno
    | succ g ih =>
      intro o x4 hg hno
      have c1 : (nI k ≤ nI o) = False := by rw [nIl (by omega) (by omega)]; exact eq_false (by omega)
      have fin : ∀ i, i ≤ us → (∀ j, j < i → J rw' (o * 405 + j) = J rw' (k * 405 + j)) → (i < us → ¬ J rw' (o * 405 + i) = J rw' (k * 405 + i)) → go 51 [some (.ref 47), some (.int (nI k)), some (.int (nI us)), some (.int (nI o)), some (.int (nI i))] [] J E (0, 0) := by
        intro i hi ha hd
        have c2 : (nI i = nI us) = (i = us) := nIe (by omega) (by omega)
        refine hgo 20 [2, 10, 51] 51 _ _ _ _ _ ?_
        simp only [ixr_of, run_s, run_0, rFo_rowLike, rok_i, rok_z, bx_cons, bx_nil, eADD, eC0, eCm1, eGO, eGR, eIALD, jICge, jICne, eINC3, eINC4, eLA0, eLI1, eLI2, eLI3, eLI4, eMUL, eRI, eSI3, eSI4, eSP, fFo_rowLike_0, fFo_rowLike_2, fFo_rowLike_7, fFo_rowLike_10, fFo_rowLike_16, fFo_rowLike_45, fFo_rowLike_51, fFo_rowLike_57, fFo_rowLike_59, fFo_rowLike_65, bFo_rowLike_0, bFo_rowLike_2, bFo_rowLike_7, bFo_rowLike_10, bFo_rowLike_16, bFo_rowLike_45, bFo_rowLike_51, bFo_rowLike_57, bFo_rowLike_59, bFo_rowLike_65, ln_xformerGrades, rg_xforesight_0, rg_xforesight_1, rg_xforesight_2, ty_xaqueduct, ty_xforesight, ty_xformerGrades, ty_xftrial, Option.toList_some, Option.toList_none, List.cons_append, List.nil_append, List.length_cons, List.length_nil, List.mem_cons, List.not_mem_nil, or_false, false_or, or_true, true_or, ↓reduceIte, true_and, and_true, Nat.reduceEqDiff, Nat.reduceAdd, Nat.reduceLeDiff, Nat.reduceLT, dl_i, dl_r, dl_n, dl_u, eq_self, not_true_eq_false, not_false_eq_true, n10, n01, nm0, n0m, c2, nI_add, imp_t, imp_f]
        refine ⟨fun z => ?_, fun z => ?_⟩
        · refine ih (o + 1) _ (by omega) (fun o' ho' => ?_)
          by_cases e : o' = o
          · rw [e]; exact fun c => hd (by omega) (c i (by omega))
          · exact hno o' (by omega)
        · subst z
          exact h1 o (by omega) ha hno
      have inner : ∀ (h i : Nat), h + i = us → (∀ j, j < i → J rw' (o * 405 + j) = J rw' (k * 405 + j)) → go 10 [some (.ref 47), some (.int (nI k)), some (.int (nI us)), some (.int (nI o)), some (.int (nI i))] [] J E (0, 0) := by
        intro h
        induction h with
        | zero =>
          intro i hi ha
          have : i = us := by omega
          subst this
          have c2 : (nI i ≤ nI i) = True := eq_true (Int32.le_refl _)
          refine hgo 20 [2, 10, 51] 10 _ _ _ _ _ ?_
          simp only [ixr_of, run_s, run_0, rFo_rowLike, rok_i, rok_z, bx_cons, bx_nil, eADD, eC0, eCm1, eGO, eGR, eIALD, jICge, jICne, eINC3, eINC4, eLA0, eLI1, eLI2, eLI3, eLI4, eMUL, eRI, eSI3, eSI4, eSP, fFo_rowLike_0, fFo_rowLike_2, fFo_rowLike_7, fFo_rowLike_10, fFo_rowLike_16, fFo_rowLike_45, fFo_rowLike_51, fFo_rowLike_57, fFo_rowLike_59, fFo_rowLike_65, bFo_rowLike_0, bFo_rowLike_2, bFo_rowLike_7, bFo_rowLike_10, bFo_rowLike_16, bFo_rowLike_45, bFo_rowLike_51, bFo_rowLike_57, bFo_rowLike_59, bFo_rowLike_65, ln_xformerGrades, rg_xforesight_0, rg_xforesight_1, rg_xforesight_2, ty_xaqueduct, ty_xforesight, ty_xformerGrades, ty_xftrial, Option.toList_some, Option.toList_none, List.cons_append, List.nil_append, List.length_cons, List.length_nil, List.mem_cons, List.not_mem_nil, or_false, false_or, or_true, true_or, ↓reduceIte, true_and, and_true, Nat.reduceEqDiff, Nat.reduceAdd, Nat.reduceLeDiff, Nat.reduceLT, dl_i, dl_r, dl_n, dl_u, eq_self, not_true_eq_false, not_false_eq_true, n10, n01, nm0, n0m, c2, imp_t, imp_f]
          exact fin i (Nat.le_refl _) ha (fun c => absurd c (by omega))
        | succ h ih2 =>
          intro i hi ha
          have c2 : (nI us ≤ nI i) = False := by rw [nIl (by omega) (by omega)]; exact eq_false (by omega)
          have i0 : i < 405 := by omega
          have i1 : o * 405 + i < 81405 := rix (by omega) i0
          have i2 : k * 405 + i < 81405 := rix hk2 i0
          refine hgo 20 [2, 10, 51] 10 _ _ _ _ _ ?_
          simp only [ixr_of, run_s, run_0, rFo_rowLike, rok_i, rok_z, bx_cons, bx_nil, eADD, eC0, eCm1, eGO, eGR, eIALD, jICge, jICne, eINC3, eINC4, eLA0, eLI1, eLI2, eLI3, eLI4, eMUL, eRI, eSI3, eSI4, eSP, fFo_rowLike_0, fFo_rowLike_2, fFo_rowLike_7, fFo_rowLike_10, fFo_rowLike_16, fFo_rowLike_45, fFo_rowLike_51, fFo_rowLike_57, fFo_rowLike_59, fFo_rowLike_65, bFo_rowLike_0, bFo_rowLike_2, bFo_rowLike_7, bFo_rowLike_10, bFo_rowLike_16, bFo_rowLike_45, bFo_rowLike_51, bFo_rowLike_57, bFo_rowLike_59, bFo_rowLike_65, ln_xformerGrades, rg_xforesight_0, rg_xforesight_1, rg_xforesight_2, ty_xaqueduct, ty_xforesight, ty_xformerGrades, ty_xftrial, Option.toList_some, Option.toList_none, List.cons_append, List.nil_append, List.length_cons, List.length_nil, List.mem_cons, List.not_mem_nil, or_false, false_or, or_true, true_or, ↓reduceIte, true_and, and_true, Nat.reduceEqDiff, Nat.reduceAdd, Nat.reduceLeDiff, Nat.reduceLT, dl_i, dl_r, dl_n, dl_u, eq_self, not_true_eq_false, not_false_eq_true, n10, n01, nm0, n0m, c2, hr, hrt, hrl, pk_mul, i1, i2, nI_add, imp_t, imp_f]
          refine ⟨fun z => fin i (by omega) ha (fun _ => z), fun z => ih2 (i + 1) (by omega) (fun j hj => ?_)⟩
          by_cases e : j = i
          · rw [e]; exact z
          · exact ha j (by omega)
      refine hgo 20 [2, 10, 51] 2 _ _ _ _ _ ?_
      simp only [ixr_of, run_s, run_0, rFo_rowLike, rok_i, rok_z, bx_cons, bx_nil, eADD, eC0, eCm1, eGO, eGR, eIALD, jICge, jICne, eINC3, eINC4, eLA0, eLI1, eLI2, eLI3, eLI4, eMUL, eRI, eSI3, eSI4, eSP, fFo_rowLike_0, fFo_rowLike_2, fFo_rowLike_7, fFo_rowLike_10, fFo_rowLike_16, fFo_rowLike_45, fFo_rowLike_51, fFo_rowLike_57, fFo_rowLike_59, fFo_rowLike_65, bFo_rowLike_0, bFo_rowLike_2, bFo_rowLike_7, bFo_rowLike_10, bFo_rowLike_16, bFo_rowLike_45, bFo_rowLike_51, bFo_rowLike_57, bFo_rowLike_59, bFo_rowLike_65, ln_xformerGrades, rg_xforesight_0, rg_xforesight_1, rg_xforesight_2, ty_xaqueduct, ty_xforesight, ty_xformerGrades, ty_xftrial, Option.toList_some, Option.toList_none, List.cons_append, List.nil_append, List.length_cons, List.length_nil, List.mem_cons, List.not_mem_nil, or_false, false_or, or_true, true_or, ↓reduceIte, true_and, and_true, Nat.reduceEqDiff, Nat.reduceAdd, Nat.reduceLeDiff, Nat.reduceLT, dl_i, dl_r, dl_n, dl_u, eq_self, not_true_eq_false, not_false_eq_true, n10, n01, nm0, n0m, c1, imp_t, imp_f]
      exact inner us 0 (by omega) (fun j hj => absurd hj (by omega))
  refine hgo 20 [2, 10, 51] 0 _ _ _ _ _ ?_
  simp only [ixr_of, run_s, run_0, rFo_rowLike, rok_i, rok_z, bx_cons, bx_nil, eADD, eC0, eCm1, eGO, eGR, eIALD, jICge, jICne, eINC3, eINC4, eLA0, eLI1, eLI2, eLI3, eLI4, eMUL, eRI, eSI3, eSI4, eSP, fFo_rowLike_0, fFo_rowLike_2, fFo_rowLike_7, fFo_rowLike_10, fFo_rowLike_16, fFo_rowLike_45, fFo_rowLike_51, fFo_rowLike_57, fFo_rowLike_59, fFo_rowLike_65, bFo_rowLike_0, bFo_rowLike_2, bFo_rowLike_7, bFo_rowLike_10, bFo_rowLike_16, bFo_rowLike_45, bFo_rowLike_51, bFo_rowLike_57, bFo_rowLike_59, bFo_rowLike_65, ln_xformerGrades, rg_xforesight_0, rg_xforesight_1, rg_xforesight_2, ty_xaqueduct, ty_xforesight, ty_xformerGrades, ty_xftrial, Option.toList_some, Option.toList_none, List.cons_append, List.nil_append, List.length_cons, List.length_nil, List.mem_cons, List.not_mem_nil, or_false, false_or, or_true, true_or, ↓reduceIte, true_and, and_true, Nat.reduceEqDiff, Nat.reduceAdd, Nat.reduceLeDiff, Nat.reduceLT, dl_i, dl_r, dl_n, dl_u, eq_self, not_true_eq_false, not_false_eq_true, n10, n01, nm0, n0m, imp_t, imp_f]
  exact outer k 0 _ (by omega) (fun o' h => absurd h (by omega))
theorem x_asksDay (hA : AqS b J E S PS t op) (h1 : (∃ v, v < S.1.1 ∧ 1004 ∈ stA (PS v)) → kr (some (.int (nI 1))) J E) (h0 : (∀ v, v < S.1.1 → ¬ 1004 ∈ stA (PS v)) → kr (some (.int (nI 0))) J E) : Ex Γ l (shB b) (d + 1) (0, 0) mAq_asksDay [.ref 3] J E kr kx := by
  refine ex_of (ls0 := [some (.ref 3), none]) tAq_asksDay (by decide +kernel) kAq_asksDay rfl (Nat.le_of_ble_eq_true rfl) rfl ?_
  intro go hgo
  obtain ⟨r3, hT, hX, hS, hop, hid, -, ho⟩ := id hA
  have tT : tyc (shB b) E t = 10 := (hT.A (b := b) (E := E)).1
  have v7 := hX.1
  have s9 := hS.1
  have loop : ∀ (g v : Nat), g + v = S.1.1 → (∀ u, u < v → ¬ 1004 ∈ stA (PS u)) → go 2 [some (.ref 3), some (.int (nI v))] [] J E (0, 0) := by
    intro g
    induction g with
    | zero =>
      intro v hg hno
      have : v = S.1.1 := by omega
      subst this
      have c1 : (nI S.1.1 ≤ nI S.1.1) = True := eq_true (Int32.le_refl _)
      refine hgo 20 [2] 2 _ _ _ _ _ ?_
      simp only [ixr_of, run_s, run_0, rAq_asksDay, rok_i, rok_z, bx_cons, bx_nil, eAALD106, eC0, eC1, eGI, eGO, eGR, jICge, jIFeq, eINC1, eLA0, eLI1, eRI, eSI1, fAq_asksDay_0, fAq_asksDay_2, fAq_asksDay_13, fAq_asksDay_25, fAq_asksDay_27, fAq_asksDay_33, bAq_asksDay_0, bAq_asksDay_2, bAq_asksDay_13, bAq_asksDay_25, bAq_asksDay_27, bAq_asksDay_33, ln_xaqueduct_change, ln_xaqueduct_decided, ln_xaqueduct_fresh, ln_xaqueduct_sight, ln_xopinions, rg_xaqueduct_1, rg_xaqueduct_2, rg_xaqueduct_3, rg_xaqueduct_4, rg_xaqueduct_5, ty_xaqueduct, ty_xaqueduct_change, ty_xaqueduct_decided, ty_xaqueduct_fresh, ty_xaqueduct_sight, ty_xopinions, Option.toList_some, Option.toList_none, List.cons_append, List.nil_append, List.length_cons, List.length_nil, List.mem_cons, List.not_mem_nil, or_false, false_or, or_true, true_or, ↓reduceIte, true_and, and_true, Nat.reduceEqDiff, Nat.reduceAdd, Nat.reduceLeDiff, Nat.reduceLT, dl_i, dl_r, dl_n, dl_u, eq_self, not_true_eq_false, not_false_eq_true, n10, n01, nm0, n0m, r3, tT, v7, c1, imp_t, imp_f]
      exact h0 hno
    | succ g ih =>
      intro v hg hno
      have i9 : v < 9 := by omega
      have c1 : (nI S.1.1 ≤ nI v) = False := by rw [nIl (by omega) (by omega)]; exact eq_false (by omega)
      have rO := hop v (by omega)
      have tO : tyc (shB b) E (op v) = 6 := ((hid v (by omega)).A (b := b) (E := E)).1
      have eh := (ho v (by omega)).1.2.2.2
      refine hgo 20 [2] 2 _ _ _ _ _ ?_
      simp only [ixr_of, run_s, run_0, rAq_asksDay, rok_i, rok_z, bx_cons, bx_nil, eAALD106, eC0, eC1, eGI, eGO, eGR, jICge, jIFeq, eINC1, eLA0, eLI1, eRI, eSI1, fAq_asksDay_0, fAq_asksDay_2, fAq_asksDay_13, fAq_asksDay_25, fAq_asksDay_27, fAq_asksDay_33, bAq_asksDay_0, bAq_asksDay_2, bAq_asksDay_13, bAq_asksDay_25, bAq_asksDay_27, bAq_asksDay_33, ln_xaqueduct_change, ln_xaqueduct_decided, ln_xaqueduct_fresh, ln_xaqueduct_sight, ln_xopinions, rg_xaqueduct_1, rg_xaqueduct_2, rg_xaqueduct_3, rg_xaqueduct_4, rg_xaqueduct_5, ty_xaqueduct, ty_xaqueduct_change, ty_xaqueduct_decided, ty_xaqueduct_fresh, ty_xaqueduct_sight, ty_xopinions, Option.toList_some, Option.toList_none, List.cons_append, List.nil_append, List.length_cons, List.length_nil, List.mem_cons, List.not_mem_nil, or_false, false_or, or_true, true_or, ↓reduceIte, true_and, and_true, Nat.reduceEqDiff, Nat.reduceAdd, Nat.reduceLeDiff, Nat.reduceLT, dl_i, dl_r, dl_n, dl_u, eq_self, not_true_eq_false, not_false_eq_true, n10, n01, nm0, n0m, r3, tT, v7, c1, rO, tO, eh, i9, nI_add, imp_t, imp_f]
      by_cases q : 1004 ∈ stA (PS v)
      · rw [bi_t q]
        exact ⟨fun z => absurd z n10, fun _ => h1 ⟨v, by omega, q⟩⟩
      · rw [bi_f q]
        refine ⟨fun _ => ih (v + 1) (by omega) (fun u hu => ?_), fun z => absurd rfl z⟩
        by_cases e : u = v
        · rw [e]; exact q
        · exact hno u (by omega)
  refine hgo 20 [2] 0 _ _ _ _ _ ?_
  simp only [ixr_of, run_s, run_0, rAq_asksDay, rok_i, rok_z, bx_cons, bx_nil, eAALD106, eC0, eC1, eGI, eGO, eGR, jICge, jIFeq, eINC1, eLA0, eLI1, eRI, eSI1, fAq_asksDay_0, fAq_asksDay_2, fAq_asksDay_13, fAq_asksDay_25, fAq_asksDay_27, fAq_asksDay_33, bAq_asksDay_0, bAq_asksDay_2, bAq_asksDay_13, bAq_asksDay_25, bAq_asksDay_27, bAq_asksDay_33, ln_xaqueduct_change, ln_xaqueduct_decided, ln_xaqueduct_fresh, ln_xaqueduct_sight, ln_xopinions, rg_xaqueduct_1, rg_xaqueduct_2, rg_xaqueduct_3, rg_xaqueduct_4, rg_xaqueduct_5, ty_xaqueduct, ty_xaqueduct_change, ty_xaqueduct_decided, ty_xaqueduct_fresh, ty_xaqueduct_sight, ty_xopinions, Option.toList_some, Option.toList_none, List.cons_append, List.nil_append, List.length_cons, List.length_nil, List.mem_cons, List.not_mem_nil, or_false, false_or, or_true, true_or, ↓reduceIte, true_and, and_true, Nat.reduceEqDiff, Nat.reduceAdd, Nat.reduceLeDiff, Nat.reduceLT, dl_i, dl_r, dl_n, dl_u, eq_self, not_true_eq_false, not_false_eq_true, n10, n01, nm0, n0m, imp_t, imp_f]
  exact loop S.1.1 0 (by omega) (fun u hu => absurd hu (by omega))
end XQl
