/-! foresight: wishes, droughts, the game -/
/-- grades packed -/
def pkF (G : Nat → Int32) : Nat → Int32
  | 0 => nI 0
  | k + 1 => pkF G k * nI 4 + G k
def pkN (g : Nat → Nat) : Nat → Nat
  | 0 => 0
  | k + 1 => pkN g k * 4 + g k
theorem pk_N {G : Nat → Int32} {g : Nat → Nat} : ∀ n, (∀ v, v < n → G v = nI (g v)) → pkF G n = nI (pkN g n)
  | 0, _ => rfl
  | n + 1, h => by
    show pkF G n * nI 4 + G n = nI (pkN g n * 4 + g n)
    rw [pk_N n (fun v hv => h v (by omega)), h n (by omega), pk_mul, nI_add]
theorem pkN_lt {g : Nat → Nat} : ∀ n, (∀ v, v < n → g v ≤ 3) → pkN g n < 4 ^ n
  | 0, _ => Nat.one_pos
  | n + 1, h => by
    have := pkN_lt n (fun v hv => h v (by omega))
    have h3 := h n (by omega)
    show pkN g n * 4 + g n < 4 ^ (n + 1)
    rw [Nat.pow_succ]
    omega
theorem pkN_inj {g g' : Nat → Nat} : ∀ n, (∀ v, v < n → g v ≤ 3 ∧ g' v ≤ 3) → pkN g n = pkN g' n → ∀ v, v < n → g v = g' v
  | 0, _, _, v, hv => absurd hv (by omega)
  | n + 1, h, e, v, hv => by
    have h3 := h n (by omega)
    have e' : pkN g n * 4 + g n = pkN g' n * 4 + g' n := e
    by_cases q : v = n
    · rw [q]; omega
    · exact pkN_inj n (fun v hv => h v (by omega)) (by omega) v (by omega)
def Gr3 (G : Nat → Int32) : Prop := ∀ v, v < 9 → ∃ g, g ≤ 3 ∧ G v = nI g
theorem pk_eq' {A B : Nat → Int32} {nV : Nat} (h9 : nV ≤ 9) (hA : Gr3 A) (hB : Gr3 B) : pkF A nV = pkF B nV ↔ eqG nV A B := by
  obtain ⟨a, ha⟩ : ∃ a : Nat → Nat, ∀ v, v < 9 → a v ≤ 3 ∧ A v = nI (a v) := ⟨fun v => if h : v < 9 then (hA v h).choose else 0, fun v hv => by simp only [hv, dif_pos]; exact (hA v hv).choose_spec⟩
  obtain ⟨c, hc⟩ : ∃ a : Nat → Nat, ∀ v, v < 9 → a v ≤ 3 ∧ B v = nI (a v) := ⟨fun v => if h : v < 9 then (hB v h).choose else 0, fun v hv => by simp only [hv, dif_pos]; exact (hB v hv).choose_spec⟩
  have h49 : 4 ^ nV ≤ 4 ^ 9 := Nat.pow_le_pow_right (by decide) h9
  have l1 := pkN_lt (g := a) nV (fun v hv => (ha v (by omega)).1)
  have l2 := pkN_lt (g := c) nV (fun v hv => (hc v (by omega)).1)
  have h4 : (4 : Nat) ^ 9 = 262144 := by decide
  rw [pk_N nV (fun v hv => (ha v (by omega)).2), pk_N nV (fun v hv => (hc v (by omega)).2), nI_eq (by omega) (by omega)]
  constructor
  · intro e v hv
    rw [(ha v (by omega)).2, (hc v (by omega)).2, pkN_inj nV (fun v hv => ⟨(ha v (by omega)).1, (hc v (by omega)).1⟩) e v hv]
  · intro e
    have : ∀ n, n ≤ nV → pkN a n = pkN c n := by
      intro n
      induction n with
      | zero => intro _; rfl
      | succ n ih =>
        intro hn
        have h7 := e n (by omega)
        rw [(ha n (by omega)).2, (hc n (by omega)).2, nI_eq (by have := (ha n (by omega)).1; omega) (by have := (hc n (by omega)).1; omega)] at h7
        show pkN a n * 4 + a n = pkN c n * 4 + c n
        rw [ih (by omega), h7]
    exact this nV (Nat.le_refl _)
section XQg
variable {Γ : Gm} {l : Launch} {b : Bool} {d : Nat} {I J : Iv} {E : Ev} {kr : Kr} {kx : Kxx} {y t n : Nat} {S : Tn} {PS : Nat → List Pt} {op : Nat → Nat} {P : Pm} {q : (Nat → Int32) × Int32}
theorem x_gradesOf (hA : DyA (shB b) E y) (hV : DyV J y S.1.1) (hk : kr (some (.int (pkF (J (y + 6)) S.1.1))) J E) : Ex Γ l (shB b) (d + 1) (0, 0) mFo_gradesOf [.ref y] J E kr kx := by
  refine ex_of (ls0 := [some (.ref y), none, none]) tFo_gradesOf (by decide +kernel) kFo_gradesOf rfl (Nat.le_of_ble_eq_true rfl) rfl ?_
  intro go hgo
  obtain ⟨tY, ⟨-, -, -, -, -, g5, -⟩, ⟨-, -, -, -, -, t6, -⟩, -, -, -, -, -, l6, -⟩ := hA
  obtain ⟨v7, v8, v9⟩ := hV
  have loop : ∀ (g k : Nat), g + k = S.1.1 → go 4 [some (.ref y), some (.int (pkF (J (y + 6)) k)), some (.int (nI k))] [] J E (0, 0) := by
    intro g
    induction g with
    | zero =>
      intro k hg
      have : k = S.1.1 := by omega
      subst this
      have c1 : (nI S.1.1 ≤ nI S.1.1) = True := eq_true (Int32.le_refl _)
      refine hgo 20 [4] 4 _ _ _ _ _ ?_
      simp only [ixr_of, run_s, run_0, rFo_gradesOf, rok_i, rok_z, bx_cons, bx_nil, eADD, eC0, eC4, eGI, eGO, eGR, eIALD, jICge, eINC2, eLA0, eLI1, eLI2, eMUL, eRI, eSI1, eSI2, fFo_gradesOf_0, fFo_gradesOf_4, fFo_gradesOf_12, fFo_gradesOf_29, bFo_gradesOf_0, bFo_gradesOf_4, bFo_gradesOf_12, bFo_gradesOf_29, ln_xformerGrades, rg_xforesight_0, rg_xforesight_1, rg_xforesight_2, ty_xaqueduct, ty_xforesight, ty_xformerGrades, ty_xftrial, Option.toList_some, Option.toList_none, List.cons_append, List.nil_append, List.length_cons, List.length_nil, List.mem_cons, List.not_mem_nil, or_false, false_or, or_true, true_or, ↓reduceIte, true_and, and_true, Nat.reduceEqDiff, Nat.reduceAdd, Nat.reduceLeDiff, Nat.reduceLT, dl_i, dl_r, dl_n, dl_u, eq_self, not_true_eq_false, not_false_eq_true, n10, n01, nm0, n0m, tY, v7, c1, imp_t, imp_f]
      exact hk
    | succ g ih =>
      intro k hg
      have i9 : k < 9 := by omega
      have c1 : (nI S.1.1 ≤ nI k) = False := by rw [nIl (by omega) (by omega)]; exact eq_false (by omega)
      refine hgo 20 [4] 4 _ _ _ _ _ ?_
      simp only [ixr_of, run_s, run_0, rFo_gradesOf, rok_i, rok_z, bx_cons, bx_nil, eADD, eC0, eC4, eGI, eGO, eGR, eIALD, jICge, eINC2, eLA0, eLI1, eLI2, eMUL, eRI, eSI1, eSI2, fFo_gradesOf_0, fFo_gradesOf_4, fFo_gradesOf_12, fFo_gradesOf_29, bFo_gradesOf_0, bFo_gradesOf_4, bFo_gradesOf_12, bFo_gradesOf_29, ln_xformerGrades, rg_xforesight_0, rg_xforesight_1, rg_xforesight_2, ty_xaqueduct, ty_xforesight, ty_xformerGrades, ty_xftrial, Option.toList_some, Option.toList_none, List.cons_append, List.nil_append, List.length_cons, List.length_nil, List.mem_cons, List.not_mem_nil, or_false, false_or, or_true, true_or, ↓reduceIte, true_and, and_true, Nat.reduceEqDiff, Nat.reduceAdd, Nat.reduceLeDiff, Nat.reduceLT, dl_i, dl_r, dl_n, dl_u, eq_self, not_true_eq_false, not_false_eq_true, n10, n01, nm0, n0m, tY, v7, c1, g5, t6, l6, i9, nI_add, imp_t, imp_f]
      exact ih (k + 1) (by omega)
  refine hgo 20 [4] 0 _ _ _ _ _ ?_
  simp only [ixr_of, run_s, run_0, rFo_gradesOf, rok_i, rok_z, bx_cons, bx_nil, eADD, eC0, eC4, eGI, eGO, eGR, eIALD, jICge, eINC2, eLA0, eLI1, eLI2, eMUL, eRI, eSI1, eSI2, fFo_gradesOf_0, fFo_gradesOf_4, fFo_gradesOf_12, fFo_gradesOf_29, bFo_gradesOf_0, bFo_gradesOf_4, bFo_gradesOf_12, bFo_gradesOf_29, ln_xformerGrades, rg_xforesight_0, rg_xforesight_1, rg_xforesight_2, ty_xaqueduct, ty_xforesight, ty_xformerGrades, ty_xftrial, Option.toList_some, Option.toList_none, List.cons_append, List.nil_append, List.length_cons, List.length_nil, List.mem_cons, List.not_mem_nil, or_false, false_or, or_true, true_or, ↓reduceIte, true_and, and_true, Nat.reduceEqDiff, Nat.reduceAdd, Nat.reduceLeDiff, Nat.reduceLT, dl_i, dl_r, dl_n, dl_u, eq_self, not_true_eq_false, not_false_eq_true, n10, n01, nm0, n0m, imp_t, imp_f]
  exact loop S.1.1 0 (by omega)
theorem x_wishOf {v m c : Nat} (hG : GX Γ) (hA : TwR b J E S PS t op) (hN : NwI I J S n) (hn : n ≤ 1000) (hm : m ≤ 30) (hv : v < S.1.1) (hc : c ≤ 99)
    (hk : ∀ K, XF 48 J K → kr (some (.int (nI (wsN I S.1.1 S.1.2 v m (nI c) 4).1))) K E) : Ex Γ l (shB b) (d + 7) (0, 0) mFo_wishOf [.ref 47, .ref 71, .int (nI v), .int (nI m), .int (nI c)] J E kr kx := by
  refine ex_of (ls0 := [some (.ref 47), some (.ref 71), some (.int (nI v)), some (.int (nI m)), some (.int (nI c)), none, none, none, none]) tFo_wishOf (by decide +kernel) kFo_wishOf rfl (Nat.le_of_ble_eq_true rfl) rfl ?_
  intro go hgo
  have hS := hA.1.2.2.2.1
  have s9 := hS.1
  have loop : ∀ (f k : Nat) (K : Iv) (be le : Int32) (x8 : Option Value), f + k = 4 → XF 48 J K → (k = 0 → be = nI 0 ∧ le = nI 2147483647) → (0 < k → be = nI (wsN I S.1.1 S.1.2 v m (nI c) k).1 ∧ le = (wsN I S.1.1 S.1.2 v m (nI c) k).2) → go 10 [some (.ref 47), some (.ref 71), some (.int (nI v)), some (.int (nI m)), some (.int (nI c)), some (.int be), some (.int le), some (.int (nI k)), x8] [] K E (0, 0) := by
    intro f
    induction f with
    | zero =>
      intro k K be le x8 hf hX h0 h1
      have : k = 4 := by omega
      subst this
      have c1 : (nI 3 < nI 4) = True := by decide
      refine hgo 20 [10] 10 _ _ _ _ _ ?_
      simp only [ixr_of, run_s, run_0, rFo_wishOf, rok_i, rok_z, bx_cons, bx_nil, eC0, eC3, eCV6, eGO, jICge, jICgt, eINC7, eLA0, eLA1, eLDC, eLI2, eLI3, eLI4, eLI5, eLI6, eLI7, eLI8, eRI, eSI5, eSI6, eSI7, eSI8, fFo_wishOf_0, fFo_wishOf_10, fFo_wishOf_16, fFo_wishOf_38, fFo_wishOf_46, fFo_wishOf_52, bFo_wishOf_0, bFo_wishOf_10, bFo_wishOf_16, bFo_wishOf_38, bFo_wishOf_46, bFo_wishOf_52, ln_xformerGrades, rg_xforesight_0, rg_xforesight_1, rg_xforesight_2, ty_xaqueduct, ty_xforesight, ty_xformerGrades, ty_xftrial, Option.toList_some, Option.toList_none, List.cons_append, List.nil_append, List.length_cons, List.length_nil, List.mem_cons, List.not_mem_nil, or_false, false_or, or_true, true_or, ↓reduceIte, true_and, and_true, Nat.reduceEqDiff, Nat.reduceAdd, Nat.reduceLeDiff, Nat.reduceLT, dl_i, dl_r, dl_n, dl_u, eq_self, not_true_eq_false, not_false_eq_true, n10, n01, nm0, n0m, c1, imp_t, imp_f]
      rw [(h1 (by decide)).1]
      exact hk K hX
    | succ f ih =>
      intro k K be le x8 hf hX h0 h1
      have c1 : (nI 3 < nI k) = False := by rw [nIt (by omega) (by omega)]; exact eq_false (by omega)
      refine hgo 20 [10] 10 _ _ _ _ _ ?_
      simp only [ixr_of, run_s, run_0, rFo_wishOf, rok_i, rok_z, bx_cons, bx_nil, eC0, eC3, eCV6, eGO, jICge, jICgt, eINC7, eLA0, eLA1, eLDC, eLI2, eLI3, eLI4, eLI5, eLI6, eLI7, eLI8, eRI, eSI5, eSI6, eSI7, eSI8, fFo_wishOf_0, fFo_wishOf_10, fFo_wishOf_16, fFo_wishOf_38, fFo_wishOf_46, fFo_wishOf_52, bFo_wishOf_0, bFo_wishOf_10, bFo_wishOf_16, bFo_wishOf_38, bFo_wishOf_46, bFo_wishOf_52, ln_xformerGrades, rg_xforesight_0, rg_xforesight_1, rg_xforesight_2, ty_xaqueduct, ty_xforesight, ty_xformerGrades, ty_xftrial, Option.toList_some, Option.toList_none, List.cons_append, List.nil_append, List.length_cons, List.length_nil, List.mem_cons, List.not_mem_nil, or_false, false_or, or_true, true_or, ↓reduceIte, true_and, and_true, Nat.reduceEqDiff, Nat.reduceAdd, Nat.reduceLeDiff, Nat.reduceLT, dl_i, dl_r, dl_n, dl_u, eq_self, not_true_eq_false, not_false_eq_true, n10, n01, nm0, n0m, c1, imp_t, imp_f]
      refine call0 (x_lossWith hG (hA.xf (Or.inl rfl) hX) (hN.xf s9 (Or.inl rfl) hX) hn hm hv (by omega) hc (fun L a e hXL hL he ha => ?_))
      have hw : wsN I S.1.1 S.1.2 v m (nI c) (k + 1) = if 0 < k ∧ ¬ nI e < (wsN I S.1.1 S.1.2 v m (nI c) k).2 then wsN I S.1.1 S.1.2 v m (nI c) k else (k, nI e) := by rw [← hL]; rfl
      simp only [ixr_of, run_s, run_0, rFo_wishOf, rok_i, rok_z, bx_cons, bx_nil, eC0, eC3, eCV6, eGO, jICge, jICgt, eINC7, eLA0, eLA1, eLDC, eLI2, eLI3, eLI4, eLI5, eLI6, eLI7, eLI8, eRI, eSI5, eSI6, eSI7, eSI8, fFo_wishOf_0, fFo_wishOf_10, fFo_wishOf_16, fFo_wishOf_38, fFo_wishOf_46, fFo_wishOf_52, bFo_wishOf_0, bFo_wishOf_10, bFo_wishOf_16, bFo_wishOf_38, bFo_wishOf_46, bFo_wishOf_52, ln_xformerGrades, rg_xforesight_0, rg_xforesight_1, rg_xforesight_2, ty_xaqueduct, ty_xforesight, ty_xformerGrades, ty_xftrial, Option.toList_some, Option.toList_none, List.cons_append, List.nil_append, List.length_cons, List.length_nil, List.mem_cons, List.not_mem_nil, or_false, false_or, or_true, true_or, ↓reduceIte, true_and, and_true, Nat.reduceEqDiff, Nat.reduceAdd, Nat.reduceLeDiff, Nat.reduceLT, dl_i, dl_r, dl_n, dl_u, eq_self, not_true_eq_false, not_false_eq_true, n10, n01, nm0, n0m, nI_add, imp_t, imp_f]
      refine ⟨fun z => ?_, fun z => ?_⟩
      · -- not less
        have k0 : 0 < k := by
          by_cases q : k = 0
          · have hle := (h0 q).2
            rw [hle] at z ha
            exfalso
            rcases ha with ha | ⟨ha1, ha2⟩
            · rw [ha, nI_leI (by decide) (by omega)] at z
              omega
            · rw [nI_leI (by decide) (by omega)] at ha2
              omega
          · omega
        refine ih (k + 1) L be le _ (by omega) (hX.tr hXL) (fun q => absurd q (by omega)) (fun _ => ?_)
        have hno : ¬ nI e < le := by
          rcases ha with ha | ⟨ha1, ha2⟩
          · rw [ha] at z; exact Int32.not_lt.mpr z
          · exact Int32.not_lt.mpr ha2
        rw [(h1 k0).2] at hno
        rw [hw, if_pos ⟨k0, hno⟩]
        exact h1 k0
      · have ea : a = nI e := by
          rcases ha with ha | ⟨ha1, ha2⟩
          · exact ha
          · exact absurd ha1 z
        subst ea
        refine ih (k + 1) L (nI k) (nI e) _ (by omega) (hX.tr hXL) (fun q => absurd q (by omega)) (fun _ => ?_)
        rw [hw, if_neg (fun c => c.2 (by rw [← (h1 c.1).2]; exact Int32.not_le.mp z))]
        exact ⟨rfl, rfl⟩
  refine hgo 20 [10] 0 _ _ _ _ _ ?_
  simp only [ixr_of, run_s, run_0, rFo_wishOf, rok_i, rok_z, bx_cons, bx_nil, eC0, eC3, eCV6, eGO, jICge, jICgt, eINC7, eLA0, eLA1, eLDC, eLI2, eLI3, eLI4, eLI5, eLI6, eLI7, eLI8, eRI, eSI5, eSI6, eSI7, eSI8, fFo_wishOf_0, fFo_wishOf_10, fFo_wishOf_16, fFo_wishOf_38, fFo_wishOf_46, fFo_wishOf_52, bFo_wishOf_0, bFo_wishOf_10, bFo_wishOf_16, bFo_wishOf_38, bFo_wishOf_46, bFo_wishOf_52, ln_xformerGrades, rg_xforesight_0, rg_xforesight_1, rg_xforesight_2, ty_xaqueduct, ty_xforesight, ty_xformerGrades, ty_xftrial, Option.toList_some, Option.toList_none, List.cons_append, List.nil_append, List.length_cons, List.length_nil, List.mem_cons, List.not_mem_nil, or_false, false_or, or_true, true_or, ↓reduceIte, true_and, and_true, Nat.reduceEqDiff, Nat.reduceAdd, Nat.reduceLeDiff, Nat.reduceLT, dl_i, dl_r, dl_n, dl_u, eq_self, not_true_eq_false, not_false_eq_true, n10, n01, nm0, n0m, imp_t, imp_f]
  exact loop 4 0 J _ _ _ (by omega) XF.rf (fun _ => ⟨rfl, rfl⟩) (fun q => absurd q (by omega))
theorem x_droughtWater {x : Int32} {q m : Nat} (hG : GX Γ) (hA : TwR b J E S PS t op) (hN : NwI I J S n) (hn : n ≤ 1000) (hm : m ≤ 60) (hq : q ≤ 16)
    (hk : ∀ K e, XF 48 J K → DR K 48 S (n + m) (it2 I S.1.1 S.1.2 (pmD I (nI q)) (I 500124, x) m).1 → dwS I S.1.1 S.1.2 (pmD I (nI q)) (I 500124, x) m = nI e → e < 100000000 → kr (some (.int (nI e))) K E) : Ex Γ l (shB b) (d + 6) (0, 0) mFo_droughtWater [.ref 47, .ref 71, .int x, .int (nI q), .int (nI m)] J E kr kx := by
  refine ex_of (ls0 := [some (.ref 47), some (.ref 71), some (.int x), some (.int (nI q)), some (.int (nI m)), none, none]) tFo_droughtWater (by decide +kernel) kFo_droughtWater rfl (Nat.le_of_ble_eq_true rfl) rfl ?_
  intro go hgo
  have hS := hA.1.2.2.2.1
  have s9 := hS.1
  have ty48 : tyc (shB b) E 48 = 3 := dyA_48.1
  have rg48 : rget (shB b) E 48 6 = .ref 55 := dyA_48.2.1.2.2.2.2.2.2
  have ty55 : tyc (shB b) E 55 = 101 := dyA_48.2.2.1.2.2.2.2.2.2
  have ln55 : len (shB b) E 55 = 4 := dyA_48.2.2.2.2.2.2.2.2.2
  refine hgo 20 [30] 0 _ _ _ _ _ ?_
  simp only [ixr_of, run_s, run_0, rFo_droughtWater, rok_i, rok_z, bx_cons, bx_nil, eADD, eC0, eCV1, eGO, eGR, eIALD, jICge, eINC6, eLA0, eLA1, eLI2, eLI3, eLI4, eLI5, eLI6, ePI, eRI, eSI5, eSI6, fFo_droughtWater_0, fFo_droughtWater_30, fFo_droughtWater_37, fFo_droughtWater_68, bFo_droughtWater_0, bFo_droughtWater_30, bFo_droughtWater_37, bFo_droughtWater_68, ln_xformerGrades, rg_xforesight_0, rg_xforesight_1, rg_xforesight_2, ty_xaqueduct, ty_xforesight, ty_xformerGrades, ty_xftrial, Option.toList_some, Option.toList_none, List.cons_append, List.nil_append, List.length_cons, List.length_nil, List.mem_cons, List.not_mem_nil, or_false, false_or, or_true, true_or, ↓reduceIte, true_and, and_true, Nat.reduceEqDiff, Nat.reduceAdd, Nat.reduceLeDiff, Nat.reduceLT, dl_i, dl_r, dl_n, dl_u, eq_self, not_true_eq_false, not_false_eq_true, n10, n01, nm0, n0m, imp_t, imp_f]
  refine call0 (x_copyFrom dyA_48 dyA_71 (by decide) (fun L hL => ?_))
  have hQ := hN.2.cp s9 hL
  simp only [ixr_of, run_s, run_0, rFo_droughtWater, rok_i, rok_z, bx_cons, bx_nil, eADD, eC0, eCV1, eGO, eGR, eIALD, jICge, eINC6, eLA0, eLA1, eLI2, eLI3, eLI4, eLI5, eLI6, ePI, eRI, eSI5, eSI6, fFo_droughtWater_0, fFo_droughtWater_30, fFo_droughtWater_37, fFo_droughtWater_68, bFo_droughtWater_0, bFo_droughtWater_30, bFo_droughtWater_37, bFo_droughtWater_68, ln_xformerGrades, rg_xforesight_0, rg_xforesight_1, rg_xforesight_2, ty_xaqueduct, ty_xforesight, ty_xformerGrades, ty_xftrial, Option.toList_some, Option.toList_none, List.cons_append, List.nil_append, List.length_cons, List.length_nil, List.mem_cons, List.not_mem_nil, or_false, false_or, or_true, true_or, ↓reduceIte, true_and, and_true, Nat.reduceEqDiff, Nat.reduceAdd, Nat.reduceLeDiff, Nat.reduceLT, dl_i, dl_r, dl_n, dl_u, eq_self, not_true_eq_false, not_false_eq_true, n10, n01, nm0, n0m, ty48, imp_t, imp_f]
  obtain ⟨L2, hL2⟩ : ∃ L2, L2 = up (up L 48 16 x) 48 17 (nI q) := ⟨_, rfl⟩
  rw [← hL2]
  have hX2 : XF 48 J L2 := by rw [hL2]; exact (hL.xf.up (by decide) (by decide)).up (by decide) (by decide)
  have eo : ∀ k, k ≠ 16 → k ≠ 17 → L2 48 k = L 48 k := fun k h1 h2 => by rw [hL2, up_n (by omega), up_n (by omega)]
  have ea : ∀ j k, 1 ≤ j → L2 (48 + j) k = L (48 + j) k := fun j k hj => by rw [hL2, up_n (by omega), up_n (by omega)]
  have e16 : L2 48 16 = x := by rw [hL2, up_n (by omega), up_s]
  have e17 : L2 48 17 = nI q := by rw [hL2, up_s]
  have hD2 : DR L2 48 S n (I 500124) := hQ.1.cg s9 (fun k hk => eo k (by omega) (by omega)) (fun k _ => ea 1 k (by omega)) (fun k _ => ea 2 k (by omega)) (fun k _ => ea 3 k (by omega)) (fun k _ => ea 4 k (by omega)) (fun k _ => ea 5 k (by omega)) (fun k _ => ea 7 k (by omega))
  have hMI := hA.2.1.t hS hN.1.sm
  have e6 : L2 (48 + 6) = L (48 + 6) := by funext k; exact ea 6 k (by omega)
  have hP0 := hQ.pe hS hMI (fun v _ => rfl)
  have hP : Pe S.1.1 (PmD L2 48 S) (pmD I (nI q)) := by
    refine ⟨fun v hv => ⟨?_, ?_, fun h hh => ?_⟩, e17⟩
    · refine Eq.trans ?_ (hP0.1 v hv).1
      show (!plX L2 48 v) = !plX L 48 v
      unfold plX
      rw [eo 10 (by decide) (by decide)]
    · refine Eq.trans ?_ (hP0.1 v hv).2.1
      show coX L2 48 v = coX L 48 v
      unfold coX
      rw [eo 11 (by decide) (by decide)]
    · refine Eq.trans ?_ ((hP0.1 v hv).2.2 h hh)
      show snX S (L2 (48 + 6)) (L2 48 14, L2 48 15) v h = snX S (L (48 + 6)) (L 48 14, L 48 15) v h
      rw [e6, eo 14 (by decide) (by decide), eo 15 (by decide) (by decide)]
  have hV : PmV L2 48 S := by
    have := hQ.v hS
    refine ⟨fun v h hv hh => ?_, by rw [e17]; exact nI_nn (by omega)⟩
    rw [e6, eo 14 (by decide) (by decide), eo 15 (by decide) (by decide)]
    exact this.1 v h hv hh
  have loop : ∀ (f k e : Nat) (K : Iv), f + k = m → XF 48 J K → TwR b K E S PS t op → SayT I K → DyS S (PmD L2 48 S) 48 (n + k) (it2 I S.1.1 S.1.2 (PmD L2 48 S) (I 500124, x) k) K → dwS I S.1.1 S.1.2 (pmD I (nI q)) (I 500124, x) k = nI e → e ≤ k * 1000000 → go 30 [some (.ref 47), some (.ref 71), some (.int x), some (.int (nI q)), some (.int (nI m)), some (.int (nI e)), some (.int (nI k))] [] K E (0, 0) := by
    intro f
    induction f with
    | zero =>
      intro k e K hf hX hA' hI' hD' he hb
      have : k = m := by omega
      subst this
      have c1 : (nI k ≤ nI k) = True := eq_true (Int32.le_refl _)
      refine hgo 20 [30] 30 _ _ _ _ _ ?_
      simp only [ixr_of, run_s, run_0, rFo_droughtWater, rok_i, rok_z, bx_cons, bx_nil, eADD, eC0, eCV1, eGO, eGR, eIALD, jICge, eINC6, eLA0, eLA1, eLI2, eLI3, eLI4, eLI5, eLI6, ePI, eRI, eSI5, eSI6, fFo_droughtWater_0, fFo_droughtWater_30, fFo_droughtWater_37, fFo_droughtWater_68, bFo_droughtWater_0, bFo_droughtWater_30, bFo_droughtWater_37, bFo_droughtWater_68, ln_xformerGrades, rg_xforesight_0, rg_xforesight_1, rg_xforesight_2, ty_xaqueduct, ty_xforesight, ty_xformerGrades, ty_xftrial, Option.toList_some, Option.toList_none, List.cons_append, List.nil_append, List.length_cons, List.length_nil, List.mem_cons, List.not_mem_nil, or_false, false_or, or_true, true_or, ↓reduceIte, true_and, and_true, Nat.reduceEqDiff, Nat.reduceAdd, Nat.reduceLeDiff, Nat.reduceLT, dl_i, dl_r, dl_n, dl_u, eq_self, not_true_eq_false, not_false_eq_true, n10, n01, nm0, n0m, c1, imp_t, imp_f]
      refine hk K e hX ?_ he (by omega)
      have := hD'.1
      rw [it2_pe hP] at this
      exact this
    | succ f ih =>
      intro k e K hf hX hA' hI' hD' he hb
      have c1 : (nI m ≤ nI k) = False := by rw [nIl (by omega) (by omega)]; exact eq_false (by omega)
      refine hgo 20 [30] 30 _ _ _ _ _ ?_
      simp only [ixr_of, run_s, run_0, rFo_droughtWater, rok_i, rok_z, bx_cons, bx_nil, eADD, eC0, eCV1, eGO, eGR, eIALD, jICge, eINC6, eLA0, eLA1, eLI2, eLI3, eLI4, eLI5, eLI6, ePI, eRI, eSI5, eSI6, fFo_droughtWater_0, fFo_droughtWater_30, fFo_droughtWater_37, fFo_droughtWater_68, bFo_droughtWater_0, bFo_droughtWater_30, bFo_droughtWater_37, bFo_droughtWater_68, ln_xformerGrades, rg_xforesight_0, rg_xforesight_1, rg_xforesight_2, ty_xaqueduct, ty_xforesight, ty_xformerGrades, ty_xftrial, Option.toList_some, Option.toList_none, List.cons_append, List.nil_append, List.length_cons, List.length_nil, List.mem_cons, List.not_mem_nil, or_false, false_or, or_true, true_or, ↓reduceIte, true_and, and_true, Nat.reduceEqDiff, Nat.reduceAdd, Nat.reduceLeDiff, Nat.reduceLT, dl_i, dl_r, dl_n, dl_u, eq_self, not_true_eq_false, not_false_eq_true, n10, n01, nm0, n0m, c1, imp_t, imp_f]
      refine call0 (x_day hG hA' (Or.inl rfl) hD' (by omega) hI' (fun M g1 g2 g3 g4 => ?_))
      have g5 : DyS S (PmD L2 48 S) 48 (n + (k + 1)) (it2 I S.1.1 S.1.2 (PmD L2 48 S) (I 500124, x) (k + 1)) M := g4
      have h5 := g5.1
      rw [it2_pe hP] at h5
      have h0 : M 55 0 = _ := h5.2.2.2.2.2.2.2.2.2.2.1 0 (by decide)
      obtain ⟨z, hz, ez⟩ := h5.2.2.2.2.2.2.2.2.2.2.2.2.2
      have h0' : M 55 0 = nI z := h0.trans ez
      simp only [ixr_of, run_s, run_0, rFo_droughtWater, rok_i, rok_z, bx_cons, bx_nil, eADD, eC0, eCV1, eGO, eGR, eIALD, jICge, eINC6, eLA0, eLA1, eLI2, eLI3, eLI4, eLI5, eLI6, ePI, eRI, eSI5, eSI6, fFo_droughtWater_0, fFo_droughtWater_30, fFo_droughtWater_37, fFo_droughtWater_68, bFo_droughtWater_0, bFo_droughtWater_30, bFo_droughtWater_37, bFo_droughtWater_68, ln_xformerGrades, rg_xforesight_0, rg_xforesight_1, rg_xforesight_2, ty_xaqueduct, ty_xforesight, ty_xformerGrades, ty_xftrial, Option.toList_some, Option.toList_none, List.cons_append, List.nil_append, List.length_cons, List.length_nil, List.mem_cons, List.not_mem_nil, or_false, false_or, or_true, true_or, ↓reduceIte, true_and, and_true, Nat.reduceEqDiff, Nat.reduceAdd, Nat.reduceLeDiff, Nat.reduceLT, dl_i, dl_r, dl_n, dl_u, eq_self, not_true_eq_false, not_false_eq_true, n10, n01, nm0, n0m, ty48, rg48, ty55, ln55, h0', nI_add, imp_t, imp_f]
      refine ih (k + 1) (e + z) M (by omega) (hX.tr g1) g2 g3 g5 ?_ (by omega)
      show dwS I S.1.1 S.1.2 (pmD I (nI q)) (I 500124, x) k + (it2 I S.1.1 S.1.2 (pmD I (nI q)) (I 500124, x) (k + 1)).1 497 = _
      rw [he, ez, nI_add]
  exact loop m 0 0 L2 (by omega) hX2 (hA.xf (Or.inl rfl) hX2) (hN.1.tr (hX2.t (Or.inl rfl))) ⟨hD2, e16, rfl, hV⟩ rfl (by omega)
end XQg
