/-! constructors, 2: the aqueduct -/
def tnR (y : Nat) (rs : List (Nat × Nat × Nat)) : List (Nat × Nat × Nat) := (y, 9, y + 10) :: (y, 8, y + 9) :: (y, 7, y + 8) :: (y, 6, y + 7) :: (y, 5, y + 6) :: (y, 4, y + 5) :: (y, 3, y + 4) :: (y, 2, y + 3) :: (y, 1, y + 2) :: (y, 0, y + 1) :: rs
def dyR' (y : Nat) (rs : List (Nat × Nat × Nat)) : List (Nat × Nat × Nat) := (y, 6, y + 7) :: (y, 5, y + 6) :: (y, 4, y + 5) :: (y, 3, y + 4) :: (y, 2, y + 3) :: (y, 1, y + 2) :: (y, 0, y + 1) :: rs
def opR (y : Nat) (rs : List (Nat × Nat × Nat)) : List (Nat × Nat × Nat) := (y, 1, y + 2) :: (y, 0, y + 1) :: rs
/-- nothing is written there yet -/
def Nr (y : Nat) (rs : List (Nat × Nat × Nat)) : Prop := ∀ i j, y ≤ i → rlk rs i j = none
theorem Nr.c {y a b c : Nat} {rs : List (Nat × Nat × Nat)} (h : Nr y rs) (ha : a < y) : Nr y ((a, b, c) :: rs) := fun i j hi => by rw [rl_c (by omega)]; exact h i j hi
theorem Nr.m {y z : Nat} {rs : List (Nat × Nat × Nat)} (h : Nr y rs) (hz : y ≤ z) : Nr z rs := fun i j hi => h i j (by omega)
theorem Nr.tw {y z : Nat} {rs : List (Nat × Nat × Nat)} (h : Nr z rs) (hy : y < z) : Nr z (tnR y rs) := by
  unfold tnR
  exact (((((((((h.c hy).c hy).c hy).c hy).c hy).c hy).c hy).c hy).c hy).c hy
theorem Nr.op {y z : Nat} {rs : List (Nat × Nat × Nat)} (h : Nr z rs) (hy : y < z) : Nr z (opR y rs) := by
  unfold opR
  exact (h.c hy).c hy
theorem Nr.dy {y z : Nat} {rs : List (Nat × Nat × Nat)} (h : Nr z rs) (hy : y < z) : Nr z (dyR' y rs) := by
  unfold dyR'
  exact ((((((h.c hy).c hy).c hy).c hy).c hy).c hy).c hy
def aqR (rs : List (Nat × Nat × Nat)) : List (Nat × Nat × Nat) := (3, 5, 19) :: (3, 4, 18) :: (3, 3, 17) :: (3, 2, 16) :: (3, 1, 15) :: (3, 0, 4) :: tnR 4 rs
def opsR : Nat → List (Nat × Nat × Nat) → List (Nat × Nat × Nat)
  | 0, rs => rs
  | v + 1, rs => (15, v, 20 + 3 * v) :: opR (20 + 3 * v) (opsR v rs)
theorem Nr.aq {rs : List (Nat × Nat × Nat)} (h : Nr 3 rs) : Nr 20 (aqR rs) := by
  unfold aqR
  exact (((((((h.m (z := 20) (by omega)).tw (y := 4) (by omega)).c (by omega)).c (by omega)).c (by omega)).c (by omega)).c (by omega)).c (by omega)
theorem Nr.ops {rs : List (Nat × Nat × Nat)} (h : Nr 20 rs) : ∀ v, Nr (20 + 3 * v) (opsR v rs)
  | 0 => h
  | v + 1 => by
    unfold opsR
    exact (((Nr.ops h v).m (by omega)).op (by omega)).c (by omega)
theorem y_town' {Γ : Gm} {l : Launch} {d : Nat} {J : Iv} {kr : Kr} {kx : Kxx} {y k' : Nat} {rs : List (Nat × Nat × Nat)} (hk' : k' = y + 11) (hy : y < 400000) (hY : xTl.getD y 0 = 10) (hX : (xTl.getD (y + 1) 0 = 101 ∧ xNl.getD (y + 1) 0 = 9) ∧ (xTl.getD (y + 2) 0 = 101 ∧ xNl.getD (y + 2) 0 = 9) ∧ (xTl.getD (y + 3) 0 = 101 ∧ xNl.getD (y + 3) 0 = 9) ∧ (xTl.getD (y + 4) 0 = 101 ∧ xNl.getD (y + 4) 0 = 9) ∧ (xTl.getD (y + 5) 0 = 101 ∧ xNl.getD (y + 5) 0 = 9) ∧ (xTl.getD (y + 6) 0 = 101 ∧ xNl.getD (y + 6) 0 = 9) ∧ (xTl.getD (y + 7) 0 = 101 ∧ xNl.getD (y + 7) 0 = 27) ∧ (xTl.getD (y + 8) 0 = 101 ∧ xNl.getD (y + 8) 0 = 20) ∧ (xTl.getD (y + 9) 0 = 101 ∧ xNl.getD (y + 9) 0 = 20) ∧ (xTl.getD (y + 10) 0 = 101 ∧ xNl.getD (y + 10) 0 = 20)) (hr : Nr y rs)
    (hk : ∀ K, (∀ i, ¬ (y ≤ i ∧ i ≤ y + 10) → K i = J i) → (∀ i, y + 1 ≤ i → i ≤ y + 10 → K i = fun _ => nI 0) → (K y 10 = nI 0 ∧ K y 11 = nI 0 ∧ K y 12 = -1 ∧ K y 13 = nI 0 ∧ K y 14 = nI 20) → kr none K (CE Γ.1.1 k' (tnR y rs))) : Ex Γ l sh0 (d + 1) (10, 141) mTn_init [.ref y] J (CE Γ.1.1 (y + 1) rs) kr kx := by
  subst hk'
  exact y_town hy hY hX hr hk
theorem y_days' {Γ : Gm} {l : Launch} {d : Nat} {J : Iv} {kr : Kr} {kx : Kxx} {y k' : Nat} {rs : List (Nat × Nat × Nat)} (hk' : k' = y + 8) (hy : y < 400000) (hY : xTl.getD y 0 = 3) (hX : (xTl.getD (y + 1) 0 = 101 ∧ xNl.getD (y + 1) 0 = 252) ∧ (xTl.getD (y + 2) 0 = 101 ∧ xNl.getD (y + 2) 0 = 180) ∧ (xTl.getD (y + 3) 0 = 101 ∧ xNl.getD (y + 3) 0 = 9) ∧ (xTl.getD (y + 4) 0 = 101 ∧ xNl.getD (y + 4) 0 = 27) ∧ (xTl.getD (y + 5) 0 = 101 ∧ xNl.getD (y + 5) 0 = 27) ∧ (xTl.getD (y + 6) 0 = 101 ∧ xNl.getD (y + 6) 0 = 9) ∧ (xTl.getD (y + 7) 0 = 101 ∧ xNl.getD (y + 7) 0 = 4)) (hr : Nr y rs)
    (hk : ∀ K, (∀ i, ¬ (y ≤ i ∧ i ≤ y + 7) → K i = J i) → (∀ i, y + 1 ≤ i → i ≤ y + 7 → K i = fun _ => nI 0) → (K y 7 = nI 0 ∧ K y 8 = nI 1 ∧ K y 9 = nI 0 ∧ K y 10 = nI 0 ∧ K y 11 = nI 0 ∧ K y 12 = nI 0 ∧ K y 13 = nI 0 ∧ K y 14 = -1 ∧ K y 15 = nI 0 ∧ K y 16 = nI 0 ∧ K y 17 = nI 0) → kr none K (CE Γ.1.1 k' (dyR' y rs))) : Ex Γ l sh0 (d + 1) (7, 508) mDy_init [.ref y] J (CE Γ.1.1 (y + 1) rs) kr kx := by
  subst hk'
  exact y_days hy hY hX hr hk
theorem y_opn' {Γ : Gm} {l : Launch} {d : Nat} {J : Iv} {kr : Kr} {kx : Kxx} {y k' : Nat} {rs : List (Nat × Nat × Nat)} (hk' : k' = y + 3) (hy : y < 400000) (hY : xTl.getD y 0 = 6) (hX : (xTl.getD (y + 1) 0 = 101 ∧ xNl.getD (y + 1) 0 = 160) ∧ (xTl.getD (y + 2) 0 = 101 ∧ xNl.getD (y + 2) 0 = 64)) (hr : Nr y rs)
    (hk : ∀ K, (∀ i, ¬ (y ≤ i ∧ i ≤ y + 2) → K i = J i) → (∀ i, y + 1 ≤ i → i ≤ y + 2 → K i = fun _ => nI 0) → (K y 2 = nI 0 ∧ K y 3 = nI 0 ∧ K y 4 = nI 0 ∧ K y 5 = nI 0) → kr none K (CE Γ.1.1 k' (opR y rs))) : Ex Γ l sh0 (d + 1) (2, 224) mOp_init [.ref y] J (CE Γ.1.1 (y + 1) rs) kr kx := by
  subst hk'
  exact y_opn hy hY hX hr hk
theorem y_book' {Γ : Gm} {l : Launch} {d : Nat} {J : Iv} {kr : Kr} {kx : Kxx} {y k' : Nat} {rs : List (Nat × Nat × Nat)} (hk' : k' = y + 3) (hy : y < 400000) (hY : xTl.getD y 0 = 2) (hX : (xTl.getD (y + 1) 0 = 101 ∧ xNl.getD (y + 1) 0 = 12) ∧ (xTl.getD (y + 2) 0 = 101 ∧ xNl.getD (y + 2) 0 = 12)) (hr : Nr y rs)
    (hk : ∀ K, (∀ i, ¬ (y ≤ i ∧ i ≤ y + 2) → K i = J i) → (∀ i, y + 1 ≤ i → i ≤ y + 2 → K i = fun _ => nI 0) → (K y 2 = nI 0 ∧ K y 3 = nI 0) → kr none K (CE Γ.1.1 k' (opR y rs))) : Ex Γ l sh0 (d + 1) (2, 24) mBk_init [.ref y] J (CE Γ.1.1 (y + 1) rs) kr kx := by
  subst hk'
  exact y_book hy hY hX hr hk
theorem op_ty : ∀ v, v < 9 → xTl.getD (20 + 3 * v) 0 = 6 ∧ (xTl.getD (20 + 3 * v + 1) 0 = 101 ∧ xNl.getD (20 + 3 * v + 1) 0 = 160) ∧ (xTl.getD (20 + 3 * v + 2) 0 = 101 ∧ xNl.getD (20 + 3 * v + 2) 0 = 64) ∧ xNl.getD (20 + 3 * v) 0 = 0 := by decide +kernel
theorem y_aq {Γ : Gm} {l : Launch} {d : Nat} {J : Iv} {kr : Kr} {kx : Kxx} {rs : List (Nat × Nat × Nat)} (hG : GW Γ) (hr : Nr 3 rs)
    (hk : ∀ K, (∀ i, ¬ (3 ≤ i ∧ i ≤ 46) → K i = J i) → (∀ i, 5 ≤ i → i ≤ 14 → K i = fun _ => nI 0) → (K 4 10 = nI 0 ∧ K 4 11 = nI 0 ∧ K 4 12 = -1 ∧ K 4 13 = nI 0 ∧ K 4 14 = nI 20) → (∀ v, v < 9 → K (20 + 3 * v) 2 = nI 0 ∧ K (20 + 3 * v) 3 = nI 0 ∧ K (20 + 3 * v) 4 = nI 0 ∧ K (20 + 3 * v) 5 = nI 0) → kr none K (CE Γ.1.1 47 (opsR 9 (aqR rs)))) : Ex Γ l sh0 (d + 2) (43, 2524) mAq_init [.ref 3] J (CE Γ.1.1 4 rs) kr kx := by
  refine ex_ofI (ls0 := [some (.ref 3), none]) tAq_init (by decide +kernel) rfl kAq_init rfl (Nat.le_of_ble_eq_true rfl) rfl ?_
  intro go hgo
  have tY : tyc sh0 (CE Γ.1.1 4 rs) 3 = 1 := by rw [CE_ty (by omega)]; decide +kernel
  have t3 : ∀ (k : Nat) (rs : List (Nat × Nat × Nat)), 4 ≤ k → tyc sh0 (CE Γ.1.1 k rs) 3 = 1 := fun k rs h => by rw [CE_ty (by omega)]; decide +kernel
  have loop : ∀ (g k : Nat) (K : Iv), g + k = 9 → (∀ i, ¬ (3 ≤ i ∧ i ≤ 46) → K i = J i) → (∀ i, 5 ≤ i → i ≤ 14 → K i = fun _ => nI 0) → (K 4 10 = nI 0 ∧ K 4 11 = nI 0 ∧ K 4 12 = -1 ∧ K 4 13 = nI 0 ∧ K 4 14 = nI 20) → (∀ v, v < k → K (20 + 3 * v) 2 = nI 0 ∧ K (20 + 3 * v) 3 = nI 0 ∧ K (20 + 3 * v) 4 = nI 0 ∧ K (20 + 3 * v) 5 = nI 0) → go 58 [some (.ref 3), some (.int (nI k))] [] K (CE Γ.1.1 (20 + 3 * k) (opsR k (aqR rs))) (16 + 3 * k, 454 + 230 * k) := by
    intro g
    induction g with
    | zero =>
      intro k K hg h1 h2 h3 h4
      have : k = 9 := by omega
      subst this
      refine hgo 20 [58] 58 _ _ _ _ _ ?_
      simp only [ixr_of, run_s, run_0, rAq_init, rok_i, rok_z, bx_cons, bx_nil, eAAST106, eAOO, eBP, eC0, eC3, eCI0, eDUPr, eGO, eGR, jICge, eINC1, eLA0, eLI1, eNAI, eNEW, eOI, ePR, ePRF, eRV, eSI1, eSP, fAq_init_0, fAq_init_58, fAq_init_64, fAq_init_83, bAq_init_0, bAq_init_58, bAq_init_64, bAq_init_83, ln_xaqueduct_change, ln_xaqueduct_decided, ln_xaqueduct_fresh, ln_xaqueduct_sight, ln_xopinions, rg_xaqueduct_1, rg_xaqueduct_2, rg_xaqueduct_3, rg_xaqueduct_4, rg_xaqueduct_5, ty_xaqueduct, ty_xaqueduct_change, ty_xaqueduct_decided, ty_xaqueduct_fresh, ty_xaqueduct_sight, ty_xopinions, Option.toList_some, Option.toList_none, List.cons_append, List.nil_append, List.length_cons, List.length_nil, List.mem_cons, List.not_mem_nil, or_false, false_or, or_true, true_or, ↓reduceIte, true_and, and_true, Nat.reduceEqDiff, Nat.reduceAdd, Nat.reduceLeDiff, Nat.reduceLT, dl_i, dl_r, dl_n, dl_u, eq_self, not_true_eq_false, not_false_eq_true, n10, n01, nm0, n0m, nIl, imp_t, imp_f]
      exact hk K h1 h2 h3 h4
    | succ g ih =>
      intro k K hg h1 h2 h3 h4
      have k9 : k < 9 := by omega
      have c1 : (nI 9 ≤ nI k) = False := by rw [nIl (by decide) (by omega)]; exact eq_false (by omega)
      have r15 : rget sh0 (CE Γ.1.1 (20 + 3 * k) (opsR k (aqR rs))) 3 1 = .ref 15 := by
        refine CE_rg ?_
        have : ∀ v, rlk (opsR v (aqR rs)) 3 1 = some 15 := by
          intro v
          induction v with
          | zero => rfl
          | succ v iv =>
            show rlk ((15, v, 20 + 3 * v) :: (20 + 3 * v, 1, 20 + 3 * v + 2) :: (20 + 3 * v, 0, 20 + 3 * v + 1) :: opsR v (aqR rs)) 3 1 = some 15
            rw [rl_c (by omega), rl_c (by omega), rl_c (by omega)]
            exact iv
        exact this k
      have tk := t3 (20 + 3 * k) (opsR k (aqR rs)) (by omega)
      refine hgo 20 [58] 58 _ _ _ _ _ ?_
      simp only [ixr_of, run_s, run_0, rAq_init, rok_i, rok_z, bx_cons, bx_nil, eAAST106, eAOO, eBP, eC0, eC3, eCI0, eDUPr, eGO, eGR, jICge, eINC1, eLA0, eLI1, eNAI, eNEW, eOI, ePR, ePRF, eRV, eSI1, eSP, fAq_init_0, fAq_init_58, fAq_init_64, fAq_init_83, bAq_init_0, bAq_init_58, bAq_init_64, bAq_init_83, ln_xaqueduct_change, ln_xaqueduct_decided, ln_xaqueduct_fresh, ln_xaqueduct_sight, ln_xopinions, rg_xaqueduct_1, rg_xaqueduct_2, rg_xaqueduct_3, rg_xaqueduct_4, rg_xaqueduct_5, ty_xaqueduct, ty_xaqueduct_change, ty_xaqueduct_decided, ty_xaqueduct_fresh, ty_xaqueduct_sight, ty_xopinions, Option.toList_some, Option.toList_none, List.cons_append, List.nil_append, List.length_cons, List.length_nil, List.mem_cons, List.not_mem_nil, or_false, false_or, or_true, true_or, ↓reduceIte, true_and, and_true, Nat.reduceEqDiff, Nat.reduceAdd, Nat.reduceLeDiff, Nat.reduceLT, dl_i, dl_r, dl_n, dl_u, eq_self, not_true_eq_false, not_false_eq_true, n10, n01, nm0, n0m, c1, r15, tk, imp_t, imp_f]
      obtain ⟨ot, ⟨o1, o1'⟩, ⟨o2, o2'⟩, on⟩ := op_ty k k9
      have hNr := (hr.aq).ops k
      refine ⟨by omega, by omega, fun a0 hs0 _ => ?_⟩
      rw [CE_sz] at hs0
      have ha0 : a0 = Γ.1.1 + (20 + 3 * k) := by omega
      subst ha0
      refine ⟨20 + 3 * k, by omega, by rw [ad_x (by omega)], fun _ => rfl, fun _ => ?_⟩
      rw [CE_mk (k := 20 + 3 * k) (k' := 20 + 3 * k + 1) rfl (by omega) ot on (fun j => hNr _ _ (Nat.le_refl _))]
      refine calli_n 2 224 (by dsimp only; omega) (by dsimp only; omega) (y_opn' (k' := 20 + 3 * (k + 1)) (by omega) (by omega) ot ⟨⟨o1, o1'⟩, ⟨o2, o2'⟩⟩ hNr (fun K1 f1 f2 f3 => ⟨rfl, ?_⟩))
      refine ⟨by rw [CE_ty (by omega)]; decide +kernel, by rw [CE_ty (by omega)]; exact ot, ?_⟩
      rw [CE_ln (by omega) (by omega), show xNl.getD 15 0 = 9 by decide +kernel]
      refine ixr_n k9 ⟨rfl, ?_⟩
      rw [CE_up, nI_add]
      have e1 : ∀ i, ¬ (20 + 3 * k ≤ i ∧ i ≤ 20 + 3 * k + 2) → K1 i = K i := fun i hi => by rw [f1 i hi, zr_n (by omega)]
      have hu : ((16 + 3 * k + 1, 454 + 230 * k + 6).fst + 2, (16 + 3 * k + 1, 454 + 230 * k + 6).snd + 224) = (16 + 3 * (k + 1), 454 + 230 * (k + 1)) := by
        exact Prod.ext (show 16 + 3 * k + 1 + 2 = 16 + 3 * (k + 1) by omega) (show 454 + 230 * k + 6 + 224 = 454 + 230 * (k + 1) by omega)
      rw [hu]
      refine ih (k + 1) K1 (by omega) (fun i hi => by rw [e1 i (by omega), h1 i hi]) (fun i a b => by rw [e1 i (by omega), h2 i a b]) (by rw [e1 4 (by omega)]; exact h3) (fun v hv => ?_)
      by_cases e : v = k
      · rw [e]; exact f3
      · rw [e1 _ (by omega)]; exact h4 v (by omega)
  refine hgo 20 [58] 0 _ _ _ _ _ ?_
  simp only [ixr_of, run_s, run_0, rAq_init, rok_i, rok_z, bx_cons, bx_nil, eAAST106, eAOO, eBP, eC0, eC3, eCI0, eDUPr, eGO, eGR, jICge, eINC1, eLA0, eLI1, eNAI, eNEW, eOI, ePR, ePRF, eRV, eSI1, eSP, fAq_init_0, fAq_init_58, fAq_init_64, fAq_init_83, bAq_init_0, bAq_init_58, bAq_init_64, bAq_init_83, ln_xaqueduct_change, ln_xaqueduct_decided, ln_xaqueduct_fresh, ln_xaqueduct_sight, ln_xopinions, rg_xaqueduct_1, rg_xaqueduct_2, rg_xaqueduct_3, rg_xaqueduct_4, rg_xaqueduct_5, ty_xaqueduct, ty_xaqueduct_change, ty_xaqueduct_decided, ty_xaqueduct_fresh, ty_xaqueduct_sight, ty_xopinions, Option.toList_some, Option.toList_none, List.cons_append, List.nil_append, List.length_cons, List.length_nil, List.mem_cons, List.not_mem_nil, or_false, false_or, or_true, true_or, ↓reduceIte, true_and, and_true, Nat.reduceEqDiff, Nat.reduceAdd, Nat.reduceLeDiff, Nat.reduceLT, dl_i, dl_r, dl_n, dl_u, eq_self, not_true_eq_false, not_false_eq_true, n10, n01, nm0, n0m, tY, imp_t, imp_f]
  refine fun a0 hs0 _ => ?_
  rw [CE_sz] at hs0
  have ha0 : a0 = Γ.1.1 + 4 := by omega
  subst ha0
  refine ⟨4, by omega, by rw [ad_x (by omega)], fun _ => rfl, fun _ => ?_⟩
  rw [CE_mk (k := 4) (k' := 5) rfl (by omega) (by decide +kernel) (by decide +kernel) (fun j => hr _ _ (by omega))]
  have n0 : Nr 15 ((3, 0, 4) :: tnR 4 rs) := ((hr.m (by omega)).tw (by omega)).c (by omega)
  have n1 : Nr 16 ((3, 1, 15) :: (3, 0, 4) :: tnR 4 rs) := (n0.m (by omega)).c (by omega)
  have n2 : Nr 17 ((3, 2, 16) :: (3, 1, 15) :: (3, 0, 4) :: tnR 4 rs) := (n1.m (by omega)).c (by omega)
  have n3 : Nr 18 ((3, 3, 17) :: (3, 2, 16) :: (3, 1, 15) :: (3, 0, 4) :: tnR 4 rs) := (n2.m (by omega)).c (by omega)
  have n4 : Nr 19 ((3, 4, 18) :: (3, 3, 17) :: (3, 2, 16) :: (3, 1, 15) :: (3, 0, 4) :: tnR 4 rs) := (n3.m (by omega)).c (by omega)
  refine calli_n 10 141 (by decide) (by decide) (y_town' (k' := 15) rfl (by omega) (by decide +kernel) (by decide +kernel) (hr.m (by omega)) (fun K1 h1 h2 h3 => ⟨rfl, ?_⟩))
  refine ⟨t3 _ _ (by omega), rfl, hG, ?_⟩
  rw [CE_up]
  refine ⟨9, rfl, by decide, by decide, by decide, fun a1 hs1 _ => ?_⟩
  rw [CE_sz] at hs1
  have ha1 : a1 = Γ.1.1 + 15 := by omega
  subst ha1
  refine ⟨15, by omega, by rw [ad_x (by omega)], fun _ => rfl, fun _ => ?_⟩
  rw [CE_mk (k := 15) (k' := 16) rfl (by omega) (by decide +kernel) (by decide +kernel) (fun j => n0 _ _ (by omega))]
  refine ⟨t3 _ _ (by omega), rfl, ?_⟩
  rw [CE_up]
  refine ⟨252, rfl, by decide, by decide, by decide, fun a16 hs16 _ => ?_⟩
  rw [CE_sz] at hs16
  have ha16 : a16 = Γ.1.1 + 16 := by omega
  subst ha16
  refine ⟨16, by omega, by rw [ad_x (by omega)], fun _ => ?_⟩
  rw [CE_mk (k := 16) (k' := 17) rfl (by omega) (by decide +kernel) (by decide +kernel) (fun j => (n1) _ _ (by omega))]
  refine ⟨t3 _ _ (by omega), rfl, ?_⟩
  rw [CE_up]
  refine ⟨27, rfl, by decide, by decide, by decide, fun a17 hs17 _ => ?_⟩
  rw [CE_sz] at hs17
  have ha17 : a17 = Γ.1.1 + 17 := by omega
  subst ha17
  refine ⟨17, by omega, by rw [ad_x (by omega)], fun _ => ?_⟩
  rw [CE_mk (k := 17) (k' := 18) rfl (by omega) (by decide +kernel) (by decide +kernel) (fun j => (n2) _ _ (by omega))]
  refine ⟨t3 _ _ (by omega), rfl, ?_⟩
  rw [CE_up]
  refine ⟨3, rfl, by decide, by decide, by decide, fun a18 hs18 _ => ?_⟩
  rw [CE_sz] at hs18
  have ha18 : a18 = Γ.1.1 + 18 := by omega
  subst ha18
  refine ⟨18, by omega, by rw [ad_x (by omega)], fun _ => ?_⟩
  rw [CE_mk (k := 18) (k' := 19) rfl (by omega) (by decide +kernel) (by decide +kernel) (fun j => (n3) _ _ (by omega))]
  refine ⟨t3 _ _ (by omega), rfl, ?_⟩
  rw [CE_up]
  refine ⟨7, rfl, by decide, by decide, by decide, fun a19 hs19 _ => ?_⟩
  rw [CE_sz] at hs19
  have ha19 : a19 = Γ.1.1 + 19 := by omega
  subst ha19
  refine ⟨19, by omega, by rw [ad_x (by omega)], fun _ => ?_⟩
  rw [CE_mk (k := 19) (k' := 20) rfl (by omega) (by decide +kernel) (by decide +kernel) (fun j => (n4) _ _ (by omega))]
  refine ⟨t3 _ _ (by omega), rfl, ?_⟩
  rw [CE_up]
  refine loop 9 0 _ (by omega) (fun i hi => ?_) (fun i a b => ?_) ?_ (fun v hv => absurd hv (by omega))
  · rw [zr_n (by omega), zr_n (by omega), zr_n (by omega), zr_n (by omega), zr_n (by omega), h1 i (by omega), zr_n (by omega)]
  · rw [zr_n (by omega), zr_n (by omega), zr_n (by omega), zr_n (by omega), zr_n (by omega)]
    exact h2 i (by omega) (by omega)
  · rw [zr_n (by omega), zr_n (by omega), zr_n (by omega), zr_n (by omega), zr_n (by omega)]
    exact h3

