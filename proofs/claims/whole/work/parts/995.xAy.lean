/-! contracts of the class, 34: the aqueduct: a day -/
theorem knD_c {J K : Iv} {y n v : Nat} {S : Tn} (h1 : K (y + 1) = J (y + 1)) (h2 : K (y + 2) = J (y + 2)) (h3 : K (y + 3) = J (y + 3)) : knD K y S n v = knD J y S n v := by
  unfold knD waD hbD
  rw [h1, h2, h3]
def plX (J : Iv) (y v : Nat) : Bool := decide (J y 10 >>> (nI v &&& 31) &&& nI 1 = nI 1)
def coX (J : Iv) (y v : Nat) : Bool := decide (J y 11 >>> (nI v &&& 31) &&& nI 1 = nI 1)
abbrev PvK : Type := (Nat → Int32) → Nat → Pt → Int32
/-- what all decide -/
def frV (J : Iv) (y n : Nat) (S : Tn) (PS : Nat → List Pt) (pk : PvK) : Nat → Nat → Int32
  | 0 => J 17
  | v + 1 => frR (frV J y n S PS pk v) v (coX J y v) (dcd (plX J y v) (pk (knD J y S n v) v) (PS v))
def fiK (K : Iv) (y : Nat) (S : Tn) : Iv := rfH K y 16 (fiR S (K y 17) S.1.1 (K (y + 1), K y 16))
def sfK (K : Iv) (y : Nat) (S : Tn) : Iv := rfH K y 13 (s6X S (snX S (K (y + 6)) (K y 14, K y 15)) S.1.1 (K (y + 1), K y 13))
def adK (K : Iv) (y : Nat) (S : Tn) : Iv := tgH K (y + 1) (y + 4) (y + 3) (afR (K 17) S.1.1 S.1.1 (K (y + 1), K (y + 4), K (y + 3)))
def reK (K : Iv) (y n : Nat) (S : Tn) : Iv := sr K (y + 2) (rmR K y S.1.1 n (fun v => vz S v 3) S.1.1)
/-- a day gone: from J to K -/
def GdC (J K : Iv) (y n : Nat) (S : Tn) (PS : Nat → List Pt) (pk : PvK) (op : Nat → Nat) : Prop := ∃ K1 K3 K4, FlP (up J y 9 (nI (n + 1))) K1 y S ∧ K3 = sfK (fiK K1 y S) y S ∧ (∀ i, i ≠ 17 → i ≠ 18 → i ≠ 19 → (∀ v, v < S.1.1 → i ≠ op v + 2) → K4 i = K3 i) ∧ K4 17 = frV K3 y (n + 1) S PS pk S.1.1 ∧ K = reK (adK K4 y S) y (n + 1) S
/-- the opinions in force -/
def OpE (b : Bool) (E : Ev) (J : Iv) (y t nV : Nat) (op : Nat → Nat) (PS : Nat → List Pt) : Prop := ∀ v, v < nV → rget (shB b) E 15 v = .ref (op v) ∧ OpA (shB b) E (op v) ∧ (20 ≤ op v ∧ (op v + 2 < y ∨ y + 8 ≤ op v) ∧ (op v + 2 < t ∨ t + 10 < op v)) ∧ XOq J (op v) (PS v) ∧ (stA (PS v)).length ≤ 160 ∧ (PS v).length ≤ 6 ∧ ∀ u, u < nV → u ≠ v → op u + 2 < op v ∨ op v + 2 < op u
theorem OpE.mv {b : Bool} {E : Ev} {J K : Iv} {y t nV : Nat} {op : Nat → Nat} {PS : Nat → List Pt} (h : OpE b E J y t nV op PS) (hk : ∀ i, i ≠ 16 → i ≠ 17 → i ≠ 18 → i ≠ 19 → ¬ (y ≤ i ∧ i < y + 8) → (∀ v, v < nV → i ≠ op v + 2) → K i = J i) : OpE b E K y t nV op PS := by
  intro v hv
  obtain ⟨h1, h2, h3, h4, h5, h6, h7⟩ := h v hv
  refine ⟨h1, h2, h3, h4.mv (hk _ (by omega) (by omega) (by omega) (by omega) (by omega) (fun u hu => ?_)) (hk _ (by omega) (by omega) (by omega) (by omega) (by omega) (fun u hu => ?_)), h5, h6, h7⟩
  · by_cases e : u = v
    · rw [e]; omega
    · have := h7 u hu e
      omega
  · by_cases e : u = v
    · rw [e]; omega
    · have := h7 u hu e
      omega
section XAy
variable {Γ : Gm} {l : Launch} {b : Bool} {d : Nat} {J : Iv} {E : Ev} {kr : Kr} {kx : Kxx} {y t : Nat} {S : Tn}
theorem x_goDay {n : Nat} {op : Nat → Nat} {PS : Nat → List Pt} {pk : PvK} (hG : GX Γ) (hC : AqC b E y t) (hV : DyV J y S.1.1) (hX : XTn J t S) (hS : TnV S) (hn : J y 9 = nI n) (hn1 : n < 90000) (hO : OpE b E J y t S.1.1 op PS) (hpk : ∀ kn v, v < S.1.1 → ∀ p ∈ PS v, p.1 < 3 ∧ PvR kn (decide (vz S v 4 = 1)) p (pk kn v p)) (hk : ∀ K, GdC J K y n S PS pk op → kr none K E) : Ex Γ l (shB b) (d + 5) (0, 0) mAq_goDay [.ref 3, .ref y] J E kr kx := by
  refine ex_of (ls0 := [some (.ref 3), some (.ref y), none]) tAq_goDay (by decide +kernel) kAq_goDay rfl (Nat.le_of_ble_eq_true rfl) rfl ?_
  intro go hgo
  have hA0 := hC.2.2.1
  obtain ⟨r3, hT, ⟨ht, -⟩, hy, hty, ht2, ht3⟩ := id hC
  obtain ⟨v7, v8, v9⟩ := id hV
  refine hgo 20 [27] 0 _ _ _ _ _ ?_
  simp only [ixr_of, run_s, run_0, rAq_goDay, rok_i, rok_z, bx_cons, bx_nil, eADD, eC0, eC1, eCV1, eCV2, eDUPr, eGI, eGO, eGR, jICge, eINC2, eLA0, eLA1, eLI2, ePI, eRV, eSI2, fAq_goDay_0, fAq_goDay_27, fAq_goDay_35, fAq_goDay_47, bAq_goDay_0, bAq_goDay_27, bAq_goDay_35, bAq_goDay_47, ln_xaqueduct_change, ln_xaqueduct_decided, ln_xaqueduct_fresh, ln_xaqueduct_sight, ln_xopinions, rg_xaqueduct_1, rg_xaqueduct_2, rg_xaqueduct_3, rg_xaqueduct_4, rg_xaqueduct_5, ty_xaqueduct, ty_xaqueduct_change, ty_xaqueduct_decided, ty_xaqueduct_fresh, ty_xaqueduct_sight, ty_xopinions, Option.toList_some, Option.toList_none, List.cons_append, List.nil_append, List.length_cons, List.length_nil, List.mem_cons, List.not_mem_nil, or_false, false_or, or_true, true_or, ↓reduceIte, true_and, and_true, Nat.reduceEqDiff, Nat.reduceAdd, Nat.reduceLeDiff, Nat.reduceLT, dl_i, dl_r, dl_n, dl_u, eq_self, not_true_eq_false, not_false_eq_true, n10, n01, nm0, n0m, ht, hn, nI_add, imp_t, imp_f]
  have f0 : ∀ i, i ≠ y → up J y 9 (nI (n + 1)) i = J i := fun i hi => by funext k; exact up_n (by omega)
  have g0 : ∀ k, k ≠ 9 → up J y 9 (nI (n + 1)) y k = J y k := fun k hk => up_n (by omega)
  have hV1 : DyV (up J y 9 (nI (n + 1))) y S.1.1 := ⟨by rw [g0 7 (by decide)]; exact v7, by rw [g0 8 (by decide)]; exact v8, v9⟩
  have hX1 : XTn (up J y 9 (nI (n + 1))) t S := hX.mv (fun i h1 h2 => f0 i (by omega))
  refine call0 (x_flow hC hV1 hX1 hS (fun K1 hF => ?_))
  simp only [ixr_of, run_s, run_0, rAq_goDay, rok_i, rok_z, bx_cons, bx_nil, eADD, eC0, eC1, eCV1, eCV2, eDUPr, eGI, eGO, eGR, jICge, eINC2, eLA0, eLA1, eLI2, ePI, eRV, eSI2, fAq_goDay_0, fAq_goDay_27, fAq_goDay_35, fAq_goDay_47, bAq_goDay_0, bAq_goDay_27, bAq_goDay_35, bAq_goDay_47, ln_xaqueduct_change, ln_xaqueduct_decided, ln_xaqueduct_fresh, ln_xaqueduct_sight, ln_xopinions, rg_xaqueduct_1, rg_xaqueduct_2, rg_xaqueduct_3, rg_xaqueduct_4, rg_xaqueduct_5, ty_xaqueduct, ty_xaqueduct_change, ty_xaqueduct_decided, ty_xaqueduct_fresh, ty_xaqueduct_sight, ty_xopinions, Option.toList_some, Option.toList_none, List.cons_append, List.nil_append, List.length_cons, List.length_nil, List.mem_cons, List.not_mem_nil, or_false, false_or, or_true, true_or, ↓reduceIte, true_and, and_true, Nat.reduceEqDiff, Nat.reduceAdd, Nat.reduceLeDiff, Nat.reduceLT, dl_i, dl_r, dl_n, dl_u, eq_self, not_true_eq_false, not_false_eq_true, n10, n01, nm0, n0m, imp_t, imp_f]
  have f1 : ∀ i, i ≠ 16 → ¬ (y ≤ i ∧ i < y + 8) → K1 i = J i := fun i h1 h2 => by rw [hF.1 i h1 (by omega) (by omega) (by omega) (by omega), f0 i (by omega)]
  have k1 : ∀ k, k ≠ 12 → K1 y k = up J y 9 (nI (n + 1)) y k := hF.2.1
  have hX2 : XTn K1 t S := hX.mv (fun i h1 h2 => f1 i (by omega) (by omega))
  have hV2 : DyV K1 y S.1.1 := ⟨by rw [k1 7 (by decide)]; exact hV1.1, by rw [k1 8 (by decide)]; exact hV1.2.1, v9⟩
  refine call0 (x_afill hC hV2 hX2 ?_)
  simp only [ixr_of, run_s, run_0, rAq_goDay, rok_i, rok_z, bx_cons, bx_nil, eADD, eC0, eC1, eCV1, eCV2, eDUPr, eGI, eGO, eGR, jICge, eINC2, eLA0, eLA1, eLI2, ePI, eRV, eSI2, fAq_goDay_0, fAq_goDay_27, fAq_goDay_35, fAq_goDay_47, bAq_goDay_0, bAq_goDay_27, bAq_goDay_35, bAq_goDay_47, ln_xaqueduct_change, ln_xaqueduct_decided, ln_xaqueduct_fresh, ln_xaqueduct_sight, ln_xopinions, rg_xaqueduct_1, rg_xaqueduct_2, rg_xaqueduct_3, rg_xaqueduct_4, rg_xaqueduct_5, ty_xaqueduct, ty_xaqueduct_change, ty_xaqueduct_decided, ty_xaqueduct_fresh, ty_xaqueduct_sight, ty_xopinions, Option.toList_some, Option.toList_none, List.cons_append, List.nil_append, List.length_cons, List.length_nil, List.mem_cons, List.not_mem_nil, or_false, false_or, or_true, true_or, ↓reduceIte, true_and, and_true, Nat.reduceEqDiff, Nat.reduceAdd, Nat.reduceLeDiff, Nat.reduceLT, dl_i, dl_r, dl_n, dl_u, eq_self, not_true_eq_false, not_false_eq_true, n10, n01, nm0, n0m, imp_t, imp_f]
  rw [show rfH K1 y 16 (fiR S (K1 y 17) S.1.1 (K1 (y + 1), K1 y 16)) = fiK K1 y S from rfl]
  have f2 : ∀ i, i ≠ 16 → ¬ (y ≤ i ∧ i < y + 8) → fiK K1 y S i = J i := fun i h1 h2 => by unfold fiK; rw [rf_m (by omega) (by omega)]; exact f1 i h1 h2
  have k2 : ∀ k, k ≠ 16 → fiK K1 y S y k = K1 y k := fun k hk => rf_n (by omega) (by omega)
  have hX3 : XTn (fiK K1 y S) t S := hX.mv (fun i h1 h2 => f2 i (by omega) (by omega))
  have hV3 : DyV (fiK K1 y S) y S.1.1 := ⟨by rw [k2 7 (by decide)]; exact hV2.1, by rw [k2 8 (by decide)]; exact hV2.2.1, v9⟩
  refine call0 (x_strain hC hV3 hX3 ?_)
  simp only [ixr_of, run_s, run_0, rAq_goDay, rok_i, rok_z, bx_cons, bx_nil, eADD, eC0, eC1, eCV1, eCV2, eDUPr, eGI, eGO, eGR, jICge, eINC2, eLA0, eLA1, eLI2, ePI, eRV, eSI2, fAq_goDay_0, fAq_goDay_27, fAq_goDay_35, fAq_goDay_47, bAq_goDay_0, bAq_goDay_27, bAq_goDay_35, bAq_goDay_47, ln_xaqueduct_change, ln_xaqueduct_decided, ln_xaqueduct_fresh, ln_xaqueduct_sight, ln_xopinions, rg_xaqueduct_1, rg_xaqueduct_2, rg_xaqueduct_3, rg_xaqueduct_4, rg_xaqueduct_5, ty_xaqueduct, ty_xaqueduct_change, ty_xaqueduct_decided, ty_xaqueduct_fresh, ty_xaqueduct_sight, ty_xopinions, Option.toList_some, Option.toList_none, List.cons_append, List.nil_append, List.length_cons, List.length_nil, List.mem_cons, List.not_mem_nil, or_false, false_or, or_true, true_or, ↓reduceIte, true_and, and_true, Nat.reduceEqDiff, Nat.reduceAdd, Nat.reduceLeDiff, Nat.reduceLT, dl_i, dl_r, dl_n, dl_u, eq_self, not_true_eq_false, not_false_eq_true, n10, n01, nm0, n0m, imp_t, imp_f]
  obtain ⟨K3, hK3⟩ : ∃ K3, K3 = sfK (fiK K1 y S) y S := ⟨_, rfl⟩
  rw [show rfH (fiK K1 y S) y 13 (s6X S (snX S (fiK K1 y S (y + 6)) (fiK K1 y S y 14, fiK K1 y S y 15)) S.1.1 (fiK K1 y S (y + 1), fiK K1 y S y 13)) = K3 from hK3.symm]
  have f3 : ∀ i, i ≠ 16 → ¬ (y ≤ i ∧ i < y + 8) → K3 i = J i := fun i h1 h2 => by rw [hK3]; unfold sfK; rw [rf_m (by omega) (by omega)]; exact f2 i h1 h2
  have k3 : ∀ k, k ≠ 13 → K3 y k = fiK K1 y S y k := fun k hk => by rw [hK3]; exact rf_n (by omega) (by omega)
  have hX4 : XTn K3 t S := hX.mv (fun i h1 h2 => f3 i (by omega) (by omega))
  have hV4 : DyV K3 y S.1.1 := ⟨by rw [k3 7 (by decide)]; exact hV3.1, by rw [k3 8 (by decide)]; exact hV3.2.1, v9⟩
  have hn4 : K3 y 9 = nI (n + 1) := by rw [k3 9 (by decide), k2 9 (by decide), k1 9 (by decide), up_s]
  have hO4 : OpE b E K3 y t S.1.1 op PS := hO.mv (fun i h1 _ _ _ h5 _ => f3 i h1 h5)
  have loop : ∀ (g v : Nat) (K4 : Iv), g + v = S.1.1 → (∀ i, i ≠ 17 → i ≠ 18 → i ≠ 19 → (∀ v, v < S.1.1 → i ≠ op v + 2) → K4 i = K3 i) → K4 17 = frV K3 y (n + 1) S PS pk v → go 27 [some (.ref 3), some (.ref y), some (.int (nI v))] [] K4 E (0, 0) := by
    intro g
    induction g with
    | zero =>
      intro v K4 hg hK4 h17
      have : v = S.1.1 := by omega
      subst this
      have hyo : ∀ i, y ≤ i → i < y + 8 → ∀ v, v < S.1.1 → i ≠ op v + 2 := fun i h1 h2 v hv => by have := (hO v hv).2.2.1; omega
      have hto : ∀ i, t ≤ i → i ≤ t + 10 → ∀ v, v < S.1.1 → i ≠ op v + 2 := fun i h1 h2 v hv => by have := (hO v hv).2.2.1; omega
      have k4 : ∀ i, y ≤ i → i < y + 8 → K4 i = K3 i := fun i h1 h2 => hK4 i (by omega) (by omega) (by omega) (hyo i h1 h2)
      have e7 : K4 y 7 = nI S.1.1 := by rw [k4 y (by omega) (by omega)]; exact hV4.1
      have e8 : K4 y 8 = nI (1 + 3 * S.1.1) := by rw [k4 y (by omega) (by omega)]; exact hV4.2.1
      have c1 : (nI S.1.1 ≤ nI S.1.1) = True := eq_true (Int32.le_refl _)
      refine hgo 20 [27] 27 _ _ _ _ _ ?_
      simp only [ixr_of, run_s, run_0, rAq_goDay, rok_i, rok_z, bx_cons, bx_nil, eADD, eC0, eC1, eCV1, eCV2, eDUPr, eGI, eGO, eGR, jICge, eINC2, eLA0, eLA1, eLI2, ePI, eRV, eSI2, fAq_goDay_0, fAq_goDay_27, fAq_goDay_35, fAq_goDay_47, bAq_goDay_0, bAq_goDay_27, bAq_goDay_35, bAq_goDay_47, ln_xaqueduct_change, ln_xaqueduct_decided, ln_xaqueduct_fresh, ln_xaqueduct_sight, ln_xopinions, rg_xaqueduct_1, rg_xaqueduct_2, rg_xaqueduct_3, rg_xaqueduct_4, rg_xaqueduct_5, ty_xaqueduct, ty_xaqueduct_change, ty_xaqueduct_decided, ty_xaqueduct_fresh, ty_xaqueduct_sight, ty_xopinions, Option.toList_some, Option.toList_none, List.cons_append, List.nil_append, List.length_cons, List.length_nil, List.mem_cons, List.not_mem_nil, or_false, false_or, or_true, true_or, ↓reduceIte, true_and, and_true, Nat.reduceEqDiff, Nat.reduceAdd, Nat.reduceLeDiff, Nat.reduceLT, dl_i, dl_r, dl_n, dl_u, eq_self, not_true_eq_false, not_false_eq_true, n10, n01, nm0, n0m, ht, e7, c1, imp_t, imp_f]
      refine call0 (x_addFresh hC ⟨e7, e8, v9⟩ ?_)
      simp only [ixr_of, run_s, run_0, rAq_goDay, rok_i, rok_z, bx_cons, bx_nil, eADD, eC0, eC1, eCV1, eCV2, eDUPr, eGI, eGO, eGR, jICge, eINC2, eLA0, eLA1, eLI2, ePI, eRV, eSI2, fAq_goDay_0, fAq_goDay_27, fAq_goDay_35, fAq_goDay_47, bAq_goDay_0, bAq_goDay_27, bAq_goDay_35, bAq_goDay_47, ln_xaqueduct_change, ln_xaqueduct_decided, ln_xaqueduct_fresh, ln_xaqueduct_sight, ln_xopinions, rg_xaqueduct_1, rg_xaqueduct_2, rg_xaqueduct_3, rg_xaqueduct_4, rg_xaqueduct_5, ty_xaqueduct, ty_xaqueduct_change, ty_xaqueduct_decided, ty_xaqueduct_fresh, ty_xaqueduct_sight, ty_xopinions, Option.toList_some, Option.toList_none, List.cons_append, List.nil_append, List.length_cons, List.length_nil, List.mem_cons, List.not_mem_nil, or_false, false_or, or_true, true_or, ↓reduceIte, true_and, and_true, Nat.reduceEqDiff, Nat.reduceAdd, Nat.reduceLeDiff, Nat.reduceLT, dl_i, dl_r, dl_n, dl_u, eq_self, not_true_eq_false, not_false_eq_true, n10, n01, nm0, n0m, ht, r3, imp_t, imp_f]
      rw [show tgH K4 (y + 1) (y + 4) (y + 3) (afR (K4 17) S.1.1 S.1.1 (K4 (y + 1), K4 (y + 4), K4 (y + 3))) = adK K4 y S from rfl]
      have k5 : ∀ i, i ≠ y + 1 → i ≠ y + 4 → i ≠ y + 3 → adK K4 y S i = K4 i := fun i h1 h2 h3 => tg_n h1 h2 h3
      refine call0 (x_remember (t := t) (n := n + 1) (lg := fun v => vz S v 3) hA0 ⟨by rw [k5 y (by omega) (by omega) (by omega)]; exact e7, by rw [k5 y (by omega) (by omega) (by omega)]; exact e8, v9⟩ hT (by rw [k5 y (by omega) (by omega) (by omega), k4 y (by omega) (by omega)]; exact hn4) (by omega) (fun v hv => ⟨?_, ?_⟩) (by omega) ?_)
      · show vz S v 3 ≤ 5
        unfold vz
        rw [if_pos hv]
        exact (hS.2.2.2.2.2.2.2 v hv).2.2.1
      · rw [k5 _ (by omega) (by omega) (by omega), hK4 _ (by omega) (by omega) (by omega) (hto _ (by omega) (by omega))]
        exact (hX4.2.2.2.2.2.2.1 v (by omega)).2.2.1
      · simp only [ixr_of, run_s, run_0, rAq_goDay, rok_i, rok_z, bx_cons, bx_nil, eADD, eC0, eC1, eCV1, eCV2, eDUPr, eGI, eGO, eGR, jICge, eINC2, eLA0, eLA1, eLI2, ePI, eRV, eSI2, fAq_goDay_0, fAq_goDay_27, fAq_goDay_35, fAq_goDay_47, bAq_goDay_0, bAq_goDay_27, bAq_goDay_35, bAq_goDay_47, ln_xaqueduct_change, ln_xaqueduct_decided, ln_xaqueduct_fresh, ln_xaqueduct_sight, ln_xopinions, rg_xaqueduct_1, rg_xaqueduct_2, rg_xaqueduct_3, rg_xaqueduct_4, rg_xaqueduct_5, ty_xaqueduct, ty_xaqueduct_change, ty_xaqueduct_decided, ty_xaqueduct_fresh, ty_xaqueduct_sight, ty_xopinions, Option.toList_some, Option.toList_none, List.cons_append, List.nil_append, List.length_cons, List.length_nil, List.mem_cons, List.not_mem_nil, or_false, false_or, or_true, true_or, ↓reduceIte, true_and, and_true, Nat.reduceEqDiff, Nat.reduceAdd, Nat.reduceLeDiff, Nat.reduceLT, dl_i, dl_r, dl_n, dl_u, eq_self, not_true_eq_false, not_false_eq_true, n10, n01, nm0, n0m, imp_t, imp_f]
        exact hk _ ⟨K1, K3, K4, hF, hK3, hK4, h17, rfl⟩
    | succ g ih =>
      intro v K4 hg hK4 h17
      have hv : v < S.1.1 := by omega
      have hyo : ∀ i, y ≤ i → i < y + 8 → ∀ v, v < S.1.1 → i ≠ op v + 2 := fun i h1 h2 v hv => by have := (hO v hv).2.2.1; omega
      have hto : ∀ i, t ≤ i → i ≤ t + 10 → ∀ v, v < S.1.1 → i ≠ op v + 2 := fun i h1 h2 v hv => by have := (hO v hv).2.2.1; omega
      have k4 : ∀ i, y ≤ i → i < y + 8 → K4 i = K3 i := fun i h1 h2 => hK4 i (by omega) (by omega) (by omega) (hyo i h1 h2)
      have e7 : K4 y 7 = nI S.1.1 := by rw [k4 y (by omega) (by omega)]; exact hV4.1
      have e8 : K4 y 8 = nI (1 + 3 * S.1.1) := by rw [k4 y (by omega) (by omega)]; exact hV4.2.1
      have e9 : K4 y 9 = nI (n + 1) := by rw [k4 y (by omega) (by omega)]; exact hn4
      have c1 : (nI S.1.1 ≤ nI v) = False := by rw [nIl (by omega) (by omega)]; exact eq_false (by omega)
      have hX5 : XTn K4 t S := hX4.mv (fun i h1 h2 => hK4 i (by omega) (by omega) (by omega) (hto i h1 h2))
      have hO5 : OpE b E K4 y t S.1.1 op PS := hO4.mv (fun i _ h1 h2 h3 _ h5 => hK4 i h1 h2 h3 h5)
      have ekn : knD K4 y S (n + 1) v = knD K3 y S (n + 1) v := knD_c (k4 _ (by omega) (by omega)) (k4 _ (by omega) (by omega)) (k4 _ (by omega) (by omega))
      obtain ⟨o1, o2, o3, o4, o5, o6, o7⟩ := hO5 v hv
      refine hgo 20 [27] 27 _ _ _ _ _ ?_
      simp only [ixr_of, run_s, run_0, rAq_goDay, rok_i, rok_z, bx_cons, bx_nil, eADD, eC0, eC1, eCV1, eCV2, eDUPr, eGI, eGO, eGR, jICge, eINC2, eLA0, eLA1, eLI2, ePI, eRV, eSI2, fAq_goDay_0, fAq_goDay_27, fAq_goDay_35, fAq_goDay_47, bAq_goDay_0, bAq_goDay_27, bAq_goDay_35, bAq_goDay_47, ln_xaqueduct_change, ln_xaqueduct_decided, ln_xaqueduct_fresh, ln_xaqueduct_sight, ln_xopinions, rg_xaqueduct_1, rg_xaqueduct_2, rg_xaqueduct_3, rg_xaqueduct_4, rg_xaqueduct_5, ty_xaqueduct, ty_xaqueduct_change, ty_xaqueduct_decided, ty_xaqueduct_fresh, ty_xaqueduct_sight, ty_xopinions, Option.toList_some, Option.toList_none, List.cons_append, List.nil_append, List.length_cons, List.length_nil, List.mem_cons, List.not_mem_nil, or_false, false_or, or_true, true_or, ↓reduceIte, true_and, and_true, Nat.reduceEqDiff, Nat.reduceAdd, Nat.reduceLeDiff, Nat.reduceLT, dl_i, dl_r, dl_n, dl_u, eq_self, not_true_eq_false, not_false_eq_true, n10, n01, nm0, n0m, ht, e7, c1, imp_t, imp_f]
      refine call0 (x_decide (pv := pk (knD K3 y S (n + 1) v) v) hG hC ⟨e7, e8, v9⟩ hX5 hS hv e9 (by omega) o1 o2 o3 o4 o5 o6 (by rw [ekn]; exact hpk _ v hv) (fun K hK hfr => ?_))
      simp only [ixr_of, run_s, run_0, rAq_goDay, rok_i, rok_z, bx_cons, bx_nil, eADD, eC0, eC1, eCV1, eCV2, eDUPr, eGI, eGO, eGR, jICge, eINC2, eLA0, eLA1, eLI2, ePI, eRV, eSI2, fAq_goDay_0, fAq_goDay_27, fAq_goDay_35, fAq_goDay_47, bAq_goDay_0, bAq_goDay_27, bAq_goDay_35, bAq_goDay_47, ln_xaqueduct_change, ln_xaqueduct_decided, ln_xaqueduct_fresh, ln_xaqueduct_sight, ln_xopinions, rg_xaqueduct_1, rg_xaqueduct_2, rg_xaqueduct_3, rg_xaqueduct_4, rg_xaqueduct_5, ty_xaqueduct, ty_xaqueduct_change, ty_xaqueduct_decided, ty_xaqueduct_fresh, ty_xaqueduct_sight, ty_xopinions, Option.toList_some, Option.toList_none, List.cons_append, List.nil_append, List.length_cons, List.length_nil, List.mem_cons, List.not_mem_nil, or_false, false_or, or_true, true_or, ↓reduceIte, true_and, and_true, Nat.reduceEqDiff, Nat.reduceAdd, Nat.reduceLeDiff, Nat.reduceLT, dl_i, dl_r, dl_n, dl_u, eq_self, not_true_eq_false, not_false_eq_true, n10, n01, nm0, n0m, nI_add, imp_t, imp_f]
      refine ih (v + 1) K (by omega) (fun i h1 h2 h3 h4 => by rw [hK i h1 h2 h3 (h4 v hv)]; exact hK4 i h1 h2 h3 h4) ?_
      rw [hfr, h17, k4 y (by omega) (by omega)]
      rfl
  exact loop S.1.1 0 K3 (by omega) (fun _ _ _ _ _ => rfl) rfl
end XAy
