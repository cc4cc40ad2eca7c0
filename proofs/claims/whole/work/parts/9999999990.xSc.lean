/-! constructors, 3: the other parts -/
theorem CE_up2 {B k i j b i' j' b' : Nat} {rs : List (Nat × Nat × Nat)} : (upR (upR (CE B k rs).1 i j (b + 1)) i' j' (b' + 1), (CE B k rs).2) = CE B k ((i', j', b') :: (i, j, b) :: rs) := by
  have h1 : (upR (CE B k rs).1 i j (b + 1), (CE B k rs).2) = CE B k ((i, j, b) :: rs) := CE_up
  have h2 : (upR (CE B k ((i, j, b) :: rs)).1 i' j' (b' + 1), (CE B k ((i, j, b) :: rs)).2) = CE B k ((i', j', b') :: (i, j, b) :: rs) := CE_up
  rw [← h2, ← h1]

theorem y_fo {Γ : Gm} {l : Launch} {d : Nat} {J : Iv} {kr : Kr} {kx : Kxx} {rs : List (Nat × Nat × Nat)} (hr : Nr 47 rs) (hk : ∀ K, (∀ i, ¬ (47 ≤ i ∧ i ≤ 57) → K i = J i) → kr none K (CE Γ.1.1 58 ((47, 0, 3) :: (47, 3, 57) :: (47, 2, 56) :: (47, 1, 48) :: dyR' 48 rs))) : Ex Γ l sh0 (d + 2) (10, 547) mFo_init [.ref 47, .ref 3] J (CE Γ.1.1 48 rs) kr kx := by
  refine ex_ofI (ls0 := [some (.ref 47), some (.ref 3)]) tFo_init (by decide +kernel) rfl kFo_init rfl (Nat.le_of_ble_eq_true rfl) rfl ?_
  intro go hgo
  have tt : ∀ (k : Nat) (rs : List (Nat × Nat × Nat)), 48 ≤ k → tyc sh0 (CE Γ.1.1 k rs) 47 = 5 := fun k rs h => by rw [CE_ty (by omega)]; decide +kernel
  have tY := tt 48 rs (by omega)
  have n1 : Nr 56 ((47, 1, 48) :: dyR' 48 rs) := ((hr.m (by omega)).dy (by omega)).c (by omega)
  have n2 : Nr 57 ((47, 2, 56) :: (47, 1, 48) :: dyR' 48 rs) := (n1.m (by omega)).c (by omega)
  refine hgo 20 [] 0 _ _ _ _ _ ?_
  simp only [ixr_of, run_s, run_0, rFo_init, rok_i, rok_z, bx_cons, bx_nil, eBP, eC0, eCI0, eCm1, eDUPr, eLA0, eLA1, eNAI, eNEW, eOI, ePI, ePR, ePRF, eRV, fFo_init_0, bFo_init_0, ln_xformerGrades, rg_xforesight_0, rg_xforesight_1, rg_xforesight_2, ty_xaqueduct, ty_xforesight, ty_xformerGrades, ty_xftrial, Option.toList_some, Option.toList_none, List.cons_append, List.nil_append, List.length_cons, List.length_nil, List.mem_cons, List.not_mem_nil, or_false, false_or, or_true, true_or, ↓reduceIte, true_and, and_true, Nat.reduceEqDiff, Nat.reduceAdd, Nat.reduceLeDiff, Nat.reduceLT, dl_i, dl_r, dl_n, dl_u, eq_self, not_true_eq_false, not_false_eq_true, n10, n01, nm0, n0m, tY, imp_t, imp_f]
  refine fun b1 hs1 _ => ?_
  rw [CE_sz] at hs1
  have hb1 : b1 = Γ.1.1 + 48 := by omega
  subst hb1
  refine ⟨48, by omega, by rw [ad_x (by omega)], fun _ => rfl, fun _ => ?_⟩
  rw [CE_mk (k := 48) (k' := 49) rfl (by omega) (by decide +kernel) (by decide +kernel) (fun j => (hr) _ _ (by omega))]
  refine calli_n 7 508 (by decide) (by decide) (y_days' (k' := 56) rfl (by omega) (by decide +kernel) (by decide +kernel) (hr.m (by omega)) (fun K1 h1 h2 h3 => ⟨rfl, ?_⟩))
  refine ⟨tt _ _ (by omega), rfl, ?_⟩
  rw [CE_up]
  refine ⟨21, rfl, by decide, by decide, by decide, fun b2 hs2 _ => ?_⟩
  rw [CE_sz] at hs2
  have hb2 : b2 = Γ.1.1 + 56 := by omega
  subst hb2
  refine ⟨56, by omega, by rw [ad_x (by omega)], fun _ => ?_⟩
  rw [CE_mk (k := 56) (k' := 57) rfl (by omega) (by decide +kernel) (by decide +kernel) (fun j => (n1) _ _ (by omega))]
  refine ⟨tt _ _ (by omega), rfl, ?_⟩
  rw [CE_up]
  refine ⟨0, rfl, by decide, by decide, by decide, fun b3 hs3 _ => ?_⟩
  rw [CE_sz] at hs3
  have hb3 : b3 = Γ.1.1 + 57 := by omega
  subst hb3
  refine ⟨57, by omega, by rw [ad_x (by omega)], fun _ => ?_⟩
  rw [CE_mk (k := 57) (k' := 58) rfl (by omega) (by decide +kernel) (by decide +kernel) (fun j => (n2) _ _ (by omega))]
  refine ⟨tt _ _ (by omega), rfl, ?_⟩
  rw [CE_up]
  refine ⟨tt _ _ (by omega), tt _ _ (by omega), tt _ _ (by omega), rfl, ?_⟩
  refine Eq.mp (congrArg (kr none _) (CE_up2 (b := 57) (b' := 3)).symm) (hk _ (fun i hi => ?_))
  funext k
  rw [up_n (by omega), up_n (by omega), zr_n (by omega), zr_n (by omega), h1 i (by omega), zr_n (by omega)]

theorem y_ts {Γ : Gm} {l : Launch} {d : Nat} {J : Iv} {kr : Kr} {kx : Kxx} {rs : List (Nat × Nat × Nat)} (hr : Nr 58 rs) (hk : ∀ K, (∀ i, ¬ (58 ≤ i ∧ i ≤ 70) → K i = J i) → K 58 4 = nI 0 → K 68 2 = nI 0 ∧ K 68 3 = nI 0 → kr none K (CE Γ.1.1 71 ((58, 0, 3) :: (58, 3, 68) :: opR 68 ((58, 2, 67) :: (58, 1, 59) :: dyR' 59 rs)))) : Ex Γ l sh0 (d + 2) (12, 563) mTs_init [.ref 58, .ref 3] J (CE Γ.1.1 59 rs) kr kx := by
  refine ex_ofI (ls0 := [some (.ref 58), some (.ref 3)]) tTs_init (by decide +kernel) rfl kTs_init rfl (Nat.le_of_ble_eq_true rfl) rfl ?_
  intro go hgo
  have tt : ∀ (k : Nat) (rs : List (Nat × Nat × Nat)), 59 ≤ k → tyc sh0 (CE Γ.1.1 k rs) 58 = 9 := fun k rs h => by rw [CE_ty (by omega)]; decide +kernel
  have tY := tt 59 rs (by omega)
  have n1 : Nr 67 ((58, 1, 59) :: dyR' 59 rs) := ((hr.m (by omega)).dy (by omega)).c (by omega)
  have n2 : Nr 68 ((58, 2, 67) :: (58, 1, 59) :: dyR' 59 rs) := (n1.m (by omega)).c (by omega)
  refine hgo 20 [] 0 _ _ _ _ _ ?_
  simp only [ixr_of, run_s, run_0, rTs_init, rok_i, rok_z, bx_cons, bx_nil, eBP, eC0, eCI0, eCm1, eDUPr, eLA0, eLA1, eNAI, eNEW, eOI, ePI, ePR, ePRF, ePZ, eRV, fTs_init_0, bTs_init_0, ln_xpatterns, rg_xtasters_0, rg_xtasters_1, rg_xtasters_2, ty_xaqueduct, ty_xpatterns, ty_xtasters, ty_xttrial, Option.toList_some, Option.toList_none, List.cons_append, List.nil_append, List.length_cons, List.length_nil, List.mem_cons, List.not_mem_nil, or_false, false_or, or_true, true_or, ↓reduceIte, true_and, and_true, Nat.reduceEqDiff, Nat.reduceAdd, Nat.reduceLeDiff, Nat.reduceLT, dl_i, dl_r, dl_n, dl_u, eq_self, not_true_eq_false, not_false_eq_true, n10, n01, nm0, n0m, tY, imp_t, imp_f]
  refine fun b4 hs4 _ => ?_
  rw [CE_sz] at hs4
  have hb4 : b4 = Γ.1.1 + 59 := by omega
  subst hb4
  refine ⟨59, by omega, by rw [ad_x (by omega)], fun _ => rfl, fun _ => ?_⟩
  rw [CE_mk (k := 59) (k' := 60) rfl (by omega) (by decide +kernel) (by decide +kernel) (fun j => (hr) _ _ (by omega))]
  refine calli_n 7 508 (by decide) (by decide) (y_days' (k' := 67) rfl (by omega) (by decide +kernel) (by decide +kernel) (hr.m (by omega)) (fun K1 h1 h2 h3 => ⟨rfl, ?_⟩))
  refine ⟨tt _ _ (by omega), rfl, ?_⟩
  rw [CE_up]
  refine ⟨9, rfl, by decide, by decide, by decide, fun b5 hs5 _ => ?_⟩
  rw [CE_sz] at hs5
  have hb5 : b5 = Γ.1.1 + 67 := by omega
  subst hb5
  refine ⟨67, by omega, by rw [ad_x (by omega)], fun _ => ?_⟩
  rw [CE_mk (k := 67) (k' := 68) rfl (by omega) (by decide +kernel) (by decide +kernel) (fun j => (n1) _ _ (by omega))]
  refine ⟨tt _ _ (by omega), rfl, ?_⟩
  rw [CE_up]
  refine ⟨by decide, by decide, fun b6 hs6 _ => ?_⟩
  rw [CE_sz] at hs6
  have hb6 : b6 = Γ.1.1 + 68 := by omega
  subst hb6
  refine ⟨68, by omega, by rw [ad_x (by omega)], fun _ => rfl, fun _ => ?_⟩
  rw [CE_mk (k := 68) (k' := 69) rfl (by omega) (by decide +kernel) (by decide +kernel) (fun j => (n2) _ _ (by omega))]
  refine calli_n 2 24 (by decide) (by decide) (y_book' (k' := 71) rfl (by omega) (by decide +kernel) (by decide +kernel) n2 (fun K2 g1 g2 g3 => ⟨rfl, ?_⟩))
  refine ⟨tt _ _ (by omega), rfl, ?_⟩
  rw [CE_up]
  refine ⟨tt _ _ (by omega), tt _ _ (by omega), tt _ _ (by omega), tt _ _ (by omega), tt _ _ (by omega), tt _ _ (by omega), rfl, ?_⟩
  refine Eq.mp (congrArg (kr none _) (CE_up2 (b := 68) (b' := 3)).symm) (hk _ (fun i hi => ?_) ?_ ⟨?_, ?_⟩)
  · funext k
    rw [up_n (by omega), up_n (by omega), up_n (by omega), up_n (by omega), up_n (by omega), g1 i (by omega), zr_n (by omega), zr_n (by omega), h1 i (by omega), zr_n (by omega)]
  · rw [up_n (by omega), up_n (by omega), up_n (by omega), up_n (by omega), up_s]
  · rw [up_n (by omega), up_n (by omega), up_n (by omega), up_n (by omega), up_n (by omega)]
    exact g3.1
  · rw [up_n (by omega), up_n (by omega), up_n (by omega), up_n (by omega), up_n (by omega)]
    exact g3.2

theorem y_di {Γ : Gm} {l : Launch} {d : Nat} {J : Iv} {kr : Kr} {kx : Kxx} {rs : List (Nat × Nat × Nat)} (hG : GW Γ) (hr : Nr 79 rs) (hk : ∀ K, (∀ i, ¬ (79 ≤ i ∧ i ≤ 80) → K i = J i) → kr none K (CE Γ.1.1 81 ((79, 0, 80) :: rs))) : Ex Γ l sh0 (d + 1) (1, 32) mDi_init [.ref 79] J (CE Γ.1.1 80 rs) kr kx := by
  refine ex_ofI (ls0 := [some (.ref 79)]) tDi_init (by decide +kernel) rfl kDi_init rfl (Nat.le_of_ble_eq_true rfl) rfl ?_
  intro go hgo
  have tt : ∀ (k : Nat) (rs : List (Nat × Nat × Nat)), 80 ≤ k → tyc sh0 (CE Γ.1.1 k rs) 79 = 4 := fun k rs h => by rw [CE_ty (by omega)]; decide +kernel
  have tY := tt 80 rs (by omega)
  refine hgo 20 [] 0 _ _ _ _ _ ?_
  simp only [ixr_of, run_s, run_0, rDi_init, rok_i, rok_z, bx_cons, bx_nil, eAOD, eBP, eC0, eLA0, eOI, ePI, ePRF, eRV, fDi_init_0, bDi_init_0, ln_xmarks, rg_xdiary_0, ty_xdiary, ty_xmarks, Option.toList_some, Option.toList_none, List.cons_append, List.nil_append, List.length_cons, List.length_nil, List.mem_cons, List.not_mem_nil, or_false, false_or, or_true, true_or, ↓reduceIte, true_and, and_true, Nat.reduceEqDiff, Nat.reduceAdd, Nat.reduceLeDiff, Nat.reduceLT, dl_i, dl_r, dl_n, dl_u, eq_self, not_true_eq_false, not_false_eq_true, n10, n01, nm0, n0m, tY, imp_t, imp_f]
  refine ⟨hG, 32, rfl, by decide, by decide, fun b0 hs0 _ => ?_⟩
  rw [CE_sz] at hs0
  have hb0 : b0 = Γ.1.1 + 80 := by omega
  subst hb0
  refine ⟨80, by omega, by rw [ad_x (by omega)], fun _ => rfl, fun _ => ?_⟩
  rw [CE_mk (k := 80) (k' := 81) rfl (by omega) (by decide +kernel) (by decide +kernel) (fun j => hr _ _ (by omega))]
  refine ⟨tt _ _ (by omega), rfl, ?_⟩
  rw [CE_up]
  refine ⟨tt _ _ (by omega), hk _ (fun i hi => ?_)⟩
  funext k
  rw [up_n (by omega), zr_n (by omega)]
theorem y_or {Γ : Gm} {l : Launch} {d : Nat} {J : Iv} {kr : Kr} {kx : Kxx} {rs : List (Nat × Nat × Nat)} (hk : ∀ K, (∀ i, i ≠ 97 → K i = J i) → kr none K (CE Γ.1.1 98 ((97, 1, 94) :: (97, 0, 1) :: rs))) : Ex Γ l sh0 (d + 1) (0, 0) mOr_init [.ref 97, .ref 1, .ref 94] J (CE Γ.1.1 98 rs) kr kx := by
  refine ex_ofI (ls0 := [some (.ref 97), some (.ref 1), some (.ref 94)]) tOr_init (by decide +kernel) rfl kOr_init rfl (Nat.le_of_ble_eq_true rfl) rfl ?_
  intro go hgo
  have tt : ∀ (k : Nat) (rs : List (Nat × Nat × Nat)), 98 ≤ k → tyc sh0 (CE Γ.1.1 k rs) 97 = 7 := fun k rs h => by rw [CE_ty (by omega)]; decide +kernel
  have tY := tt 98 rs (by omega)
  refine hgo 20 [] 0 _ _ _ _ _ ?_
  simp only [ixr_of, run_s, run_0, rOr_init, rok_i, rok_z, bx_cons, bx_nil, eC0, eLA0, eLA1, eLA2, eOI, ePI, ePR, ePRF, eRV, fOr_init_0, bOr_init_0, rg_xopinionReader_0, ty_xopinionReader, ty_xtape, Option.toList_some, Option.toList_none, List.cons_append, List.nil_append, List.length_cons, List.length_nil, List.mem_cons, List.not_mem_nil, or_false, false_or, or_true, true_or, ↓reduceIte, true_and, and_true, Nat.reduceEqDiff, Nat.reduceAdd, Nat.reduceLeDiff, Nat.reduceLT, dl_i, dl_r, dl_n, dl_u, eq_self, not_true_eq_false, not_false_eq_true, n10, n01, nm0, n0m, tY, imp_t, imp_f]
  refine ⟨rfl, ?_⟩
  rw [show (upR (CE Γ.1.1 98 rs).1 97 0 2, (CE Γ.1.1 98 rs).2) = CE Γ.1.1 98 ((97, 0, 1) :: rs) from CE_up]
  refine ⟨tt _ _ (by omega), rfl, ?_⟩
  refine Eq.mp (congrArg (kr none _) (CE_up2 (b := 1) (b' := 94)).symm) (hk _ (fun i hi => ?_))
  funext k
  rw [up_n (by omega)]

