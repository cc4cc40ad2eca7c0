/-! constructors, 5: the class made -/
theorem calli_u {g : Go} {kr : Kr} {kx : Kxx} {Γ : Gm} {l : Launch} {sh : Sh} {d : Nat} {M : Uv} {ret : Option FieldType} {mt : Mt} {av : List Value} {I : Iv} {E : Ev} {u : Uv} {k : Iv → Ev → Uv → Prop} (m1 m2 v1 v2 : Nat) (h1 : u.1 + m1 = v1) (h2 : u.2 + m2 = v2) (h3 : v1 ≤ M.1) (h4 : v2 ≤ M.2) (h : Ex Γ l sh d (m1, m2) mt av I E (fun w I' E' => w = none ∧ k I' E' (v1, v2)) (fun _ _ _ => False)) : CallI (g, kr, kx, Γ, l, sh, d, M, ret) mt av I E u k := by
  subst h1
  subst h2
  exact calli_n m1 m2 h3 h4 h
theorem rl_no {rs : List (Nat × Nat × Nat)} {i j : Nat} (hq : (rs.all (fun q => decide (¬ q.1 = i))) = true) : rlk rs i j = none := by
  induction rs with
  | nil => rfl
  | cons q t ih =>
    simp only [List.all_cons, Bool.and_eq_true, decide_eq_true_eq] at hq
    unfold rlk
    rw [if_neg (fun c => hq.1 c.1)]
    exact ih hq.2
theorem xE0_9 {B : Nat} : tyc (shB false) (xE0 B) 999999 = 0 := by
  show (if tS false 999999 = 0 then 0 else tS false 999999) = 0
  have h : tS false 999999 = 0 := by rw [tSf]; exact if_neg (by decide)
  rw [if_pos h]
theorem xE0_80 {B p : Nat} : rget (shB false) (xE0 B) 80 p = .null := by
  unfold rget
  rw [pS_80]
  show rid ((CE B 125 (imsR 3)).1 80 p) = .null
  unfold CE
  dsimp only
  rw [rl_no (by decide +kernel)]
  rfl
/-- what the class's constructor leaves -/
def XI (B : Nat) (K : Iv) (F : Ev) (y : Nat) : Prop := ∃ K0 K', XTn K0 4 tn0 ∧ BgD K0 K' 71 4 0 (fun v => vz tn0 v 3) ∧ CpD (up K' 79 1 (nI 0)) K y 71 ∧ 1000000 ≤ y ∧ (∀ v, v < 9 → K0 (20 + 3 * v) 2 = nI 0 ∧ K0 (20 + 3 * v) 3 = nI 0 ∧ K0 (20 + 3 * v) 4 = nI 0 ∧ K0 (20 + 3 * v) 5 = nI 0) ∧ (K0 68 2 = nI 0 ∧ K0 68 3 = nI 0) ∧ K0 58 4 = nI 0 ∧ (K0 0 12 = nI 0 ∧ K0 0 13 = nI 0 ∧ K0 0 14 = nI 0) ∧ (K0 1 1 = nI 0 ∧ K0 1 6 = -1) ∧ (K0 2 = fun _ => nI 0) ∧ DiE false F 1 (fun p => if p = 0 then y else 0) ∧ EX false (fun a j => a = 80 ∧ j = 0) (xE0 B) F ∧ tyc (shB false) F 999999 = 0 ∧ F.2.2 999999 = B + 134
theorem y_tape' {Γ : Gm} {l : Launch} {d : Nat} {J : Iv} {kr : Kr} {kx : Kxx} (hk : ∀ K, (∀ i, ¬ (1 ≤ i ∧ i ≤ 2) → K i = J i) → (K 2 = fun _ => nI 0) → K 1 1 = nI 0 ∧ K 1 6 = -1 → kr none K (CE Γ.1.1 3 [(1, 0, 2)])) : Ex Γ l sh0 (d + 1) (1, 600) mTp_init [.ref 1] J (CE Γ.1.1 2 []) kr kx :=
  y_tape (y := 1) (by omega) (by decide +kernel) (by decide +kernel) (fun _ _ _ => rfl) (fun K h1 h2 h3 => hk K h1 (h2 2 (by omega) (by omega)) ⟨h3.1, h3.2.2.2.2.2⟩)

set_option maxRecDepth 100000 in
set_option maxHeartbeats 4000000 in
theorem y_H {Γ : Gm} {l : Launch} {d : Nat} {J : Iv} {kr : Kr} {kx : Kxx} (hG : GW Γ) (hk : ∀ K F y, XI Γ.1.1 K F y → kr none K (flE (shB false) F)) : Ex Γ l sh0 (d + 8) (132, 7349) mH_init [.ref 0] J (CE Γ.1.1 1 []) kr kx := by
  refine ex_ofI (ls0 := [some (.ref 0), none]) tH_init (by decide +kernel) rfl kH_init rfl (Nat.le_of_ble_eq_true rfl) rfl ?_
  intro go hgo
  have tt : ∀ (k : Nat) (rs : List (Nat × Nat × Nat)), 1 ≤ k → tyc sh0 (CE Γ.1.1 k rs) 0 = 11 := fun k rs h => by rw [CE_ty (by omega)]; decide +kernel
  have tY := tt 1 [] (by omega)
  refine hgo 20 [162] 0 _ _ _ _ _ ?_
  simp only [ixr_of, run_s, run_0, rH_init, rok_i, rok_z, bx_cons, bx_nil, eAAST105, eAOD, eC0, eC3, eCI0, eCI1, eCI2, eCV1, eDUPr, eGO, eGR, jICge, eINC1, eLA0, eLI1, eNAI, eNEW, eOI, ePI, ePR, ePRF, eRV, eSI1, fH_init_0, fH_init_162, fH_init_167, fH_init_186, bH_init_0, bH_init_162, bH_init_167, bH_init_186, ln_ximages, ln_xthought, rg_xmain_0, rg_xmain_1, rg_xmain_10, rg_xmain_2, rg_xmain_3, rg_xmain_4, rg_xmain_5, rg_xmain_6, rg_xmain_7, ty_xaqueduct, ty_xdiary, ty_xforesight, ty_ximages, ty_xmain, ty_xnow, ty_xopinionReader, ty_xtape, ty_xtasters, ty_xthought, Option.toList_some, Option.toList_none, List.cons_append, List.nil_append, List.length_cons, List.length_nil, List.mem_cons, List.not_mem_nil, or_false, false_or, or_true, true_or, ↓reduceIte, true_and, and_true, Nat.reduceEqDiff, Nat.reduceAdd, Nat.reduceLeDiff, Nat.reduceLT, dl_i, dl_r, dl_n, dl_u, eq_self, not_true_eq_false, not_false_eq_true, n10, n01, nm0, n0m, tY, imp_t, imp_f]
  refine fun b1 hs1 _ => ?_
  rw [CE_sz] at hs1
  have hb1 : b1 = Γ.1.1 + 1 := by omega
  subst hb1
  refine ⟨1, by omega, by rw [ad_x (by omega)], fun _ => rfl, fun _ => ?_⟩
  rw [CE_mk (k := 1) (k' := 2) rfl (by omega) (by decide +kernel) (by decide +kernel) (fun j => ((show Nr 1 [] from fun _ _ _ => rfl)) _ _ (by omega))]
  refine calli_u 1 600 2 607 rfl rfl (by decide) (by decide) (y_tape' (fun K1 p1 p2 p3 => ⟨rfl, ?_⟩))
  refine ⟨tt _ _ (by omega), rfl, ?_⟩
  rw [CE_up]
  refine ⟨by decide, by decide, fun b2 hs2 _ => ?_⟩
  rw [CE_sz] at hs2
  have hb2 : b2 = Γ.1.1 + 3 := by omega
  subst hb2
  refine ⟨3, by omega, by rw [ad_x (by omega)], fun _ => rfl, fun _ => ?_⟩
  rw [CE_mk (k := 3) (k' := 4) rfl (by omega) (by decide +kernel) (by decide +kernel) (fun j => ((show Nr 3 [(0, 0, 1), (1, 0, 2)] from fun i j h => rl_f (by decide +kernel) h)) _ _ (by omega))]
  refine calli_u 43 2524 46 3137 rfl rfl (by decide) (by decide) (y_aq hG (fun i j h => rl_f (by decide +kernel) h) (fun K2 q1 q2 q3 q4 => ⟨rfl, ?_⟩))
  refine ⟨tt _ _ (by omega), rfl, ?_⟩
  rw [CE_up]
  rw [show ((0, 1, 3) :: opsR 9 (aqR [(0, 0, 1), (1, 0, 2)])) = hS2 from rfl]
  refine ⟨by decide, by decide, fun b3 hs3 _ => ?_⟩
  rw [CE_sz] at hs3
  have hb3 : b3 = Γ.1.1 + 47 := by omega
  subst hb3
  refine ⟨47, by omega, by rw [ad_x (by omega)], fun _ => rfl, fun _ => ?_⟩
  rw [CE_mk (k := 47) (k' := 48) rfl (by omega) (by decide +kernel) (by decide +kernel) (fun j => ((show Nr 47 hS2 from fun i j h => rl_f (by decide +kernel) h)) _ _ (by omega))]
  rw [CE_rg (show rlk hS2 0 1 = some 3 by decide +kernel)]
  refine ⟨tt _ _ (by omega), calli_u 10 547 57 3690 rfl rfl (by decide) (by decide) (y_fo (show Nr 47 hS2 from fun i j h => rl_f (by decide +kernel) h) (fun K3 r1 => ⟨rfl, ?_⟩))⟩
  refine ⟨tt _ _ (by omega), rfl, ?_⟩
  rw [CE_up]
  rw [show ((0, 2, 47) :: (47, 0, 3) :: (47, 3, 57) :: (47, 2, 56) :: (47, 1, 48) :: dyR' 48 hS2) = hS3 from rfl]
  refine ⟨by decide, by decide, fun b4 hs4 _ => ?_⟩
  rw [CE_sz] at hs4
  have hb4 : b4 = Γ.1.1 + 58 := by omega
  subst hb4
  refine ⟨58, by omega, by rw [ad_x (by omega)], fun _ => rfl, fun _ => ?_⟩
  rw [CE_mk (k := 58) (k' := 59) rfl (by omega) (by decide +kernel) (by decide +kernel) (fun j => ((show Nr 58 hS3 from fun i j h => rl_f (by decide +kernel) h)) _ _ (by omega))]
  rw [CE_rg (show rlk hS3 0 1 = some 3 by decide +kernel)]
  refine ⟨tt _ _ (by omega), calli_u 12 563 70 4262 rfl rfl (by decide) (by decide) (y_ts (show Nr 58 hS3 from fun i j h => rl_f (by decide +kernel) h) (fun K4 s1 s2 s3 => ⟨rfl, ?_⟩))⟩
  refine ⟨tt _ _ (by omega), rfl, ?_⟩
  rw [CE_up]
  rw [show ((0, 3, 58) :: (58, 0, 3) :: (58, 3, 68) :: opR 68 ((58, 2, 67) :: (58, 1, 59) :: dyR' 59 hS3)) = hS4 from rfl]
  refine ⟨by decide, by decide, fun b5 hs5 _ => ?_⟩
  rw [CE_sz] at hs5
  have hb5 : b5 = Γ.1.1 + 71 := by omega
  subst hb5
  refine ⟨71, by omega, by rw [ad_x (by omega)], fun _ => rfl, fun _ => ?_⟩
  rw [CE_mk (k := 71) (k' := 72) rfl (by omega) (by decide +kernel) (by decide +kernel) (fun j => ((show Nr 71 hS4 from fun i j h => rl_f (by decide +kernel) h)) _ _ (by omega))]
  refine calli_u 7 508 78 4788 rfl rfl (by decide) (by decide) (y_days' (k' := 79) rfl (by omega) (by decide +kernel) (by decide +kernel) (show Nr 71 hS4 from fun i j h => rl_f (by decide +kernel) h) (fun K5 u1 u2 u3 => ⟨rfl, ?_⟩))
  refine ⟨tt _ _ (by omega), rfl, ?_⟩
  rw [CE_up]
  rw [show ((0, 4, 71) :: dyR' 71 hS4) = hS5 from rfl]
  refine ⟨by decide, by decide, fun b6 hs6 _ => ?_⟩
  rw [CE_sz] at hs6
  have hb6 : b6 = Γ.1.1 + 79 := by omega
  subst hb6
  refine ⟨79, by omega, by rw [ad_x (by omega)], fun _ => rfl, fun _ => ?_⟩
  rw [CE_mk (k := 79) (k' := 80) rfl (by omega) (by decide +kernel) (by decide +kernel) (fun j => ((show Nr 79 hS5 from fun i j h => rl_f (by decide +kernel) h)) _ _ (by omega))]
  refine calli_u 1 32 80 4822 rfl rfl (by decide) (by decide) (y_di hG (show Nr 79 hS5 from fun i j h => rl_f (by decide +kernel) h) (fun K6 v1 => ⟨rfl, ?_⟩))
  refine ⟨tt _ _ (by omega), rfl, ?_⟩
  rw [CE_up]
  rw [show ((0, 5, 79) :: (79, 0, 80) :: hS5) = hS6 from rfl]
  refine ⟨hG, 3, rfl, by decide, by decide, by decide, fun b81 hs81 _ => ?_⟩
  rw [CE_sz] at hs81
  have hb81 : b81 = Γ.1.1 + 81 := by omega
  subst hb81
  refine ⟨81, by omega, by rw [ad_x (by omega)], fun _ => rfl, fun _ => ?_⟩
  rw [CE_mk (k := 81) (k' := 82) rfl (by omega) (by decide +kernel) (by decide +kernel) (fun j => (show Nr 81 hS6 from fun i j h => rl_f (by decide +kernel) h) _ _ (by omega))]
  refine ⟨tt _ _ (by omega), rfl, ?_⟩
  rw [CE_up]
  rw [show ((0, 6, 81) :: hS6) = hS7 from rfl]
  refine ⟨3, rfl, by decide, by decide, by decide, fun b7 hs7 _ => ?_⟩
  rw [CE_sz] at hs7
  have hb7 : b7 = Γ.1.1 + 82 := by omega
  subst hb7
  refine ⟨82, by omega, by rw [ad_x (by omega)], fun _ => ?_⟩
  rw [CE_mk (k := 82) (k' := 83) rfl (by omega) (by decide +kernel) (by decide +kernel) (fun j => ((show Nr 82 hS7 from fun i j h => rl_f (by decide +kernel) h)) _ _ (by omega))]
  refine ⟨tt _ _ (by omega), rfl, ?_⟩
  rw [CE_up]
  rw [show ((0, 7, 82) :: hS7) = hS8 from rfl]
  refine ⟨by decide, by decide, fun b8 hs8 _ => ?_⟩
  rw [CE_sz] at hs8
  have hb8 : b8 = Γ.1.1 + 83 := by omega
  subst hb8
  refine ⟨83, by omega, by rw [ad_x (by omega)], fun _ => rfl, fun _ => ?_⟩
  rw [CE_mk (k := 83) (k' := 84) rfl (by omega) (by decide +kernel) (by decide +kernel) (fun j => ((show Nr 83 hS8 from fun i j h => rl_f (by decide +kernel) h)) _ _ (by omega))]
  refine calli_u 10 141 93 4984 rfl rfl (by decide) (by decide) (y_town' (k' := 94) rfl (by omega) (by decide +kernel) (by decide +kernel) (show Nr 83 hS8 from fun i j h => rl_f (by decide +kernel) h) (fun K7 w1 w2 w3 => ⟨rfl, ?_⟩))
  refine ⟨tt _ _ (by omega), rfl, ?_⟩
  rw [CE_up]
  rw [show ((0, 8, 83) :: tnR 83 hS8) = hS9 from rfl]
  refine ⟨by decide, by decide, fun b9 hs9 _ => ?_⟩
  rw [CE_sz] at hs9
  have hb9 : b9 = Γ.1.1 + 94 := by omega
  subst hb9
  refine ⟨94, by omega, by rw [ad_x (by omega)], fun _ => rfl, fun _ => ?_⟩
  rw [CE_mk (k := 94) (k' := 95) rfl (by omega) (by decide +kernel) (by decide +kernel) (fun j => ((show Nr 94 hS9 from fun i j h => rl_f (by decide +kernel) h)) _ _ (by omega))]
  refine calli_u 2 224 96 5214 rfl rfl (by decide) (by decide) (y_opn' (k' := 97) rfl (by omega) (by decide +kernel) (by decide +kernel) (show Nr 94 hS9 from fun i j h => rl_f (by decide +kernel) h) (fun K8 x1 x2 x3 => ⟨rfl, ?_⟩))
  refine ⟨tt _ _ (by omega), rfl, ?_⟩
  rw [CE_up]
  rw [show ((0, 9, 94) :: opR 94 hS9) = hS10 from rfl]
  refine ⟨by decide, by decide, fun b10 hs10 _ => ?_⟩
  rw [CE_sz] at hs10
  have hb10 : b10 = Γ.1.1 + 97 := by omega
  subst hb10
  refine ⟨97, by omega, by rw [ad_x (by omega)], fun _ => rfl, fun _ => ?_⟩
  rw [CE_mk (k := 97) (k' := 98) rfl (by omega) (by decide +kernel) (by decide +kernel) (fun j => ((show Nr 97 hS10 from fun i j h => rl_f (by decide +kernel) h)) _ _ (by omega))]
  rw [CE_rg (show rlk hS10 0 0 = some 1 by decide +kernel), CE_rg (show rlk hS10 0 9 = some 94 by decide +kernel)]
  refine ⟨tt _ _ (by omega), tt _ _ (by omega), calli_u 0 0 97 5217 rfl rfl (by decide) (by decide) (y_or (fun K9 y1 => ⟨rfl, ?_⟩))⟩
  refine ⟨tt _ _ (by omega), rfl, ?_⟩
  rw [CE_up]
  rw [show ((0, 10, 97) :: (97, 1, 94) :: (97, 0, 1) :: hS10) = hS11 from rfl]
  refine ⟨by decide, by decide, fun b11 hs11 _ => ?_⟩
  rw [CE_sz] at hs11
  have hb11 : b11 = Γ.1.1 + 98 := by omega
  subst hb11
  refine ⟨98, by omega, by rw [ad_x (by omega)], fun _ => rfl, fun _ => ?_⟩
  rw [CE_mk (k := 98) (k' := 99) rfl (by omega) (by decide +kernel) (by decide +kernel) (fun j => ((show Nr 98 hS11 from fun i j h => rl_f (by decide +kernel) h)) _ _ (by omega))]
  refine calli_u 2 24 100 5245 rfl rfl (by decide) (by decide) (y_book' (k' := 101) rfl (by omega) (by decide +kernel) (by decide +kernel) (show Nr 98 hS11 from fun i j h => rl_f (by decide +kernel) h) (fun K10 z1 z2 z3 => ⟨rfl, ?_⟩))
  refine ⟨tt _ _ (by omega), rfl, ?_⟩
  rw [CE_up]
  rw [show ((0, 11, 98) :: opR 98 hS11) = hS12 from rfl]
  refine ⟨tt _ _ (by omega), tt _ _ (by omega), tt _ _ (by omega), ?_⟩
  obtain ⟨L, hL⟩ : ∃ L, L = up (up (up K10 0 12 (nI 0)) 0 13 (nI 0)) 0 14 (nI 0) := ⟨_, rfl⟩
  rw [← hL]
  have lk : ∀ i, 0 < i → i ≤ 46 → L i = K2 i := fun i a b => by
    rw [hL]
    funext j
    rw [up_n (by omega), up_n (by omega), up_n (by omega), z1 i (by omega), zr_n (by omega), y1 i (by omega), zr_n (by omega), x1 i (by omega), zr_n (by omega), w1 i (by omega), zr_n (by omega), zr_n (by omega), zr_n (by omega), v1 i (by omega), zr_n (by omega), u1 i (by omega), zr_n (by omega), s1 i (by omega), zr_n (by omega), r1 i (by omega), zr_n (by omega)]
  have loop : ∀ (g k : Nat) (K : Iv), g + k = 3 → (∀ i, i < 101 ∨ 125 ≤ i → K i = L i) → go 162 [some (.ref 0), some (.int (nI k))] [] K (CE Γ.1.1 (101 + 8 * k) (imsR k)) (100 + 8 * k, 5245 + 526 * k) := by
    intro g
    induction g with
    | zero =>
      intro k K hg hK
      have : k = 3 := by omega
      subst this
      refine hgo 20 [162] 162 _ _ _ _ _ ?_
      have t0 := tt (101 + 8 * 3) (imsR 3) (by omega)
      have g4 : rget sh0 (CE Γ.1.1 (101 + 8 * 3) (imsR 3)) 0 4 = .ref 71 := CE_rg (by decide +kernel)
      have g1 : rget sh0 (CE Γ.1.1 (101 + 8 * 3) (imsR 3)) 0 1 = .ref 3 := CE_rg (by decide +kernel)
      have g30 : rget sh0 (CE Γ.1.1 (101 + 8 * 3) (imsR 3)) 3 0 = .ref 4 := CE_rg (by decide +kernel)
      have t3 : tyc sh0 (CE Γ.1.1 (101 + 8 * 3) (imsR 3)) 3 = 1 := by rw [CE_ty (by omega)]; decide +kernel
      have hY71 : DyA sh0 (CE Γ.1.1 125 (imsR 3)) 71 := ⟨by rw [CE_ty (by omega)]; decide +kernel, ⟨CE_rg (by decide +kernel), CE_rg (by decide +kernel), CE_rg (by decide +kernel), CE_rg (by decide +kernel), CE_rg (by decide +kernel), CE_rg (by decide +kernel), CE_rg (by decide +kernel)⟩, ⟨by rw [CE_ty (by omega)]; decide +kernel, by rw [CE_ty (by omega)]; decide +kernel, by rw [CE_ty (by omega)]; decide +kernel, by rw [CE_ty (by omega)]; decide +kernel, by rw [CE_ty (by omega)]; decide +kernel, by rw [CE_ty (by omega)]; decide +kernel, by rw [CE_ty (by omega)]; decide +kernel⟩, by rw [CE_ln (by omega) (by omega)]; decide +kernel, by rw [CE_ln (by omega) (by omega)]; decide +kernel, by rw [CE_ln (by omega) (by omega)]; decide +kernel, by rw [CE_ln (by omega) (by omega)]; decide +kernel, by rw [CE_ln (by omega) (by omega)]; decide +kernel, by rw [CE_ln (by omega) (by omega)]; decide +kernel, by rw [CE_ln (by omega) (by omega)]; decide +kernel⟩
      have hT4 : TnA sh0 (CE Γ.1.1 125 (imsR 3)) 4 := by
        have hd : ∀ j, j < 10 → rlk (imsR 3) 4 j = some (4 + 1 + j) ∧ xTl.getD (4 + 1 + j) 0 = 101 ∧ xNl.getD (4 + 1 + j) 0 = tnN j := by decide +kernel
        exact ⟨by rw [CE_ty (by omega)]; decide +kernel, fun j hj => ⟨CE_rg (hd j hj).1, by rw [CE_ty (by omega)]; exact (hd j hj).2.1, by rw [CE_ln (by omega) (by omega)]; exact (hd j hj).2.2⟩⟩
      simp only [ixr_of, run_s, run_0, rH_init, rok_i, rok_z, bx_cons, bx_nil, eAAST105, eAOD, eC0, eC3, eCI0, eCI1, eCI2, eCV1, eDUPr, eGO, eGR, jICge, eINC1, eLA0, eLI1, eNAI, eNEW, eOI, ePI, ePR, ePRF, eRV, eSI1, fH_init_0, fH_init_162, fH_init_167, fH_init_186, bH_init_0, bH_init_162, bH_init_167, bH_init_186, ln_ximages, ln_xthought, rg_xmain_0, rg_xmain_1, rg_xmain_10, rg_xmain_2, rg_xmain_3, rg_xmain_4, rg_xmain_5, rg_xmain_6, rg_xmain_7, ty_xaqueduct, ty_xdiary, ty_xforesight, ty_ximages, ty_xmain, ty_xnow, ty_xopinionReader, ty_xtape, ty_xtasters, ty_xthought, Option.toList_some, Option.toList_none, List.cons_append, List.nil_append, List.length_cons, List.length_nil, List.mem_cons, List.not_mem_nil, or_false, false_or, or_true, true_or, ↓reduceIte, true_and, and_true, Nat.reduceEqDiff, Nat.reduceAdd, Nat.reduceLeDiff, Nat.reduceLT, dl_i, dl_r, dl_n, dl_u, eq_self, not_true_eq_false, not_false_eq_true, n10, n01, nm0, n0m, nIl, t0, g4, g1, g30, t3, imp_t, imp_f]
      refine ⟨hY71.1, ?_⟩
      have e4 : K 4 = K2 4 := by rw [hK 4 (by omega), lk 4 (by omega) (by omega)]
      refine call0 (x_dbegin (nV := 0) (lg := fun v => vz tn0 v 3) hY71 hT4 (by rw [e4]; exact q3.1) (by omega) (fun v hv => absurd hv (by omega)) (by omega) (fun K' hB => ?_))
      have g5 : rget sh0 (CE Γ.1.1 (101 + 8 * 3) (imsR 3)) 0 5 = .ref 79 := CE_rg (by decide +kernel)
      have t79 : tyc sh0 (CE Γ.1.1 (101 + 8 * 3) (imsR 3)) 79 = 4 := by rw [CE_ty (by omega)]; decide +kernel
      refine ⟨t0, t0, ?_⟩
      simp only [ixr_of, run_s, run_0, rH_init, rok_i, rok_z, bx_cons, bx_nil, eAAST105, eAOD, eC0, eC3, eCI0, eCI1, eCI2, eCV1, eDUPr, eGO, eGR, jICge, eINC1, eLA0, eLI1, eNAI, eNEW, eOI, ePI, ePR, ePRF, eRV, eSI1, fH_init_0, fH_init_162, fH_init_167, fH_init_186, bH_init_0, bH_init_162, bH_init_167, bH_init_186, ln_ximages, ln_xthought, rg_xmain_0, rg_xmain_1, rg_xmain_10, rg_xmain_2, rg_xmain_3, rg_xmain_4, rg_xmain_5, rg_xmain_6, rg_xmain_7, ty_xaqueduct, ty_xdiary, ty_xforesight, ty_ximages, ty_xmain, ty_xnow, ty_xopinionReader, ty_xtape, ty_xtasters, ty_xthought, Option.toList_some, Option.toList_none, List.cons_append, List.nil_append, List.length_cons, List.length_nil, List.mem_cons, List.not_mem_nil, or_false, false_or, or_true, true_or, ↓reduceIte, true_and, and_true, Nat.reduceEqDiff, Nat.reduceAdd, Nat.reduceLeDiff, Nat.reduceLT, dl_i, dl_r, dl_n, dl_u, eq_self, not_true_eq_false, not_false_eq_true, n10, n01, nm0, n0m, g4, g5, t79, imp_t, imp_f]
      refine ⟨8, 526, fun _ => (show (124 : Nat) + 8 ≤ 132 by decide), fun _ => (show (6823 : Nat) + 526 ≤ 7349 by decide), ex_vw (sh' := shB false) (E' := xE0 Γ.1.1) (fun H h => h.x0) (x_dibegin (b := false) (q := 0) (n := 0) (M := (8, 526)) (mk := fun _ => 0) ⟨by omega, fun p hp => absurd hp (by omega), fun p _ _ => xE0_80, fun p p' hp => absurd hp (by omega)⟩ hB.2.1.2.2.1 (by omega) xE0_9 (fun _ => ⟨Nat.le_refl _, Nat.le_refl _⟩) (fun c => absurd c (by omega)) (fun _ K3 F y a1 a2 a3 a4 a6 a7 a5 => ⟨flE (shB false) F, fun H h => h.fl, ?_⟩))⟩
      simp only [ixr_of, run_s, run_0, rH_init, rok_i, rok_z, bx_cons, bx_nil, eAAST105, eAOD, eC0, eC3, eCI0, eCI1, eCI2, eCV1, eDUPr, eGO, eGR, jICge, eINC1, eLA0, eLI1, eNAI, eNEW, eOI, ePI, ePR, ePRF, eRV, eSI1, fH_init_0, fH_init_162, fH_init_167, fH_init_186, bH_init_0, bH_init_162, bH_init_167, bH_init_186, ln_ximages, ln_xthought, rg_xmain_0, rg_xmain_1, rg_xmain_10, rg_xmain_2, rg_xmain_3, rg_xmain_4, rg_xmain_5, rg_xmain_6, rg_xmain_7, ty_xaqueduct, ty_xdiary, ty_xforesight, ty_ximages, ty_xmain, ty_xnow, ty_xopinionReader, ty_xtape, ty_xtasters, ty_xthought, Option.toList_some, Option.toList_none, List.cons_append, List.nil_append, List.length_cons, List.length_nil, List.mem_cons, List.not_mem_nil, or_false, false_or, or_true, true_or, ↓reduceIte, true_and, and_true, Nat.reduceEqDiff, Nat.reduceAdd, Nat.reduceLeDiff, Nat.reduceLT, dl_i, dl_r, dl_n, dl_u, eq_self, not_true_eq_false, not_false_eq_true, n10, n01, nm0, n0m, imp_t, imp_f]
      have z9 : (xE0 Γ.1.1).2.2 999999 = Γ.1.1 + 126 := by
        unfold xE0
        dsimp only
        rw [if_pos rfl]
      have l68 : ∀ i, 58 ≤ i → i ≤ 70 → L i = K4 i := fun i a b => by
        rw [hL]
        funext j
        rw [up_n (by omega), up_n (by omega), up_n (by omega), z1 i (by omega), zr_n (by omega), y1 i (by omega), zr_n (by omega), x1 i (by omega), zr_n (by omega), w1 i (by omega), zr_n (by omega), zr_n (by omega), zr_n (by omega), v1 i (by omega), zr_n (by omega), u1 i (by omega), zr_n (by omega)]
      have kz : ∀ i, 5 ≤ i → i ≤ 14 → K i = fun _ => nI 0 := fun i a b => by rw [hK i (by omega), lk i (by omega) (by omega)]; exact q2 i a b
      have kp : ∀ i, 1 ≤ i → i ≤ 2 → K i = K1 i := fun i a b => by rw [hK i (by omega), lk i (by omega) (by omega), q1 i (by omega), zr_n (by omega)]
      refine hk K3 F y ⟨K, K', ⟨by rw [e4]; exact q3.1, by rw [e4]; exact q3.2.1, by rw [e4]; exact q3.2.2.1, by rw [e4]; exact q3.2.2.2.1, by rw [e4]; exact q3.2.2.2.2, fun v hv => absurd hv (Nat.not_lt_zero v), fun v hv => ⟨?_, ?_, ?_, ?_, ?_, fun h hh => ?_⟩, fun c hc => absurd hc (Nat.not_lt_zero c)⟩, hB, a5, a1, fun v hv => ?_, ?_, ?_, ⟨?_, ?_, ?_⟩, ⟨?_, ?_⟩, ?_, a4, a3, a6, ?_⟩
      · rw [kz (4 + 2) (by omega) (by omega)]; rfl
      · rw [kz (4 + 3) (by omega) (by omega)]; rfl
      · rw [kz (4 + 4) (by omega) (by omega)]; rfl
      · rw [kz (4 + 5) (by omega) (by omega)]; rfl
      · rw [kz (4 + 6) (by omega) (by omega)]; rfl
      · rw [kz (4 + 7) (by omega) (by omega)]; rfl
      · rw [hK _ (by omega), lk _ (by omega) (by omega)]; exact q4 v hv
      · rw [hK 68 (by omega), l68 68 (by omega) (by omega)]; exact s3
      · rw [hK 58 (by omega), l68 58 (by omega) (by omega)]; exact s2
      · rw [hK 0 (by omega), hL, up_n (by omega), up_n (by omega), up_s]
      · rw [hK 0 (by omega), hL, up_n (by omega), up_s]
      · rw [hK 0 (by omega), hL, up_s]
      · rw [kp 1 (by omega) (by omega)]; exact p3.1
      · rw [kp 1 (by omega) (by omega)]; exact p3.2
      · rw [kp 2 (by omega) (by omega)]; exact p2
      · rw [z9] at a7
        omega
    | succ g ih =>
      intro k K hg hK
      have k3 : k < 3 := by omega
      have c1 : (nI 3 ≤ nI k) = False := by rw [nIl (by decide) (by omega)]; exact eq_false (by omega)
      have im_ty : ∀ v, v < 3 → xTl.getD (101 + 8 * v) 0 = 3 ∧ xNl.getD (101 + 8 * v) 0 = 0 ∧ ((xTl.getD (101 + 8 * v + 1) 0 = 101 ∧ xNl.getD (101 + 8 * v + 1) 0 = 252) ∧ (xTl.getD (101 + 8 * v + 2) 0 = 101 ∧ xNl.getD (101 + 8 * v + 2) 0 = 180) ∧ (xTl.getD (101 + 8 * v + 3) 0 = 101 ∧ xNl.getD (101 + 8 * v + 3) 0 = 9) ∧ (xTl.getD (101 + 8 * v + 4) 0 = 101 ∧ xNl.getD (101 + 8 * v + 4) 0 = 27) ∧ (xTl.getD (101 + 8 * v + 5) 0 = 101 ∧ xNl.getD (101 + 8 * v + 5) 0 = 27) ∧ (xTl.getD (101 + 8 * v + 6) 0 = 101 ∧ xNl.getD (101 + 8 * v + 6) 0 = 9) ∧ (xTl.getD (101 + 8 * v + 7) 0 = 101 ∧ xNl.getD (101 + 8 * v + 7) 0 = 4)) := by decide +kernel
      have im_nr : ∀ v, v < 3 → Nr (101 + 8 * v) (imsR v) := by
        intro v hv
        rcases (show v = 0 ∨ v = 1 ∨ v = 2 by omega) with rfl | rfl | rfl
        · exact fun i j h => rl_f (y := 101) (by decide +kernel) h
        · exact fun i j h => rl_f (y := 109) (by decide +kernel) h
        · exact fun i j h => rl_f (y := 117) (by decide +kernel) h
      have im_81 : ∀ v, v < 3 → rlk (imsR v) 0 6 = some 81 := by decide +kernel
      have r81 : rget sh0 (CE Γ.1.1 (101 + 8 * k) (imsR k)) 0 6 = .ref 81 := CE_rg (im_81 k k3)
      have tk := tt (101 + 8 * k) (imsR k) (by omega)
      obtain ⟨o1, o2, o3⟩ := im_ty k k3
      refine hgo 20 [162] 162 _ _ _ _ _ ?_
      simp only [ixr_of, run_s, run_0, rH_init, rok_i, rok_z, bx_cons, bx_nil, eAAST105, eAOD, eC0, eC3, eCI0, eCI1, eCI2, eCV1, eDUPr, eGO, eGR, jICge, eINC1, eLA0, eLI1, eNAI, eNEW, eOI, ePI, ePR, ePRF, eRV, eSI1, fH_init_0, fH_init_162, fH_init_167, fH_init_186, bH_init_0, bH_init_162, bH_init_167, bH_init_186, ln_ximages, ln_xthought, rg_xmain_0, rg_xmain_1, rg_xmain_10, rg_xmain_2, rg_xmain_3, rg_xmain_4, rg_xmain_5, rg_xmain_6, rg_xmain_7, ty_xaqueduct, ty_xdiary, ty_xforesight, ty_ximages, ty_xmain, ty_xnow, ty_xopinionReader, ty_xtape, ty_xtasters, ty_xthought, Option.toList_some, Option.toList_none, List.cons_append, List.nil_append, List.length_cons, List.length_nil, List.mem_cons, List.not_mem_nil, or_false, false_or, or_true, true_or, ↓reduceIte, true_and, and_true, Nat.reduceEqDiff, Nat.reduceAdd, Nat.reduceLeDiff, Nat.reduceLT, dl_i, dl_r, dl_n, dl_u, eq_self, not_true_eq_false, not_false_eq_true, n10, n01, nm0, n0m, c1, r81, tk, imp_t, imp_f]
      refine ⟨by omega, by omega, fun a0 hs0 _ => ?_⟩
      rw [CE_sz] at hs0
      have ha0 : a0 = Γ.1.1 + (101 + 8 * k) := by omega
      subst ha0
      refine ⟨101 + 8 * k, by omega, by rw [ad_x (by omega)], fun _ => rfl, fun _ => ?_⟩
      rw [CE_mk (k := 101 + 8 * k) (k' := 101 + 8 * k + 1) rfl (by omega) o1 o2 (fun j => im_nr k k3 _ _ (Nat.le_refl _))]
      refine calli_n 7 508 (by dsimp only; omega) (by dsimp only; omega) (y_days' (k' := 101 + 8 * (k + 1)) (by omega) (by omega) o1 o3 (im_nr k k3) (fun K1 f1 f2 f3 => ⟨rfl, ?_⟩))
      refine ⟨by rw [CE_ty (by omega)]; decide +kernel, by rw [CE_ty (by omega)]; exact o1, ?_⟩
      rw [CE_ln (by omega) (by omega), show xNl.getD 81 0 = 3 by decide +kernel]
      refine ixr_n k3 ⟨rfl, ?_⟩
      rw [CE_up, nI_add]
      have hu : ((100 + 8 * k + 1, 5245 + 526 * k + 18).fst + 7, (100 + 8 * k + 1, 5245 + 526 * k + 18).snd + 508) = (100 + 8 * (k + 1), 5245 + 526 * (k + 1)) := Prod.ext (show 100 + 8 * k + 1 + 7 = 100 + 8 * (k + 1) by omega) (show 5245 + 526 * k + 18 + 508 = 5245 + 526 * (k + 1) by omega)
      rw [hu]
      refine ih (k + 1) K1 (by omega) (fun i hi => by rw [f1 i (by omega), zr_n (by omega), hK i hi])
  exact loop 3 0 L (by omega) (fun _ _ => rfl)

