/-! constructors, 1: what is made, by ids -/
def sh0 : Sh := (fun _ => 0, fun _ => 0, fun _ _ => none)
/-- k cells of the class are made, with these references -/
def CE (B k : Nat) (rs : List (Nat × Nat × Nat)) : Ev := (fun i j => match rlk rs i j with | some b => b + 1 | none => 0, fun i => if i < k then xTl.getD i 0 else 0, fun i => if i = 999999 then B + k + 1 else if i < k then xNl.getD i 0 else 0)
section CEs
variable {B k i j b : Nat} {rs : List (Nat × Nat × Nat)}
theorem CE_mk {t n k' : Nat} (hk' : k' = k + 1) (hk : k < 999999) (ht : xTl.getD k 0 = t) (hn : xNl.getD k 0 = n) (hr : ∀ j, rlk rs k j = none) : mkE (CE B k rs) k t n (B + k + 2) = CE B k' rs := by
  subst hk'
  unfold mkE CE
  refine Prod.ext ?_ (Prod.ext ?_ ?_)
  · funext i j
    by_cases e : i = k
    · subst e
      dsimp only
      rw [if_pos rfl, hr j]
    · dsimp only
      rw [if_neg e]
  · funext i
    dsimp only
    by_cases e : i = k
    · subst e
      rw [if_pos rfl, if_pos (by omega), ht]
    · rw [if_neg e]
      by_cases h : i < k
      · rw [if_pos h, if_pos (by omega)]
      · rw [if_neg h, if_neg (by omega)]
  · funext i
    dsimp only
    by_cases e9 : i = 999999
    · rw [if_pos e9, if_pos e9]
      omega
    · simp only [if_neg e9]
      by_cases e : i = k
      · subst e
        rw [if_pos rfl, if_pos (by omega), hn]
      · rw [if_neg e]
        by_cases h : i < k
        · rw [if_pos h, if_pos (by omega)]
        · rw [if_neg h, if_neg (by omega)]
theorem CE_up : (upR (CE B k rs).1 i j (b + 1), (CE B k rs).2) = CE B k ((i, j, b) :: rs) := by
  unfold CE upR
  refine Prod.ext ?_ rfl
  funext a c
  show (if a = i ∧ c = j then b + 1 else match rlk rs a c with | some b => b + 1 | none => 0) = match (if i = a ∧ j = c then some b else rlk rs a c) with | some b => b + 1 | none => 0
  by_cases e : a = i ∧ c = j
  · rw [if_pos e, if_pos ⟨e.1.symm, e.2.symm⟩]
  · rw [if_neg e, if_neg (fun q => e ⟨q.1.symm, q.2.symm⟩)]
theorem CE_ty (h : i < k) : tyc sh0 (CE B k rs) i = xTl.getD i 0 := by
  unfold tyc sh0 CE
  dsimp only
  rw [if_pos rfl, if_pos h]
theorem CE_ty0 (h : k ≤ i) : tyc sh0 (CE B k rs) i = 0 := by
  unfold tyc sh0 CE
  dsimp only
  rw [if_pos rfl, if_neg (by omega)]
theorem CE_ln (h : i < k) (h9 : i ≠ 999999) : len sh0 (CE B k rs) i = xNl.getD i 0 := by
  unfold len sh0 CE
  dsimp only
  rw [if_pos rfl, if_neg h9, if_pos h]
theorem CE_rg (h : rlk rs i j = some b) : rget sh0 (CE B k rs) i j = .ref b := by
  unfold rget sh0 CE
  dsimp only
  rw [h]
  rfl
theorem CE_rn (h : rlk rs i j = none) : rget sh0 (CE B k rs) i j = .null := by
  unfold rget sh0 CE
  dsimp only
  rw [h]
  rfl
theorem CE_sz : (CE B k rs).2.2 999999 = B + k + 1 := by
  unfold CE
  dsimp only
  rw [if_pos rfl]
theorem rl_c {a c e : Nat} (h : i ≠ a) : rlk ((a, c, e) :: rs) i j = rlk rs i j := by
  show (if a = i ∧ c = j then some e else rlk rs i j) = _
  rw [if_neg (fun q => h q.1.symm)]
theorem rl_f {y : Nat} (hq : (rs.all (fun q => decide (q.1 < y))) = true) (h : y ≤ i) : rlk rs i j = none := by
  induction rs with
  | nil => rfl
  | cons q t ih =>
    simp only [List.all_cons, Bool.and_eq_true, decide_eq_true_eq] at hq
    unfold rlk
    rw [if_neg (fun c => by omega)]
    exact ih hq.2
theorem ad_x {B : Nat × Nat} (h : i < 500000) : ad B i = B.1 + i := if_pos h
end CEs

theorem y_town {Γ : Gm} {l : Launch} {d : Nat} {J : Iv} {kr : Kr} {kx : Kxx} {y : Nat} {rs : List (Nat × Nat × Nat)} (hy : y < 400000) (hY : xTl.getD y 0 = 10) (hX : (xTl.getD (y + 1) 0 = 101 ∧ xNl.getD (y + 1) 0 = 9) ∧ (xTl.getD (y + 2) 0 = 101 ∧ xNl.getD (y + 2) 0 = 9) ∧ (xTl.getD (y + 3) 0 = 101 ∧ xNl.getD (y + 3) 0 = 9) ∧ (xTl.getD (y + 4) 0 = 101 ∧ xNl.getD (y + 4) 0 = 9) ∧ (xTl.getD (y + 5) 0 = 101 ∧ xNl.getD (y + 5) 0 = 9) ∧ (xTl.getD (y + 6) 0 = 101 ∧ xNl.getD (y + 6) 0 = 9) ∧ (xTl.getD (y + 7) 0 = 101 ∧ xNl.getD (y + 7) 0 = 27) ∧ (xTl.getD (y + 8) 0 = 101 ∧ xNl.getD (y + 8) 0 = 20) ∧ (xTl.getD (y + 9) 0 = 101 ∧ xNl.getD (y + 9) 0 = 20) ∧ (xTl.getD (y + 10) 0 = 101 ∧ xNl.getD (y + 10) 0 = 20)) (hr : ∀ i j, y ≤ i → rlk rs i j = none)
    (hk : ∀ K, (∀ i, ¬ (y ≤ i ∧ i ≤ y + 10) → K i = J i) → (∀ i, y + 1 ≤ i → i ≤ y + 10 → K i = fun _ => nI 0) → (K y 10 = nI 0 ∧ K y 11 = nI 0 ∧ K y 12 = -1 ∧ K y 13 = nI 0 ∧ K y 14 = nI 20) → kr none K (CE Γ.1.1 (y + 11) ((y, 9, y + 10) :: (y, 8, y + 9) :: (y, 7, y + 8) :: (y, 6, y + 7) :: (y, 5, y + 6) :: (y, 4, y + 5) :: (y, 3, y + 4) :: (y, 2, y + 3) :: (y, 1, y + 2) :: (y, 0, y + 1) :: rs))) : Ex Γ l sh0 (d + 1) (10, 141) mTn_init [.ref y] J (CE Γ.1.1 (y + 1) rs) kr kx := by
  refine ex_ofI (ls0 := [some (.ref y)]) tTn_init (by decide +kernel) rfl kTn_init rfl (Nat.le_of_ble_eq_true rfl) rfl ?_
  intro go hgo
  have tY : tyc sh0 (CE Γ.1.1 (y + 1) rs) y = 10 := by rw [CE_ty (by omega)]; exact hY
  refine hgo 20 [] 0 _ _ _ _ _ ?_
  simp only [ixr_of, run_s, run_0, rTn_init, rok_i, rok_z, bx_cons, bx_nil, eBP, eC0, eCm1, eLA0, eNAI, eOI, ePI, ePRF, eRV, fTn_init_0, bTn_init_0, Option.toList_some, Option.toList_none, List.cons_append, List.nil_append, List.length_cons, List.length_nil, List.mem_cons, List.not_mem_nil, or_false, false_or, or_true, true_or, ↓reduceIte, true_and, and_true, Nat.reduceEqDiff, Nat.reduceAdd, Nat.reduceLeDiff, Nat.reduceLT, dl_i, dl_r, dl_n, dl_u, eq_self, not_true_eq_false, not_false_eq_true, n10, n01, nm0, n0m, tY, imp_t, imp_f]
  obtain ⟨⟨xt0, xn0⟩, ⟨xt1, xn1⟩, ⟨xt2, xn2⟩, ⟨xt3, xn3⟩, ⟨xt4, xn4⟩, ⟨xt5, xn5⟩, ⟨xt6, xn6⟩, ⟨xt7, xn7⟩, ⟨xt8, xn8⟩, ⟨xt9, xn9⟩⟩ := hX
  refine ⟨9, rfl, by decide, by decide, fun a0 hs0 _ => ?_⟩
  rw [CE_sz] at hs0
  have ha0 : a0 = Γ.1.1 + (y + 1) := by omega
  subst ha0
  refine ⟨y + 1, by omega, by rw [ad_x (by omega)], fun _ => ?_⟩
  rw [CE_mk (k := y + 1) (k' := y + 2) rfl (by omega) xt0 xn0 (fun j => by exact hr _ _ (by omega))]
  refine ⟨by rw [CE_ty (by omega)]; exact hY, rfl, ?_⟩
  rw [CE_up]
  refine ⟨9, rfl, by decide, by decide, fun a1 hs1 _ => ?_⟩
  rw [CE_sz] at hs1
  have ha1 : a1 = Γ.1.1 + (y + 2) := by omega
  subst ha1
  refine ⟨y + 2, by omega, by rw [ad_x (by omega)], fun _ => ?_⟩
  rw [CE_mk (k := y + 2) (k' := y + 3) rfl (by omega) xt1 xn1 (fun j => by rw [rl_c (by omega)]; exact hr _ _ (by omega))]
  refine ⟨by rw [CE_ty (by omega)]; exact hY, rfl, ?_⟩
  rw [CE_up]
  refine ⟨9, rfl, by decide, by decide, fun a2 hs2 _ => ?_⟩
  rw [CE_sz] at hs2
  have ha2 : a2 = Γ.1.1 + (y + 3) := by omega
  subst ha2
  refine ⟨y + 3, by omega, by rw [ad_x (by omega)], fun _ => ?_⟩
  rw [CE_mk (k := y + 3) (k' := y + 4) rfl (by omega) xt2 xn2 (fun j => by rw [rl_c (by omega), rl_c (by omega)]; exact hr _ _ (by omega))]
  refine ⟨by rw [CE_ty (by omega)]; exact hY, rfl, ?_⟩
  rw [CE_up]
  refine ⟨9, rfl, by decide, by decide, fun a3 hs3 _ => ?_⟩
  rw [CE_sz] at hs3
  have ha3 : a3 = Γ.1.1 + (y + 4) := by omega
  subst ha3
  refine ⟨y + 4, by omega, by rw [ad_x (by omega)], fun _ => ?_⟩
  rw [CE_mk (k := y + 4) (k' := y + 5) rfl (by omega) xt3 xn3 (fun j => by rw [rl_c (by omega), rl_c (by omega), rl_c (by omega)]; exact hr _ _ (by omega))]
  refine ⟨by rw [CE_ty (by omega)]; exact hY, rfl, ?_⟩
  rw [CE_up]
  refine ⟨9, rfl, by decide, by decide, fun a4 hs4 _ => ?_⟩
  rw [CE_sz] at hs4
  have ha4 : a4 = Γ.1.1 + (y + 5) := by omega
  subst ha4
  refine ⟨y + 5, by omega, by rw [ad_x (by omega)], fun _ => ?_⟩
  rw [CE_mk (k := y + 5) (k' := y + 6) rfl (by omega) xt4 xn4 (fun j => by rw [rl_c (by omega), rl_c (by omega), rl_c (by omega), rl_c (by omega)]; exact hr _ _ (by omega))]
  refine ⟨by rw [CE_ty (by omega)]; exact hY, rfl, ?_⟩
  rw [CE_up]
  refine ⟨9, rfl, by decide, by decide, fun a5 hs5 _ => ?_⟩
  rw [CE_sz] at hs5
  have ha5 : a5 = Γ.1.1 + (y + 6) := by omega
  subst ha5
  refine ⟨y + 6, by omega, by rw [ad_x (by omega)], fun _ => ?_⟩
  rw [CE_mk (k := y + 6) (k' := y + 7) rfl (by omega) xt5 xn5 (fun j => by rw [rl_c (by omega), rl_c (by omega), rl_c (by omega), rl_c (by omega), rl_c (by omega)]; exact hr _ _ (by omega))]
  refine ⟨by rw [CE_ty (by omega)]; exact hY, rfl, ?_⟩
  rw [CE_up]
  refine ⟨27, rfl, by decide, by decide, fun a6 hs6 _ => ?_⟩
  rw [CE_sz] at hs6
  have ha6 : a6 = Γ.1.1 + (y + 7) := by omega
  subst ha6
  refine ⟨y + 7, by omega, by rw [ad_x (by omega)], fun _ => ?_⟩
  rw [CE_mk (k := y + 7) (k' := y + 8) rfl (by omega) xt6 xn6 (fun j => by rw [rl_c (by omega), rl_c (by omega), rl_c (by omega), rl_c (by omega), rl_c (by omega), rl_c (by omega)]; exact hr _ _ (by omega))]
  refine ⟨by rw [CE_ty (by omega)]; exact hY, rfl, ?_⟩
  rw [CE_up]
  refine ⟨20, rfl, by decide, by decide, fun a7 hs7 _ => ?_⟩
  rw [CE_sz] at hs7
  have ha7 : a7 = Γ.1.1 + (y + 8) := by omega
  subst ha7
  refine ⟨y + 8, by omega, by rw [ad_x (by omega)], fun _ => ?_⟩
  rw [CE_mk (k := y + 8) (k' := y + 9) rfl (by omega) xt7 xn7 (fun j => by rw [rl_c (by omega), rl_c (by omega), rl_c (by omega), rl_c (by omega), rl_c (by omega), rl_c (by omega), rl_c (by omega)]; exact hr _ _ (by omega))]
  refine ⟨by rw [CE_ty (by omega)]; exact hY, rfl, ?_⟩
  rw [CE_up]
  refine ⟨20, rfl, by decide, by decide, fun a8 hs8 _ => ?_⟩
  rw [CE_sz] at hs8
  have ha8 : a8 = Γ.1.1 + (y + 9) := by omega
  subst ha8
  refine ⟨y + 9, by omega, by rw [ad_x (by omega)], fun _ => ?_⟩
  rw [CE_mk (k := y + 9) (k' := y + 10) rfl (by omega) xt8 xn8 (fun j => by rw [rl_c (by omega), rl_c (by omega), rl_c (by omega), rl_c (by omega), rl_c (by omega), rl_c (by omega), rl_c (by omega), rl_c (by omega)]; exact hr _ _ (by omega))]
  refine ⟨by rw [CE_ty (by omega)]; exact hY, rfl, ?_⟩
  rw [CE_up]
  refine ⟨20, rfl, by decide, by decide, fun a9 hs9 _ => ?_⟩
  rw [CE_sz] at hs9
  have ha9 : a9 = Γ.1.1 + (y + 10) := by omega
  subst ha9
  refine ⟨y + 10, by omega, by rw [ad_x (by omega)], fun _ => ?_⟩
  rw [CE_mk (k := y + 10) (k' := y + 11) rfl (by omega) xt9 xn9 (fun j => by rw [rl_c (by omega), rl_c (by omega), rl_c (by omega), rl_c (by omega), rl_c (by omega), rl_c (by omega), rl_c (by omega), rl_c (by omega), rl_c (by omega)]; exact hr _ _ (by omega))]
  refine ⟨by rw [CE_ty (by omega)]; exact hY, rfl, ?_⟩
  rw [CE_up]
  have tF : tyc sh0 (CE Γ.1.1 (y + 11) ((y, 9, y + 10) :: (y, 8, y + 9) :: (y, 7, y + 8) :: (y, 6, y + 7) :: (y, 5, y + 6) :: (y, 4, y + 5) :: (y, 3, y + 4) :: (y, 2, y + 3) :: (y, 1, y + 2) :: (y, 0, y + 1) :: rs)) y = 10 := by rw [CE_ty (by omega)]; exact hY
  refine ⟨tF, tF, tF, tF, tF, hk _ (fun i hi => ?_) (fun i h1 h2 => ?_) ⟨?_, ?_, ?_, ?_, ?_⟩⟩
  · funext k
    rw [up_n (by omega), up_n (by omega), up_n (by omega), up_n (by omega), up_n (by omega), zr_n (by omega), zr_n (by omega), zr_n (by omega), zr_n (by omega), zr_n (by omega), zr_n (by omega), zr_n (by omega), zr_n (by omega), zr_n (by omega), zr_n (by omega)]
  · rcases (show i = y + 1 ∨ i = y + 2 ∨ i = y + 3 ∨ i = y + 4 ∨ i = y + 5 ∨ i = y + 6 ∨ i = y + 7 ∨ i = y + 8 ∨ i = y + 9 ∨ i = y + 10 by omega) with rfl | rfl | rfl | rfl | rfl | rfl | rfl | rfl | rfl | rfl
    all_goals
      funext k
      rw [up_n (by omega), up_n (by omega), up_n (by omega), up_n (by omega), up_n (by omega)]
      unfold zr
      repeat (first | rw [if_pos (by omega)] | rw [if_neg (by omega)])
  · rw [up_n (by omega), up_n (by omega), up_n (by omega), up_n (by omega), up_s]
  · rw [up_n (by omega), up_n (by omega), up_n (by omega), up_s]
  · rw [up_n (by omega), up_n (by omega), up_s]
  · rw [up_n (by omega), up_s]
  · rw [up_s]
theorem y_opn {Γ : Gm} {l : Launch} {d : Nat} {J : Iv} {kr : Kr} {kx : Kxx} {y : Nat} {rs : List (Nat × Nat × Nat)} (hy : y < 400000) (hY : xTl.getD y 0 = 6) (hX : (xTl.getD (y + 1) 0 = 101 ∧ xNl.getD (y + 1) 0 = 160) ∧ (xTl.getD (y + 2) 0 = 101 ∧ xNl.getD (y + 2) 0 = 64)) (hr : ∀ i j, y ≤ i → rlk rs i j = none)
    (hk : ∀ K, (∀ i, ¬ (y ≤ i ∧ i ≤ y + 2) → K i = J i) → (∀ i, y + 1 ≤ i → i ≤ y + 2 → K i = fun _ => nI 0) → (K y 2 = nI 0 ∧ K y 3 = nI 0 ∧ K y 4 = nI 0 ∧ K y 5 = nI 0) → kr none K (CE Γ.1.1 (y + 3) ((y, 1, y + 2) :: (y, 0, y + 1) :: rs))) : Ex Γ l sh0 (d + 1) (2, 224) mOp_init [.ref y] J (CE Γ.1.1 (y + 1) rs) kr kx := by
  refine ex_ofI (ls0 := [some (.ref y)]) tOp_init (by decide +kernel) rfl kOp_init rfl (Nat.le_of_ble_eq_true rfl) rfl ?_
  intro go hgo
  have tY : tyc sh0 (CE Γ.1.1 (y + 1) rs) y = 6 := by rw [CE_ty (by omega)]; exact hY
  refine hgo 20 [] 0 _ _ _ _ _ ?_
  simp only [ixr_of, run_s, run_0, rOp_init, rok_i, rok_z, bx_cons, bx_nil, eBP, eC0, eLA0, eNAI, eOI, ePI, ePRF, ePZ, eRV, eSP, fOp_init_0, bOp_init_0, Option.toList_some, Option.toList_none, List.cons_append, List.nil_append, List.length_cons, List.length_nil, List.mem_cons, List.not_mem_nil, or_false, false_or, or_true, true_or, ↓reduceIte, true_and, and_true, Nat.reduceEqDiff, Nat.reduceAdd, Nat.reduceLeDiff, Nat.reduceLT, dl_i, dl_r, dl_n, dl_u, eq_self, not_true_eq_false, not_false_eq_true, n10, n01, nm0, n0m, tY, imp_t, imp_f]
  obtain ⟨⟨xt0, xn0⟩, ⟨xt1, xn1⟩⟩ := hX
  refine ⟨160, rfl, by decide, by decide, fun a0 hs0 _ => ?_⟩
  rw [CE_sz] at hs0
  have ha0 : a0 = Γ.1.1 + (y + 1) := by omega
  subst ha0
  refine ⟨y + 1, by omega, by rw [ad_x (by omega)], fun _ => ?_⟩
  rw [CE_mk (k := y + 1) (k' := y + 2) rfl (by omega) xt0 xn0 (fun j => by exact hr _ _ (by omega))]
  refine ⟨by rw [CE_ty (by omega)]; exact hY, rfl, ?_⟩
  rw [CE_up]
  refine ⟨64, rfl, by decide, by decide, fun a1 hs1 _ => ?_⟩
  rw [CE_sz] at hs1
  have ha1 : a1 = Γ.1.1 + (y + 2) := by omega
  subst ha1
  refine ⟨y + 2, by omega, by rw [ad_x (by omega)], fun _ => ?_⟩
  rw [CE_mk (k := y + 2) (k' := y + 3) rfl (by omega) xt1 xn1 (fun j => by rw [rl_c (by omega)]; exact hr _ _ (by omega))]
  refine ⟨by rw [CE_ty (by omega)]; exact hY, rfl, ?_⟩
  rw [CE_up]
  have tF : tyc sh0 (CE Γ.1.1 (y + 3) ((y, 1, y + 2) :: (y, 0, y + 1) :: rs)) y = 6 := by rw [CE_ty (by omega)]; exact hY
  refine ⟨tF, tF, tF, tF, hk _ (fun i hi => ?_) (fun i h1 h2 => ?_) ⟨?_, ?_, ?_, ?_⟩⟩
  · funext k
    rw [up_n (by omega), up_n (by omega), up_n (by omega), up_n (by omega), zr_n (by omega), zr_n (by omega)]
  · rcases (show i = y + 1 ∨ i = y + 2 by omega) with rfl | rfl
    all_goals
      funext k
      rw [up_n (by omega), up_n (by omega), up_n (by omega), up_n (by omega)]
      unfold zr
      repeat (first | rw [if_pos (by omega)] | rw [if_neg (by omega)])
  · rw [up_n (by omega), up_n (by omega), up_n (by omega), up_s]
  · rw [up_n (by omega), up_n (by omega), up_s]
  · rw [up_n (by omega), up_s]
  · rw [up_s]
theorem y_book {Γ : Gm} {l : Launch} {d : Nat} {J : Iv} {kr : Kr} {kx : Kxx} {y : Nat} {rs : List (Nat × Nat × Nat)} (hy : y < 400000) (hY : xTl.getD y 0 = 2) (hX : (xTl.getD (y + 1) 0 = 101 ∧ xNl.getD (y + 1) 0 = 12) ∧ (xTl.getD (y + 2) 0 = 101 ∧ xNl.getD (y + 2) 0 = 12)) (hr : ∀ i j, y ≤ i → rlk rs i j = none)
    (hk : ∀ K, (∀ i, ¬ (y ≤ i ∧ i ≤ y + 2) → K i = J i) → (∀ i, y + 1 ≤ i → i ≤ y + 2 → K i = fun _ => nI 0) → (K y 2 = nI 0 ∧ K y 3 = nI 0) → kr none K (CE Γ.1.1 (y + 3) ((y, 1, y + 2) :: (y, 0, y + 1) :: rs))) : Ex Γ l sh0 (d + 1) (2, 24) mBk_init [.ref y] J (CE Γ.1.1 (y + 1) rs) kr kx := by
  refine ex_ofI (ls0 := [some (.ref y)]) tBk_init (by decide +kernel) rfl kBk_init rfl (Nat.le_of_ble_eq_true rfl) rfl ?_
  intro go hgo
  have tY : tyc sh0 (CE Γ.1.1 (y + 1) rs) y = 2 := by rw [CE_ty (by omega)]; exact hY
  refine hgo 20 [] 0 _ _ _ _ _ ?_
  simp only [ixr_of, run_s, run_0, rBk_init, rok_i, rok_z, bx_cons, bx_nil, eBP, eC0, eLA0, eNAI, eOI, ePI, ePRF, eRV, fBk_init_0, bBk_init_0, Option.toList_some, Option.toList_none, List.cons_append, List.nil_append, List.length_cons, List.length_nil, List.mem_cons, List.not_mem_nil, or_false, false_or, or_true, true_or, ↓reduceIte, true_and, and_true, Nat.reduceEqDiff, Nat.reduceAdd, Nat.reduceLeDiff, Nat.reduceLT, dl_i, dl_r, dl_n, dl_u, eq_self, not_true_eq_false, not_false_eq_true, n10, n01, nm0, n0m, tY, imp_t, imp_f]
  obtain ⟨⟨xt0, xn0⟩, ⟨xt1, xn1⟩⟩ := hX
  refine ⟨12, rfl, by decide, by decide, fun a0 hs0 _ => ?_⟩
  rw [CE_sz] at hs0
  have ha0 : a0 = Γ.1.1 + (y + 1) := by omega
  subst ha0
  refine ⟨y + 1, by omega, by rw [ad_x (by omega)], fun _ => ?_⟩
  rw [CE_mk (k := y + 1) (k' := y + 2) rfl (by omega) xt0 xn0 (fun j => by exact hr _ _ (by omega))]
  refine ⟨by rw [CE_ty (by omega)]; exact hY, rfl, ?_⟩
  rw [CE_up]
  refine ⟨12, rfl, by decide, by decide, fun a1 hs1 _ => ?_⟩
  rw [CE_sz] at hs1
  have ha1 : a1 = Γ.1.1 + (y + 2) := by omega
  subst ha1
  refine ⟨y + 2, by omega, by rw [ad_x (by omega)], fun _ => ?_⟩
  rw [CE_mk (k := y + 2) (k' := y + 3) rfl (by omega) xt1 xn1 (fun j => by rw [rl_c (by omega)]; exact hr _ _ (by omega))]
  refine ⟨by rw [CE_ty (by omega)]; exact hY, rfl, ?_⟩
  rw [CE_up]
  have tF : tyc sh0 (CE Γ.1.1 (y + 3) ((y, 1, y + 2) :: (y, 0, y + 1) :: rs)) y = 2 := by rw [CE_ty (by omega)]; exact hY
  refine ⟨tF, tF, hk _ (fun i hi => ?_) (fun i h1 h2 => ?_) ⟨?_, ?_⟩⟩
  · funext k
    rw [up_n (by omega), up_n (by omega), zr_n (by omega), zr_n (by omega)]
  · rcases (show i = y + 1 ∨ i = y + 2 by omega) with rfl | rfl
    all_goals
      funext k
      rw [up_n (by omega), up_n (by omega)]
      unfold zr
      repeat (first | rw [if_pos (by omega)] | rw [if_neg (by omega)])
  · rw [up_n (by omega), up_s]
  · rw [up_s]
theorem y_days {Γ : Gm} {l : Launch} {d : Nat} {J : Iv} {kr : Kr} {kx : Kxx} {y : Nat} {rs : List (Nat × Nat × Nat)} (hy : y < 400000) (hY : xTl.getD y 0 = 3) (hX : (xTl.getD (y + 1) 0 = 101 ∧ xNl.getD (y + 1) 0 = 252) ∧ (xTl.getD (y + 2) 0 = 101 ∧ xNl.getD (y + 2) 0 = 180) ∧ (xTl.getD (y + 3) 0 = 101 ∧ xNl.getD (y + 3) 0 = 9) ∧ (xTl.getD (y + 4) 0 = 101 ∧ xNl.getD (y + 4) 0 = 27) ∧ (xTl.getD (y + 5) 0 = 101 ∧ xNl.getD (y + 5) 0 = 27) ∧ (xTl.getD (y + 6) 0 = 101 ∧ xNl.getD (y + 6) 0 = 9) ∧ (xTl.getD (y + 7) 0 = 101 ∧ xNl.getD (y + 7) 0 = 4)) (hr : ∀ i j, y ≤ i → rlk rs i j = none)
    (hk : ∀ K, (∀ i, ¬ (y ≤ i ∧ i ≤ y + 7) → K i = J i) → (∀ i, y + 1 ≤ i → i ≤ y + 7 → K i = fun _ => nI 0) → (K y 7 = nI 0 ∧ K y 8 = nI 1 ∧ K y 9 = nI 0 ∧ K y 10 = nI 0 ∧ K y 11 = nI 0 ∧ K y 12 = nI 0 ∧ K y 13 = nI 0 ∧ K y 14 = -1 ∧ K y 15 = nI 0 ∧ K y 16 = nI 0 ∧ K y 17 = nI 0) → kr none K (CE Γ.1.1 (y + 8) ((y, 6, y + 7) :: (y, 5, y + 6) :: (y, 4, y + 5) :: (y, 3, y + 4) :: (y, 2, y + 3) :: (y, 1, y + 2) :: (y, 0, y + 1) :: rs))) : Ex Γ l sh0 (d + 1) (7, 508) mDy_init [.ref y] J (CE Γ.1.1 (y + 1) rs) kr kx := by
  refine ex_ofI (ls0 := [some (.ref y)]) tDy_init (by decide +kernel) rfl kDy_init rfl (Nat.le_of_ble_eq_true rfl) rfl ?_
  intro go hgo
  have tY : tyc sh0 (CE Γ.1.1 (y + 1) rs) y = 3 := by rw [CE_ty (by omega)]; exact hY
  refine hgo 20 [] 0 _ _ _ _ _ ?_
  simp only [ixr_of, run_s, run_0, rDy_init, rok_i, rok_z, bx_cons, bx_nil, eBP, eC0, eC1, eC4, eCm1, eLA0, eNAI, eOI, ePI, ePRF, eRV, eSP, fDy_init_0, bDy_init_0, Option.toList_some, Option.toList_none, List.cons_append, List.nil_append, List.length_cons, List.length_nil, List.mem_cons, List.not_mem_nil, or_false, false_or, or_true, true_or, ↓reduceIte, true_and, and_true, Nat.reduceEqDiff, Nat.reduceAdd, Nat.reduceLeDiff, Nat.reduceLT, dl_i, dl_r, dl_n, dl_u, eq_self, not_true_eq_false, not_false_eq_true, n10, n01, nm0, n0m, tY, imp_t, imp_f]
  obtain ⟨⟨xt0, xn0⟩, ⟨xt1, xn1⟩, ⟨xt2, xn2⟩, ⟨xt3, xn3⟩, ⟨xt4, xn4⟩, ⟨xt5, xn5⟩, ⟨xt6, xn6⟩⟩ := hX
  refine ⟨252, rfl, by decide, by decide, fun a0 hs0 _ => ?_⟩
  rw [CE_sz] at hs0
  have ha0 : a0 = Γ.1.1 + (y + 1) := by omega
  subst ha0
  refine ⟨y + 1, by omega, by rw [ad_x (by omega)], fun _ => ?_⟩
  rw [CE_mk (k := y + 1) (k' := y + 2) rfl (by omega) xt0 xn0 (fun j => by exact hr _ _ (by omega))]
  refine ⟨by rw [CE_ty (by omega)]; exact hY, rfl, ?_⟩
  rw [CE_up]
  refine ⟨180, rfl, by decide, by decide, fun a1 hs1 _ => ?_⟩
  rw [CE_sz] at hs1
  have ha1 : a1 = Γ.1.1 + (y + 2) := by omega
  subst ha1
  refine ⟨y + 2, by omega, by rw [ad_x (by omega)], fun _ => ?_⟩
  rw [CE_mk (k := y + 2) (k' := y + 3) rfl (by omega) xt1 xn1 (fun j => by rw [rl_c (by omega)]; exact hr _ _ (by omega))]
  refine ⟨by rw [CE_ty (by omega)]; exact hY, rfl, ?_⟩
  rw [CE_up]
  refine ⟨9, rfl, by decide, by decide, fun a2 hs2 _ => ?_⟩
  rw [CE_sz] at hs2
  have ha2 : a2 = Γ.1.1 + (y + 3) := by omega
  subst ha2
  refine ⟨y + 3, by omega, by rw [ad_x (by omega)], fun _ => ?_⟩
  rw [CE_mk (k := y + 3) (k' := y + 4) rfl (by omega) xt2 xn2 (fun j => by rw [rl_c (by omega), rl_c (by omega)]; exact hr _ _ (by omega))]
  refine ⟨by rw [CE_ty (by omega)]; exact hY, rfl, ?_⟩
  rw [CE_up]
  refine ⟨27, rfl, by decide, by decide, fun a3 hs3 _ => ?_⟩
  rw [CE_sz] at hs3
  have ha3 : a3 = Γ.1.1 + (y + 4) := by omega
  subst ha3
  refine ⟨y + 4, by omega, by rw [ad_x (by omega)], fun _ => ?_⟩
  rw [CE_mk (k := y + 4) (k' := y + 5) rfl (by omega) xt3 xn3 (fun j => by rw [rl_c (by omega), rl_c (by omega), rl_c (by omega)]; exact hr _ _ (by omega))]
  refine ⟨by rw [CE_ty (by omega)]; exact hY, rfl, ?_⟩
  rw [CE_up]
  refine ⟨27, rfl, by decide, by decide, fun a4 hs4 _ => ?_⟩
  rw [CE_sz] at hs4
  have ha4 : a4 = Γ.1.1 + (y + 5) := by omega
  subst ha4
  refine ⟨y + 5, by omega, by rw [ad_x (by omega)], fun _ => ?_⟩
  rw [CE_mk (k := y + 5) (k' := y + 6) rfl (by omega) xt4 xn4 (fun j => by rw [rl_c (by omega), rl_c (by omega), rl_c (by omega), rl_c (by omega)]; exact hr _ _ (by omega))]
  refine ⟨by rw [CE_ty (by omega)]; exact hY, rfl, ?_⟩
  rw [CE_up]
  refine ⟨9, rfl, by decide, by decide, fun a5 hs5 _ => ?_⟩
  rw [CE_sz] at hs5
  have ha5 : a5 = Γ.1.1 + (y + 6) := by omega
  subst ha5
  refine ⟨y + 6, by omega, by rw [ad_x (by omega)], fun _ => ?_⟩
  rw [CE_mk (k := y + 6) (k' := y + 7) rfl (by omega) xt5 xn5 (fun j => by rw [rl_c (by omega), rl_c (by omega), rl_c (by omega), rl_c (by omega), rl_c (by omega)]; exact hr _ _ (by omega))]
  refine ⟨by rw [CE_ty (by omega)]; exact hY, rfl, ?_⟩
  rw [CE_up]
  refine ⟨4, rfl, by decide, by decide, fun a6 hs6 _ => ?_⟩
  rw [CE_sz] at hs6
  have ha6 : a6 = Γ.1.1 + (y + 7) := by omega
  subst ha6
  refine ⟨y + 7, by omega, by rw [ad_x (by omega)], fun _ => ?_⟩
  rw [CE_mk (k := y + 7) (k' := y + 8) rfl (by omega) xt6 xn6 (fun j => by rw [rl_c (by omega), rl_c (by omega), rl_c (by omega), rl_c (by omega), rl_c (by omega), rl_c (by omega)]; exact hr _ _ (by omega))]
  refine ⟨by rw [CE_ty (by omega)]; exact hY, rfl, ?_⟩
  rw [CE_up]
  have tF : tyc sh0 (CE Γ.1.1 (y + 8) ((y, 6, y + 7) :: (y, 5, y + 6) :: (y, 4, y + 5) :: (y, 3, y + 4) :: (y, 2, y + 3) :: (y, 1, y + 2) :: (y, 0, y + 1) :: rs)) y = 3 := by rw [CE_ty (by omega)]; exact hY
  refine ⟨tF, tF, tF, tF, tF, tF, tF, tF, tF, tF, tF, hk _ (fun i hi => ?_) (fun i h1 h2 => ?_) ⟨?_, ?_, ?_, ?_, ?_, ?_, ?_, ?_, ?_, ?_, ?_⟩⟩
  · funext k
    rw [up_n (by omega), up_n (by omega), up_n (by omega), up_n (by omega), up_n (by omega), up_n (by omega), up_n (by omega), up_n (by omega), up_n (by omega), up_n (by omega), up_n (by omega), zr_n (by omega), zr_n (by omega), zr_n (by omega), zr_n (by omega), zr_n (by omega), zr_n (by omega), zr_n (by omega)]
  · rcases (show i = y + 1 ∨ i = y + 2 ∨ i = y + 3 ∨ i = y + 4 ∨ i = y + 5 ∨ i = y + 6 ∨ i = y + 7 by omega) with rfl | rfl | rfl | rfl | rfl | rfl | rfl
    all_goals
      funext k
      rw [up_n (by omega), up_n (by omega), up_n (by omega), up_n (by omega), up_n (by omega), up_n (by omega), up_n (by omega), up_n (by omega), up_n (by omega), up_n (by omega), up_n (by omega)]
      unfold zr
      repeat (first | rw [if_pos (by omega)] | rw [if_neg (by omega)])
  · rw [up_n (by omega), up_n (by omega), up_n (by omega), up_n (by omega), up_n (by omega), up_n (by omega), up_n (by omega), up_n (by omega), up_n (by omega), up_n (by omega), up_s]
  · rw [up_n (by omega), up_n (by omega), up_n (by omega), up_n (by omega), up_n (by omega), up_n (by omega), up_n (by omega), up_n (by omega), up_n (by omega), up_s]
  · rw [up_n (by omega), up_n (by omega), up_n (by omega), up_n (by omega), up_n (by omega), up_n (by omega), up_n (by omega), up_n (by omega), up_s]
  · rw [up_n (by omega), up_n (by omega), up_n (by omega), up_n (by omega), up_n (by omega), up_n (by omega), up_n (by omega), up_s]
  · rw [up_n (by omega), up_n (by omega), up_n (by omega), up_n (by omega), up_n (by omega), up_n (by omega), up_s]
  · rw [up_n (by omega), up_n (by omega), up_n (by omega), up_n (by omega), up_n (by omega), up_s]
  · rw [up_n (by omega), up_n (by omega), up_n (by omega), up_n (by omega), up_s]
  · rw [up_n (by omega), up_n (by omega), up_n (by omega), up_s]
  · rw [up_n (by omega), up_n (by omega), up_s]
  · rw [up_n (by omega), up_s]
  · rw [up_s]
theorem y_tape {Γ : Gm} {l : Launch} {d : Nat} {J : Iv} {kr : Kr} {kx : Kxx} {y : Nat} {rs : List (Nat × Nat × Nat)} (hy : y < 400000) (hY : xTl.getD y 0 = 8) (hX : (xTl.getD (y + 1) 0 = 102 ∧ xNl.getD (y + 1) 0 = 600)) (hr : ∀ i j, y ≤ i → rlk rs i j = none)
    (hk : ∀ K, (∀ i, ¬ (y ≤ i ∧ i ≤ y + 1) → K i = J i) → (∀ i, y + 1 ≤ i → i ≤ y + 1 → K i = fun _ => nI 0) → (K y 1 = nI 0 ∧ K y 2 = nI 0 ∧ K y 3 = nI 0 ∧ K y 4 = nI 0 ∧ K y 5 = nI 0 ∧ K y 6 = -1) → kr none K (CE Γ.1.1 (y + 2) ((y, 0, y + 1) :: rs))) : Ex Γ l sh0 (d + 1) (1, 600) mTp_init [.ref y] J (CE Γ.1.1 (y + 1) rs) kr kx := by
  refine ex_ofI (ls0 := [some (.ref y)]) tTp_init (by decide +kernel) rfl kTp_init rfl (Nat.le_of_ble_eq_true rfl) rfl ?_
  intro go hgo
  have tY : tyc sh0 (CE Γ.1.1 (y + 1) rs) y = 8 := by rw [CE_ty (by omega)]; exact hY
  refine hgo 20 [] 0 _ _ _ _ _ ?_
  simp only [ixr_of, run_s, run_0, rTp_init, rok_i, rok_z, bx_cons, bx_nil, eC0, eCm1, eLA0, eNAB, eOI, ePI, ePRF, eRV, eSP, fTp_init_0, bTp_init_0, ln_xtape_bytes, rg_xtape_0, ty_xtape, ty_xtape_bytes, Option.toList_some, Option.toList_none, List.cons_append, List.nil_append, List.length_cons, List.length_nil, List.mem_cons, List.not_mem_nil, or_false, false_or, or_true, true_or, ↓reduceIte, true_and, and_true, Nat.reduceEqDiff, Nat.reduceAdd, Nat.reduceLeDiff, Nat.reduceLT, dl_i, dl_r, dl_n, dl_u, eq_self, not_true_eq_false, not_false_eq_true, n10, n01, nm0, n0m, tY, imp_t, imp_f]
  obtain ⟨xt0, xn0⟩ := hX
  refine ⟨600, rfl, by decide, by decide, fun a0 hs0 _ => ?_⟩
  rw [CE_sz] at hs0
  have ha0 : a0 = Γ.1.1 + (y + 1) := by omega
  subst ha0
  refine ⟨y + 1, by omega, by rw [ad_x (by omega)], fun _ => ?_⟩
  rw [CE_mk (k := y + 1) (k' := y + 2) rfl (by omega) xt0 xn0 (fun j => by exact hr _ _ (by omega))]
  refine ⟨by rw [CE_ty (by omega)]; exact hY, rfl, ?_⟩
  rw [CE_up]
  have tF : tyc sh0 (CE Γ.1.1 (y + 2) ((y, 0, y + 1) :: rs)) y = 8 := by rw [CE_ty (by omega)]; exact hY
  refine ⟨tF, tF, tF, tF, tF, tF, hk _ (fun i hi => ?_) (fun i h1 h2 => ?_) ⟨?_, ?_, ?_, ?_, ?_, ?_⟩⟩
  · funext k
    rw [up_n (by omega), up_n (by omega), up_n (by omega), up_n (by omega), up_n (by omega), up_n (by omega), zr_n (by omega)]
  · rcases (show i = y + 1 by omega) with rfl
    all_goals
      funext k
      rw [up_n (by omega), up_n (by omega), up_n (by omega), up_n (by omega), up_n (by omega), up_n (by omega)]
      unfold zr
      repeat (first | rw [if_pos (by omega)] | rw [if_neg (by omega)])
  · rw [up_n (by omega), up_n (by omega), up_n (by omega), up_n (by omega), up_n (by omega), up_s]
  · rw [up_n (by omega), up_n (by omega), up_n (by omega), up_n (by omega), up_s]
  · rw [up_n (by omega), up_n (by omega), up_n (by omega), up_s]
  · rw [up_n (by omega), up_n (by omega), up_s]
  · rw [up_n (by omega), up_s]
  · rw [up_s]
