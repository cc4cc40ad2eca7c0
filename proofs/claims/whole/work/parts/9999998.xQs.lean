/-! days made -/
def dyL (j : Nat) : Nat := [252, 180, 9, 27, 27, 9, 4].getD j 0
/-- so many rows of the days y are made -/
def PD (sh : Sh) (E0 E : Ev) (y k : Nat) : Prop := tyc sh E y = 3 ∧ (∀ j, j < k → rget sh E y j = .ref (y + 1 + j) ∧ tyc sh E (y + 1 + j) = 101 ∧ len sh E (y + 1 + j) = dyL j) ∧ (∀ a, tyc sh E0 a ≠ 0 → (a ≠ y → ∀ j, rget sh E a j = rget sh E0 a j) ∧ tyc sh E a = tyc sh E0 a ∧ len sh E a = len sh E0 a) ∧ (∀ j, j < k → tyc sh E0 (y + 1 + j) = 0) ∧ tyc sh E 999999 = 0
theorem PD.step {sh : Sh} {E0 E : Ev} {y k n s : Nat} (h9 : tyc sh E0 999999 = 0) (h99 : y + 1 + k ≠ 999999 ∧ y ≠ 999999) (hY0 : tyc sh E0 y = 3) (hn : ∀ j, sh.2.2 y j = none) (h : PD sh E0 E y k) (h0 : tyc sh E (y + 1 + k) = 0) (hl : dyL k = n) (h9s : ∀ j, j < k → y + 1 + j ≠ 999999) : PD sh E0 (upR (mkE E (y + 1 + k) 101 n s).1 y k (y + 1 + k + 1), (mkE E (y + 1 + k) 101 n s).2) y (k + 1) := by
  obtain ⟨h1, h2, h3, h4, h5⟩ := h
  have t : ∀ a, tyc sh (upR (mkE E (y + 1 + k) 101 n s).1 y k (y + 1 + k + 1), (mkE E (y + 1 + k) 101 n s).2) a = tyc sh (mkE E (y + 1 + k) 101 n s) a := fun _ => rfl
  have ln : ∀ a, len sh (upR (mkE E (y + 1 + k) 101 n s).1 y k (y + 1 + k + 1), (mkE E (y + 1 + k) 101 n s).2) a = len sh (mkE E (y + 1 + k) 101 n s) a := fun _ => rfl
  refine ⟨by rw [t, tyc_mk_n (by omega)]; exact h1, fun j hj => ⟨?_, ?_, ?_⟩, fun a ha => ⟨fun hay j => ?_, ?_, ?_⟩, fun j hj => ?_, by rw [t, tyc_mk_n (fun e => h99.1 e.symm)]; exact h5⟩
  · by_cases e : j = k
    · rw [e]; exact upR_r (hn k)
    · rw [rget_up_ne (by omega), rget_mk_n (by omega)]; exact (h2 j (by omega)).1
  · by_cases e : j = k
    · rw [e, t, tyc_mk h0]
    · rw [t, tyc_mk_n (by omega)]; exact (h2 j (by omega)).2.1
  · by_cases e : j = k
    · rw [e, ln, len_mk h0 h99.1, hl]
    · rw [ln, len_mk_n (by omega) (h9s j (by omega))]; exact (h2 j (by omega)).2.2
  · have hne : a ≠ y + 1 + k := fun e => by rw [← e, (h3 a ha).2.1] at h0; exact ha h0
    rw [rget_up_ne (fun c => hay c.1), rget_mk_n hne]
    exact (h3 a ha).1 hay j
  · have hne : a ≠ y + 1 + k := fun e => by rw [← e, (h3 a ha).2.1] at h0; exact ha h0
    rw [t, tyc_mk_n hne]
    exact (h3 a ha).2.1
  · have hne : a ≠ y + 1 + k := fun e => by rw [← e, (h3 a ha).2.1] at h0; exact ha h0
    rw [ln, len_mk_n hne (fun e => ha (e ▸ h9))]
    exact (h3 a ha).2.2
  · by_cases e : j = k
    · rw [e]
      by_cases z : tyc sh E0 (y + 1 + k) = 0
      · exact z
      · rw [(h3 _ z).2.1] at h0; exact h0
    · exact h4 j (by omega)
theorem PD.a {sh : Sh} {E0 E : Ev} {y : Nat} (h : PD sh E0 E y 7) : DyA sh E y := by
  obtain ⟨h1, h2, -⟩ := h
  have g := fun j hj => h2 j hj
  exact ⟨h1, ⟨(g 0 (by decide)).1, (g 1 (by decide)).1, (g 2 (by decide)).1, (g 3 (by decide)).1, (g 4 (by decide)).1, (g 5 (by decide)).1, (g 6 (by decide)).1⟩, ⟨(g 0 (by decide)).2.1, (g 1 (by decide)).2.1, (g 2 (by decide)).2.1, (g 3 (by decide)).2.1, (g 4 (by decide)).2.1, (g 5 (by decide)).2.1, (g 6 (by decide)).2.1⟩, (g 0 (by decide)).2.2, (g 1 (by decide)).2.2, (g 2 (by decide)).2.2, (g 3 (by decide)).2.2, (g 4 (by decide)).2.2, (g 5 (by decide)).2.2, (g 6 (by decide)).2.2⟩
/-- new days -/
def NwD (J K : Iv) (y : Nat) : Prop := (∀ i, ¬ (y ≤ i ∧ i < y + 8) → K i = J i) ∧ (∀ j, 1 ≤ j → j < 8 → K (y + j) = fun _ => nI 0) ∧ K y 7 = nI 0 ∧ K y 8 = nI 1 ∧ K y 9 = nI 0 ∧ K y 10 = nI 0 ∧ K y 11 = nI 0 ∧ K y 12 = nI 0 ∧ K y 13 = nI 0 ∧ K y 14 = -1 ∧ K y 15 = nI 0 ∧ K y 16 = nI 0 ∧ K y 17 = nI 0
section XQs
variable {Γ : Gm} {l : Launch} {sh : Sh} {d : Nat} {I J : Iv} {E : Ev} {kr : Kr} {kx : Kxx} {y : Nat}
theorem x_dinit (hY : tyc sh E y = 3) (h9 : tyc sh E 999999 = 0) (hn : ∀ j, sh.2.2 y j = none) (hy9 : y + 8 < 999999 ∨ 999999 < y) (had : ∀ j, j < 8 → ad Γ.1 (y + j) = ad Γ.1 y + j) (hsz : E.2.2 999999 = ad Γ.1 y + 2) (hk : ∀ K F, NwD J K y → PD sh E F y 7 → F.2.2 999999 = ad Γ.1 y + 9 → kr none K F) : Ex Γ l sh (d + 1) (7, 508) mDy_init [.ref y] J E kr kx := by
  refine ex_ofI (ls0 := [some (.ref y)]) tDy_init (by decide +kernel) rfl kDy_init rfl (Nat.le_of_ble_eq_true rfl) rfl ?_
  intro go hgo
  refine hgo 20 [] 0 _ _ _ _ _ ?_
  simp only [ixr_of, run_s, run_0, rDy_init, rok_i, rok_z, bx_cons, bx_nil, eBP, eC0, eC1, eC4, eCm1, eLA0, eNAI, eOI, ePI, ePRF, eRV, eSP, fDy_init_0, bDy_init_0, Option.toList_some, Option.toList_none, List.cons_append, List.nil_append, List.length_cons, List.length_nil, List.mem_cons, List.not_mem_nil, or_false, false_or, or_true, true_or, ↓reduceIte, true_and, and_true, Nat.reduceEqDiff, Nat.reduceAdd, Nat.reduceLeDiff, Nat.reduceLT, dl_i, dl_r, dl_n, dl_u, eq_self, not_true_eq_false, not_false_eq_true, n10, n01, nm0, n0m, hY, imp_t, imp_f]
  have P0 : PD sh E E y 0 := ⟨hY, fun j hj => absurd hj (by omega), fun a _ => ⟨fun _ _ => rfl, rfl, rfl⟩, fun j hj => absurd hj (by omega), h9⟩
  refine ⟨252, rfl, by decide, by decide, fun a0 hs0 _ => ?_⟩
  have ha0 : a0 = ad Γ.1 y + 1 + 0 := by omega
  refine ⟨y + 1 + 0, by omega, by rw [ha0, Nat.add_assoc y, had (1 + 0) (by omega)], fun h0 => ?_⟩
  refine ⟨by rw [tyc_mk_n (by omega)]; exact P0.1, hn 0, ?_⟩
  have P1 := P0.step (n := 252) (s := a0 + 2) h9 (by omega) hY hn h0 rfl (fun j hj => by omega)
  generalize hE1 : (upR (mkE E (y + 1 + 0) 101 252 (a0 + 2)).1 y 0 (y + 1 + 0 + 1), (mkE E (y + 1 + 0) 101 252 (a0 + 2)).2) = E1 at P1 ⊢
  refine ⟨180, rfl, by decide, by decide, fun a1 hs1 _ => ?_⟩
  rw [sz_mk] at hs1
  have ha1 : a1 = ad Γ.1 y + 1 + 1 := by omega
  refine ⟨y + 1 + 1, by omega, by rw [ha1, Nat.add_assoc y, had (1 + 1) (by omega)], fun h0 => ?_⟩
  refine ⟨by rw [tyc_mk_n (by omega)]; exact P1.1, hn 1, ?_⟩
  have P2 := P1.step (n := 180) (s := a1 + 2) h9 (by omega) hY hn h0 rfl (fun j hj => by omega)
  generalize hE2 : (upR (mkE E1 (y + 1 + 1) 101 180 (a1 + 2)).1 y 1 (y + 1 + 1 + 1), (mkE E1 (y + 1 + 1) 101 180 (a1 + 2)).2) = E2 at P2 ⊢
  refine ⟨9, rfl, by decide, by decide, fun a2 hs2 _ => ?_⟩
  rw [sz_mk] at hs2
  have ha2 : a2 = ad Γ.1 y + 1 + 2 := by omega
  refine ⟨y + 1 + 2, by omega, by rw [ha2, Nat.add_assoc y, had (1 + 2) (by omega)], fun h0 => ?_⟩
  refine ⟨by rw [tyc_mk_n (by omega)]; exact P2.1, hn 2, ?_⟩
  have P3 := P2.step (n := 9) (s := a2 + 2) h9 (by omega) hY hn h0 rfl (fun j hj => by omega)
  generalize hE3 : (upR (mkE E2 (y + 1 + 2) 101 9 (a2 + 2)).1 y 2 (y + 1 + 2 + 1), (mkE E2 (y + 1 + 2) 101 9 (a2 + 2)).2) = E3 at P3 ⊢
  refine ⟨27, rfl, by decide, by decide, fun a3 hs3 _ => ?_⟩
  rw [sz_mk] at hs3
  have ha3 : a3 = ad Γ.1 y + 1 + 3 := by omega
  refine ⟨y + 1 + 3, by omega, by rw [ha3, Nat.add_assoc y, had (1 + 3) (by omega)], fun h0 => ?_⟩
  refine ⟨by rw [tyc_mk_n (by omega)]; exact P3.1, hn 3, ?_⟩
  have P4 := P3.step (n := 27) (s := a3 + 2) h9 (by omega) hY hn h0 rfl (fun j hj => by omega)
  generalize hE4 : (upR (mkE E3 (y + 1 + 3) 101 27 (a3 + 2)).1 y 3 (y + 1 + 3 + 1), (mkE E3 (y + 1 + 3) 101 27 (a3 + 2)).2) = E4 at P4 ⊢
  refine ⟨27, rfl, by decide, by decide, fun a4 hs4 _ => ?_⟩
  rw [sz_mk] at hs4
  have ha4 : a4 = ad Γ.1 y + 1 + 4 := by omega
  refine ⟨y + 1 + 4, by omega, by rw [ha4, Nat.add_assoc y, had (1 + 4) (by omega)], fun h0 => ?_⟩
  refine ⟨by rw [tyc_mk_n (by omega)]; exact P4.1, hn 4, ?_⟩
  have P5 := P4.step (n := 27) (s := a4 + 2) h9 (by omega) hY hn h0 rfl (fun j hj => by omega)
  generalize hE5 : (upR (mkE E4 (y + 1 + 4) 101 27 (a4 + 2)).1 y 4 (y + 1 + 4 + 1), (mkE E4 (y + 1 + 4) 101 27 (a4 + 2)).2) = E5 at P5 ⊢
  refine ⟨9, rfl, by decide, by decide, fun a5 hs5 _ => ?_⟩
  rw [sz_mk] at hs5
  have ha5 : a5 = ad Γ.1 y + 1 + 5 := by omega
  refine ⟨y + 1 + 5, by omega, by rw [ha5, Nat.add_assoc y, had (1 + 5) (by omega)], fun h0 => ?_⟩
  refine ⟨by rw [tyc_mk_n (by omega)]; exact P5.1, hn 5, ?_⟩
  have P6 := P5.step (n := 9) (s := a5 + 2) h9 (by omega) hY hn h0 rfl (fun j hj => by omega)
  generalize hE6 : (upR (mkE E5 (y + 1 + 5) 101 9 (a5 + 2)).1 y 5 (y + 1 + 5 + 1), (mkE E5 (y + 1 + 5) 101 9 (a5 + 2)).2) = E6 at P6 ⊢
  refine ⟨4, rfl, by decide, by decide, fun a6 hs6 _ => ?_⟩
  rw [sz_mk] at hs6
  have ha6 : a6 = ad Γ.1 y + 1 + 6 := by omega
  refine ⟨y + 1 + 6, by omega, by rw [ha6, Nat.add_assoc y, had (1 + 6) (by omega)], fun h0 => ?_⟩
  refine ⟨by rw [tyc_mk_n (by omega)]; exact P6.1, hn 6, ?_⟩
  have P7 := P6.step (n := 4) (s := a6 + 2) h9 (by omega) hY hn h0 rfl (fun j hj => by omega)
  have hsF : (upR (mkE E6 (y + 1 + 6) 101 4 (a6 + 2)).1 y 6 (y + 1 + 6 + 1), (mkE E6 (y + 1 + 6) 101 4 (a6 + 2)).2).2.2 999999 = ad Γ.1 y + 9 := by show (mkE E6 (y + 1 + 6) 101 4 (a6 + 2)).2.2 999999 = _; rw [sz_mk]; omega
  generalize hE7 : (upR (mkE E6 (y + 1 + 6) 101 4 (a6 + 2)).1 y 6 (y + 1 + 6 + 1), (mkE E6 (y + 1 + 6) 101 4 (a6 + 2)).2) = E7 at P7 hsF ⊢
  have hz : ∀ i, ¬ (y ≤ i ∧ i < y + 8) → zr (zr (zr (zr (zr (zr (zr J (y + 1 + 0)) (y + 1 + 1)) (y + 1 + 2)) (y + 1 + 3)) (y + 1 + 4)) (y + 1 + 5)) (y + 1 + 6) i = J i := fun i hi => by rw [zr_n (by omega), zr_n (by omega), zr_n (by omega), zr_n (by omega), zr_n (by omega), zr_n (by omega), zr_n (by omega)]
  have hz2 : ∀ j k, 1 ≤ j → j < 8 → zr (zr (zr (zr (zr (zr (zr J (y + 1 + 0)) (y + 1 + 1)) (y + 1 + 2)) (y + 1 + 3)) (y + 1 + 4)) (y + 1 + 5)) (y + 1 + 6) (y + j) k = nI 0 := by
    intro j k h1 h2
    unfold zr
    rcases (show j = 1 ∨ j = 2 ∨ j = 3 ∨ j = 4 ∨ j = 5 ∨ j = 6 ∨ j = 7 by omega) with rfl | rfl | rfl | rfl | rfl | rfl | rfl
    all_goals (repeat (first | rw [if_pos (by omega)] | rw [if_neg (by omega)]))
  generalize zr (zr (zr (zr (zr (zr (zr J (y + 1 + 0)) (y + 1 + 1)) (y + 1 + 2)) (y + 1 + 3)) (y + 1 + 4)) (y + 1 + 5)) (y + 1 + 6) = Z at *
  iterate 11 refine ⟨P7.1, ?_⟩
  refine hk _ _ ⟨fun i hi => ?_, fun j h1 h2 => ?_, ?_, ?_, ?_, ?_, ?_, ?_, ?_, ?_, ?_, ?_, ?_⟩ P7 hsF
  · rw [← hz i hi]
    funext k
    repeat rw [up_n (by omega)]
  · funext k
    rw [← hz2 j k h1 h2]
    repeat rw [up_n (by omega)]
  all_goals (repeat (first | exact up_s | rw [up_n (by omega)]))
end XQs
