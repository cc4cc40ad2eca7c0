/-! the diary -/
def DiE (b : Bool) (E : Ev) (q : Nat) (mk : Nat → Nat) : Prop := q ≤ 32 ∧ (∀ p, p < q → rget (shB b) E 80 p = .ref (mk p) ∧ DyA (shB b) E (mk p) ∧ 1000000 ≤ mk p) ∧ (∀ p, q ≤ p → p < 32 → rget (shB b) E 80 p = .null) ∧ ∀ p p', p < q → p' < q → p ≠ p' → mk p + 8 ≤ mk p' ∨ mk p' + 8 ≤ mk p
theorem DyA.t {sh : Sh} {E : Ev} {y : Nat} (h : DyA sh E y) : ∀ j, j < 8 → tyc sh E (y + j) ≠ 0 := by
  obtain ⟨h0, -, ⟨t1, t2, t3, t4, t5, t6, t7⟩, -⟩ := h
  intro j hj
  rcases (show j = 0 ∨ j = 1 ∨ j = 2 ∨ j = 3 ∨ j = 4 ∨ j = 5 ∨ j = 6 ∨ j = 7 by omega) with rfl | rfl | rfl | rfl | rfl | rfl | rfl | rfl
  · rw [Nat.add_zero, h0]; decide
  · rw [t1]; decide
  · rw [t2]; decide
  · rw [t3]; decide
  · rw [t4]; decide
  · rw [t5]; decide
  · rw [t6]; decide
  · rw [t7]; decide
theorem DyA.ex {b : Bool} {P : Nat → Nat → Prop} {E F : Ev} {y : Nat} (h : DyA (shB b) E y) (hE : EX b P E F) (hp : ∀ j, ¬ P y j) : DyA (shB b) F y := by
  have t := h.t
  have t0 : tyc (shB b) E y ≠ 0 := t 0 (by decide)
  obtain ⟨h0, ⟨r0, r1, r2, r3, r4, r5, r6⟩, ⟨t1, t2, t3, t4, t5, t6, t7⟩, l1, l2, l3, l4, l5, l6, l7⟩ := h
  have e1 := hE.2 _ (t 1 (by decide))
  have e2 := hE.2 _ (t 2 (by decide))
  have e3 := hE.2 _ (t 3 (by decide))
  have e4 := hE.2 _ (t 4 (by decide))
  have e5 := hE.2 _ (t 5 (by decide))
  have e6 := hE.2 _ (t 6 (by decide))
  have e7 := hE.2 _ (t 7 (by decide))
  exact ⟨by rw [(hE.2 y t0).1]; exact h0, ⟨by rw [hE.1 y 0 t0 (hp 0)]; exact r0, by rw [hE.1 y 1 t0 (hp 1)]; exact r1, by rw [hE.1 y 2 t0 (hp 2)]; exact r2, by rw [hE.1 y 3 t0 (hp 3)]; exact r3, by rw [hE.1 y 4 t0 (hp 4)]; exact r4, by rw [hE.1 y 5 t0 (hp 5)]; exact r5, by rw [hE.1 y 6 t0 (hp 6)]; exact r6⟩, ⟨by rw [e1.1]; exact t1, by rw [e2.1]; exact t2, by rw [e3.1]; exact t3, by rw [e4.1]; exact t4, by rw [e5.1]; exact t5, by rw [e6.1]; exact t6, by rw [e7.1]; exact t7⟩, by rw [e1.2]; exact l1, by rw [e2.2]; exact l2, by rw [e3.2]; exact l3, by rw [e4.2]; exact l4, by rw [e5.2]; exact l5, by rw [e6.2]; exact l6, by rw [e7.2]; exact l7⟩
theorem DiE.ex {b : Bool} {P : Nat → Nat → Prop} {E F : Ev} {q : Nat} {mk : Nat → Nat} (h : DiE b E q mk) (hE : EX b P E F) (h80 : ∀ p, ¬ P 80 p) (hp : ∀ y j, 1000000 ≤ y → ¬ P y j) : DiE b F q mk := by
  obtain ⟨h1, h2, h3, h4⟩ := h
  have t80 : tyc (shB b) E 80 ≠ 0 := by rw [ty_xmarks]; decide
  exact ⟨h1, fun p hq => ⟨by rw [hE.1 80 p t80 (h80 p)]; exact (h2 p hq).1, (h2 p hq).2.1.ex hE (fun j => hp _ j (h2 p hq).2.2), (h2 p hq).2.2⟩, fun p a c => by rw [hE.1 80 p t80 (h80 p)]; exact h3 p a c, h4⟩
theorem rl_80 {j : Nat} : rlk rTl 80 j = none := by
  have : ∀ (L : List (Nat × Nat × Nat)), (L.all (fun q => decide (¬ q.1 = 80))) = true → rlk L 80 j = none := by
    intro L
    induction L with
    | nil => intro _; rfl
    | cons q t ih =>
      intro hq
      simp only [List.all_cons, Bool.and_eq_true, decide_eq_true_eq] at hq
      unfold rlk
      rw [if_neg (fun c => hq.1 c.1)]
      exact ih hq.2
  exact this rTl (by decide +kernel)
theorem pS_80 {b : Bool} {j : Nat} : (shB b).2.2 80 j = none := ps_n (pS_x (by decide) (by decide +kernel) rl_80)
section XQt
variable {Γ : Gm} {l : Launch} {b : Bool} {d : Nat} {I J : Iv} {E : Ev} {kr : Kr} {kx : Kxx} {n0 g q : Nat} {mk : Nat → Nat}
theorem x_note {M : Uv} (hD : DiE b E q mk) (hf : J 79 1 = nI n0) (hn : J 71 9 = nI (n0 + g)) (hg : g ≤ 999) (hn0 : n0 ≤ 999) (hgq : g / 32 ≤ q) (h9 : tyc (shB b) E 999999 = 0) (hM : g % 32 = 0 → g / 32 = q → 8 ≤ M.1 ∧ 526 ≤ M.2)
    (h0 : ¬ g % 32 = 0 → kr none J E) (h1 : g % 32 = 0 → g / 32 < q → ∀ K, CpD J K (mk (g / 32)) 71 → kr none K E)
    (h2 : g % 32 = 0 → g / 32 = q → ∀ K F y, 1000000 ≤ y → (∀ j, j < 8 → tyc (shB b) E (y + j) = 0) → EX b (fun a j => a = 80 ∧ j = q) E F → DiE b F (q + 1) (fun p => if p = q then y else mk p) → tyc (shB b) F 999999 = 0 → (E.2.2 999999 = 0 ∨ F.2.2 999999 = E.2.2 999999 + 8) → CpD J K y 71 → kr none K F) : Ex Γ l (shB b) (d + 2) M mDi_note [.ref 79, .ref 71] J E kr kx := by
  refine ex_of (ls0 := [some (.ref 79), some (.ref 71), none, none]) tDi_note (by decide +kernel) kDi_note rfl (Nat.le_of_ble_eq_true rfl) rfl ?_
  intro go hgo
  have ty71 : tyc (shB b) E 71 = 3 := dyA_71.1
  obtain ⟨d1, d2, d3, d4⟩ := id hD
  have e1 : nI (n0 + g) - nI n0 = nI g := by rw [nI_sb (by omega), Nat.add_sub_cancel_left]
  have e2 : nI g / nI 32 = nI (g / 32) := nI_dvN (by omega) (by decide) (by decide)
  have e3 : nI g - nI (g / 32) * nI 32 = nI (g % 32) := by
    rw [nI_ml, nI_sb (Nat.div_mul_le_self g 32)]
    congr 1
    omega
  have c1 : (nI g < nI 0) = False := by rw [nIt (by omega) (by decide)]; exact eq_false (by omega)
  have c2 : (nI (g % 32) = nI 0) = (g % 32 = 0) := nIe (by omega) (by decide)
  have c3 : (nI (g / 32) < nI 32) = True := by rw [nIt (by omega) (by decide)]; exact eq_true (by omega)
  have i32 : g / 32 < 32 := by omega
  refine hgo 20 [55] 0 _ _ _ _ _ ?_
  simp only [ixr_of, run_s, run_0, rDi_note, rok_i, rok_z, bx_cons, bx_nil, eAALD105, eAAST105, eBP, eCI0, eCV1, eDIV, eDUPr, eGI, eGR, jIClt, jIFlt, jIFne, eLA0, eLA1, eLI2, eLI3, eNEW, eNNn, eNNr, eREM, eRV, eSI2, eSI3, eSUB, fDi_note_0, fDi_note_19, fDi_note_26, fDi_note_32, fDi_note_33, fDi_note_42, fDi_note_55, bDi_note_0, bDi_note_19, bDi_note_26, bDi_note_32, bDi_note_33, bDi_note_42, bDi_note_55, ln_xmarks, rg_xdiary_0, ty_xdiary, ty_xmarks, Option.toList_some, Option.toList_none, List.cons_append, List.nil_append, List.length_cons, List.length_nil, List.mem_cons, List.not_mem_nil, or_false, false_or, or_true, true_or, ↓reduceIte, true_and, and_true, Nat.reduceEqDiff, Nat.reduceAdd, Nat.reduceLeDiff, Nat.reduceLT, dl_i, dl_r, dl_n, dl_u, eq_self, not_true_eq_false, not_false_eq_true, n10, n01, nm0, n0m, ty71, hn, hf, e1, e2, e3, c1, c2, c3, i32, imp_t, imp_f]
  refine ⟨by decide, ⟨by decide, fun z => h0 z, fun z => ?_⟩⟩
  have fin : ∀ (K : Iv) (F : Ev) (y : Nat) (u : Uv), (∀ i, ¬ (y ≤ i ∧ i < y + 8) → K i = J i) → 1000000 ≤ y → rget (shB b) F 80 (g / 32) = .ref y → DyA (shB b) F y → (∀ L, CpD J L y 71 → kr none L F) → go 55 [some (.ref 79), some (.ref 71), some (.int (nI g)), some (.int (nI (g / 32)))] [] K F u := by
    intro K F y u hK hy hr hA hkk
    have tY := hA.1
    refine hgo 20 [] 55 _ _ _ _ _ ?_
    simp only [ixr_of, run_s, run_0, rDi_note, rok_i, rok_z, bx_cons, bx_nil, eAALD105, eAAST105, eBP, eCI0, eCV1, eDIV, eDUPr, eGI, eGR, jIClt, jIFlt, jIFne, eLA0, eLA1, eLI2, eLI3, eNEW, eNNn, eNNr, eREM, eRV, eSI2, eSI3, eSUB, fDi_note_0, fDi_note_19, fDi_note_26, fDi_note_32, fDi_note_33, fDi_note_42, fDi_note_55, bDi_note_0, bDi_note_19, bDi_note_26, bDi_note_32, bDi_note_33, bDi_note_42, bDi_note_55, ln_xmarks, rg_xdiary_0, ty_xdiary, ty_xmarks, Option.toList_some, Option.toList_none, List.cons_append, List.nil_append, List.length_cons, List.length_nil, List.mem_cons, List.not_mem_nil, or_false, false_or, or_true, true_or, ↓reduceIte, true_and, and_true, Nat.reduceEqDiff, Nat.reduceAdd, Nat.reduceLeDiff, Nat.reduceLT, dl_i, dl_r, dl_n, dl_u, eq_self, not_true_eq_false, not_false_eq_true, n10, n01, nm0, n0m, i32, hr, tY, imp_t, imp_f]
    refine call0 (x_copyFrom hA dyA_71 (by omega) (fun L hL => ?_))
    simp only [ixr_of, run_s, run_0, rDi_note, rok_i, rok_z, bx_cons, bx_nil, eAALD105, eAAST105, eBP, eCI0, eCV1, eDIV, eDUPr, eGI, eGR, jIClt, jIFlt, jIFne, eLA0, eLA1, eLI2, eLI3, eNEW, eNNn, eNNr, eREM, eRV, eSI2, eSI3, eSUB, fDi_note_0, fDi_note_19, fDi_note_26, fDi_note_32, fDi_note_33, fDi_note_42, fDi_note_55, bDi_note_0, bDi_note_19, bDi_note_26, bDi_note_32, bDi_note_33, bDi_note_42, bDi_note_55, ln_xmarks, rg_xdiary_0, ty_xdiary, ty_xmarks, Option.toList_some, Option.toList_none, List.cons_append, List.nil_append, List.length_cons, List.length_nil, List.mem_cons, List.not_mem_nil, or_false, false_or, or_true, true_or, ↓reduceIte, true_and, and_true, Nat.reduceEqDiff, Nat.reduceAdd, Nat.reduceLeDiff, Nat.reduceLT, dl_i, dl_r, dl_n, dl_u, eq_self, not_true_eq_false, not_false_eq_true, n10, n01, nm0, n0m, imp_t, imp_f]
    obtain ⟨l1, l2, l3, l4, l5, l6, l7, l8, l9⟩ := hL
    refine hkk L ⟨fun i hi => by rw [l1 i hi, hK i hi], fun j a c => by rw [l2 j a c, hK 71 (by omega)], fun k a => by rw [l3 k a, hK 72 (by omega)], fun k a => by rw [l4 k a, hK 73 (by omega)], fun k a => by rw [l5 k a, hK 74 (by omega)], fun k a => by rw [l6 k a, hK 75 (by omega)], fun k a => by rw [l7 k a, hK 76 (by omega)], fun k a => by rw [l8 k a, hK 77 (by omega)], fun k a => by rw [l9 k a, hK 78 (by omega)]⟩
  by_cases hq : g / 32 < q
  · have r80 := (d2 _ hq).1
    simp only [ixr_of, run_s, run_0, rDi_note, rok_i, rok_z, bx_cons, bx_nil, eAALD105, eAAST105, eBP, eCI0, eCV1, eDIV, eDUPr, eGI, eGR, jIClt, jIFlt, jIFne, eLA0, eLA1, eLI2, eLI3, eNEW, eNNn, eNNr, eREM, eRV, eSI2, eSI3, eSUB, fDi_note_0, fDi_note_19, fDi_note_26, fDi_note_32, fDi_note_33, fDi_note_42, fDi_note_55, bDi_note_0, bDi_note_19, bDi_note_26, bDi_note_32, bDi_note_33, bDi_note_42, bDi_note_55, ln_xmarks, rg_xdiary_0, ty_xdiary, ty_xmarks, Option.toList_some, Option.toList_none, List.cons_append, List.nil_append, List.length_cons, List.length_nil, List.mem_cons, List.not_mem_nil, or_false, false_or, or_true, true_or, ↓reduceIte, true_and, and_true, Nat.reduceEqDiff, Nat.reduceAdd, Nat.reduceLeDiff, Nat.reduceLT, dl_i, dl_r, dl_n, dl_u, eq_self, not_true_eq_false, not_false_eq_true, n10, n01, nm0, n0m, r80, imp_t, imp_f]
    exact fin J E _ _ (fun _ _ => rfl) (d2 _ hq).2.2 r80 (d2 _ hq).2.1 (fun L hL => h1 z hq L hL)
  · have hqe : g / 32 = q := by omega
    have r80 := d3 (g / 32) (by omega) i32
    obtain ⟨m1, m2⟩ := hM z hqe
    simp only [ixr_of, run_s, run_0, rDi_note, rok_i, rok_z, bx_cons, bx_nil, eAALD105, eAAST105, eBP, eCI0, eCV1, eDIV, eDUPr, eGI, eGR, jIClt, jIFlt, jIFne, eLA0, eLA1, eLI2, eLI3, eNEW, eNNn, eNNr, eREM, eRV, eSI2, eSI3, eSUB, fDi_note_0, fDi_note_19, fDi_note_26, fDi_note_32, fDi_note_33, fDi_note_42, fDi_note_55, bDi_note_0, bDi_note_19, bDi_note_26, bDi_note_32, bDi_note_33, bDi_note_42, bDi_note_55, ln_xmarks, rg_xdiary_0, ty_xdiary, ty_xmarks, Option.toList_some, Option.toList_none, List.cons_append, List.nil_append, List.length_cons, List.length_nil, List.mem_cons, List.not_mem_nil, or_false, false_or, or_true, true_or, ↓reduceIte, true_and, and_true, Nat.reduceEqDiff, Nat.reduceAdd, Nat.reduceLeDiff, Nat.reduceLT, dl_i, dl_r, dl_n, dl_u, eq_self, not_true_eq_false, not_false_eq_true, n10, n01, nm0, n0m, r80, imp_t, imp_f]
    refine ⟨by omega, by omega, fun a hs hga => ⟨1000000 + a, by omega, ?_, fun j => pS_d (by omega), fun hf0 => ?_⟩⟩
    · unfold ad
      rw [if_neg (by omega), if_neg (by omega)]
      omega
    · have hay : ad Γ.1 (1000000 + a) = a := by
        unfold ad
        rw [if_neg (by omega), if_neg (by omega)]
        omega
      have h9' : tyc (shB b) (mkE E (1000000 + a) 3 0 (a + 2)) 999999 = 0 := by rw [tyc_mk_n (by omega)]; exact h9
      refine calli_n 7 508 (by omega) (by omega) (x_dinit (tyc_mk hf0) h9' (fun j => pS_d (by omega)) (Or.inr (by omega)) (fun j _ => ?_) (by rw [sz_mk, hay]) (fun K F hN hP hsz => ⟨rfl, ?_⟩))
      · unfold ad
        rw [if_neg (by omega), if_neg (by omega), if_neg (by omega), if_neg (by omega)]
        omega
      obtain ⟨y, hy⟩ : ∃ y, y = 1000000 + a := ⟨_, rfl⟩
      rw [← hy] at hf0 h9' hN hP ⊢
      have fr : ∀ j, j < 8 → tyc (shB b) E (y + j) = 0 := by
        intro j hj
        by_cases e : j = 0
        · rw [e]; exact hf0
        · have := hP.2.2.2.1 (j - 1) (by omega)
          rw [tyc_mk_n (by omega), show y + 1 + (j - 1) = y + j by omega] at this
          exact this
      have hE1 : EX b (fun a j => a = 80 ∧ j = q) E F := by
        have hm : EX b (fun a j => a = 80 ∧ j = q) E (mkE E y 3 0 (a + 2)) := EX.mk hf0 h9
        refine ⟨fun c j ht hp => ?_, fun c ht => ?_⟩
        · have hm2 := hm.2 c ht
          rw [(hP.2.2.1 c (by rw [hm2.1]; exact ht)).1 (fun e => ht (e ▸ hf0)) j]
          exact hm.1 c j ht hp
        · have hm2 := hm.2 c ht
          have h5 := (hP.2.2.1 c (by rw [hm2.1]; exact ht)).2
          rw [h5.1, h5.2]
          exact hm2
      have r80n : (shB b).2.2 80 (g / 32) = none := pS_80
      have hE2 : EX b (fun a j => a = 80 ∧ j = q) E (upR F.1 80 (g / 32) (y + 1), F.2) := hE1.tr (EX.up ⟨rfl, hqe⟩)
      have hAy : DyA (shB b) (upR F.1 80 (g / 32) (y + 1), F.2) y := hP.a.ex (P := fun a j => a = 80 ∧ j = q) (EX.up ⟨rfl, hqe⟩) (fun j c => by omega)
      have hry : rget (shB b) (upR F.1 80 (g / 32) (y + 1), F.2) 80 (g / 32) = .ref y := upR_r r80n
      refine ⟨hP.1, ixr_n i32 ⟨r80n, ?_⟩⟩
      refine fin K _ y _ (fun i hi => ?_) (by omega) hry hAy (fun L hL => h2 z hqe L _ y (by omega) fr hE2 ⟨by omega, fun p hp => ?_, fun p hp1 hp2 => ?_, fun p p' hp hp' hne => ?_⟩ hP.2.2.2.2 (hs.imp id (fun e => by show F.2.2 999999 = _; omega)) hL)
      · rw [hN.1 i hi, zr_n (by omega)]
      · dsimp only
        by_cases e : p = q
        · rw [if_pos e, e, ← hqe]
          exact ⟨hry, hAy, by omega⟩
        · rw [if_neg e]
          have t80 : tyc (shB b) E 80 ≠ 0 := by rw [ty_xmarks]; decide
          refine ⟨by rw [hE2.1 80 p t80 (by omega)]; exact (d2 p (by omega)).1, (d2 p (by omega)).2.1.ex hE2 (fun j c => by have := (d2 p (by omega)).2.2; omega), (d2 p (by omega)).2.2⟩
      · have t80 : tyc (shB b) E 80 ≠ 0 := by rw [ty_xmarks]; decide
        rw [hE2.1 80 p t80 (by omega)]
        exact d3 p (by omega) hp2
      · have dis : ∀ p, p < q → mk p + 8 ≤ y ∨ y + 8 ≤ mk p := by
          intro p hp
          have t := (d2 p hp).2.1.t
          by_cases c1 : mk p ≤ y
          · by_cases c2 : y < mk p + 8
            · have h5 := t (y - mk p) (by omega)
              rw [show mk p + (y - mk p) = y + 0 by omega] at h5
              exact absurd (fr 0 (by decide)) h5
            · omega
          · by_cases c2 : mk p < y + 8
            · have h5 := t 0 (by decide)
              have h6 := fr (mk p - y) (by omega)
              rw [show y + (mk p - y) = mk p + 0 by omega] at h6
              exact absurd h6 h5
            · omega
        dsimp only
        by_cases e : p = q
        · rw [if_pos e, if_neg (show p' ≠ q by omega)]
          exact (dis p' (by omega)).symm
        · rw [if_neg e]
          by_cases e' : p' = q
          · rw [if_pos e']
            exact dis p (by omega)
          · rw [if_neg e']
            exact d4 p p' (by omega) (by omega) hne
/-- from now on -/
theorem x_dibegin {M : Uv} {n : Nat} (hD : DiE b E q mk) (hn : J 71 9 = nI n) (hn9 : n ≤ 999) (h9 : tyc (shB b) E 999999 = 0) (hM : q = 0 → 8 ≤ M.1 ∧ 526 ≤ M.2)
    (h1 : 0 < q → ∀ K, CpD (up J 79 1 (nI n)) K (mk 0) 71 → kr none K E)
    (h2 : q = 0 → ∀ K F y, 1000000 ≤ y → (∀ j, j < 8 → tyc (shB b) E (y + j) = 0) → EX b (fun a j => a = 80 ∧ j = 0) E F → DiE b F 1 (fun p => if p = 0 then y else mk p) → tyc (shB b) F 999999 = 0 → (E.2.2 999999 = 0 ∨ F.2.2 999999 = E.2.2 999999 + 8) → CpD (up J 79 1 (nI n)) K y 71 → kr none K F) : Ex Γ l (shB b) (d + 3) M mDi_begin [.ref 79, .ref 71] J E kr kx := by
  refine ex_of (ls0 := [some (.ref 79), some (.ref 71)]) tDi_begin (by decide +kernel) kDi_begin rfl (Nat.le_of_ble_eq_true rfl) rfl ?_
  intro go hgo
  have ty71 : tyc (shB b) E 71 = 3 := dyA_71.1
  refine hgo 20 [] 0 _ _ _ _ _ ?_
  simp only [ixr_of, run_s, run_0, rDi_begin, rok_i, rok_z, bx_cons, bx_nil, eCV1, eGI, eLA0, eLA1, ePI, eRV, fDi_begin_0, bDi_begin_0, ln_xmarks, rg_xdiary_0, ty_xdiary, ty_xmarks, Option.toList_some, Option.toList_none, List.cons_append, List.nil_append, List.length_cons, List.length_nil, List.mem_cons, List.not_mem_nil, or_false, false_or, or_true, true_or, ↓reduceIte, true_and, and_true, Nat.reduceEqDiff, Nat.reduceAdd, Nat.reduceLeDiff, Nat.reduceLT, dl_i, dl_r, dl_n, dl_u, eq_self, not_true_eq_false, not_false_eq_true, n10, n01, nm0, n0m, ty71, hn, imp_t, imp_f]
  by_cases hq : q = 0
  · obtain ⟨m1, m2⟩ := hM hq
    subst hq
    refine ⟨8, 526, by simpa using m1, by simpa using m2, x_note (n0 := n) (g := 0) (M := (8, 526)) hD up_s (by rw [up_n (by omega)]; exact hn) (by omega) hn9 (by omega) h9 (fun _ _ => ⟨Nat.le_refl _, Nat.le_refl _⟩) (fun z => absurd rfl z) (fun _ z => absurd z (by omega)) (fun _ _ K F y a1 a2 a3 a4 a6 a7 a5 => ?_)⟩
    simp only [ixr_of, run_s, run_0, rDi_begin, rok_i, rok_z, bx_cons, bx_nil, eCV1, eGI, eLA0, eLA1, ePI, eRV, fDi_begin_0, bDi_begin_0, ln_xmarks, rg_xdiary_0, ty_xdiary, ty_xmarks, Option.toList_some, Option.toList_none, List.cons_append, List.nil_append, List.length_cons, List.length_nil, List.mem_cons, List.not_mem_nil, or_false, false_or, or_true, true_or, ↓reduceIte, true_and, and_true, Nat.reduceEqDiff, Nat.reduceAdd, Nat.reduceLeDiff, Nat.reduceLT, dl_i, dl_r, dl_n, dl_u, eq_self, not_true_eq_false, not_false_eq_true, n10, n01, nm0, n0m, imp_t, imp_f]
    exact h2 rfl K F y a1 a2 a3 a4 a6 a7 a5
  · refine call0 (x_note (n0 := n) (g := 0) hD up_s (by rw [up_n (by omega)]; exact hn) (by omega) hn9 (by omega) h9 (fun _ z => absurd z (by omega)) (fun z => absurd rfl z) (fun _ _ K a5 => ?_) (fun _ z => absurd z (by omega)))
    simp only [ixr_of, run_s, run_0, rDi_begin, rok_i, rok_z, bx_cons, bx_nil, eCV1, eGI, eLA0, eLA1, ePI, eRV, fDi_begin_0, bDi_begin_0, ln_xmarks, rg_xdiary_0, ty_xdiary, ty_xmarks, Option.toList_some, Option.toList_none, List.cons_append, List.nil_append, List.length_cons, List.length_nil, List.mem_cons, List.not_mem_nil, or_false, false_or, or_true, true_or, ↓reduceIte, true_and, and_true, Nat.reduceEqDiff, Nat.reduceAdd, Nat.reduceLeDiff, Nat.reduceLT, dl_i, dl_r, dl_n, dl_u, eq_self, not_true_eq_false, not_false_eq_true, n10, n01, nm0, n0m, imp_t, imp_f]
    exact h1 (by omega) K a5
theorem x_goBack {dd : Nat} (hD : DiE b E q mk) (hf : J 79 1 = nI n0) (hg : g ≤ 999) (hn0 : n0 ≤ 999) (hdd : dd = n0 + g) (hgq : g / 32 < q) (h1 : ∀ K, CpD J K 71 (mk (g / 32)) → kr none K E) : Ex Γ l (shB b) (d + 2) (0, 0) mDi_goBack [.ref 79, .ref 71, .int (nI dd)] J E kr kx := by
  subst hdd
  refine ex_of (ls0 := [some (.ref 79), some (.ref 71), some (.int (nI (n0 + g))), none]) tDi_goBack (by decide +kernel) kDi_goBack rfl (Nat.le_of_ble_eq_true rfl) rfl ?_
  intro go hgo
  obtain ⟨d1, d2, d3, d4⟩ := id hD
  have e1 : nI (n0 + g) - nI n0 = nI g := by rw [nI_sb (by omega), Nat.add_sub_cancel_left]
  have e2 : nI g / nI 32 = nI (g / 32) := nI_dvN (by omega) (by decide) (by decide)
  have c1 : (nI (n0 + g) < nI n0) = False := by rw [nIt (by omega) (by omega)]; exact eq_false (by omega)
  have c3 : (nI 32 ≤ nI (g / 32)) = False := by rw [nIl (by omega) (by omega)]; exact eq_false (by omega)
  have i32 : g / 32 < 32 := by omega
  have r80 := (d2 _ hgq).1
  have ty71 : tyc (shB b) E 71 = 3 := dyA_71.1
  refine hgo 20 [] 0 _ _ _ _ _ ?_
  simp only [ixr_of, run_s, run_0, rDi_goBack, rok_i, rok_z, bx_cons, bx_nil, eAALD105, eBP, eCV1, eDIV, eGI, eGR, jICge, jIClt, eLA0, eLA1, eLI2, eLI3, eNUn, eNUr, eRV, eSI3, eSUB, fDi_goBack_0, fDi_goBack_18, fDi_goBack_24, fDi_goBack_33, fDi_goBack_43, bDi_goBack_0, bDi_goBack_18, bDi_goBack_24, bDi_goBack_33, bDi_goBack_43, ln_xmarks, rg_xdiary_0, ty_xdiary, ty_xmarks, Option.toList_some, Option.toList_none, List.cons_append, List.nil_append, List.length_cons, List.length_nil, List.mem_cons, List.not_mem_nil, or_false, false_or, or_true, true_or, ↓reduceIte, true_and, and_true, Nat.reduceEqDiff, Nat.reduceAdd, Nat.reduceLeDiff, Nat.reduceLT, dl_i, dl_r, dl_n, dl_u, eq_self, not_true_eq_false, not_false_eq_true, n10, n01, nm0, n0m, hf, e1, e2, c1, c3, i32, r80, ty71, imp_t, imp_f]
  refine ⟨by decide, ?_⟩
  refine call0 (x_copyFrom dyA_71 (d2 _ hgq).2.1 (by have := (d2 _ hgq).2.2; omega) (fun L hL => ?_))
  simp only [ixr_of, run_s, run_0, rDi_goBack, rok_i, rok_z, bx_cons, bx_nil, eAALD105, eBP, eCV1, eDIV, eGI, eGR, jICge, jIClt, eLA0, eLA1, eLI2, eLI3, eNUn, eNUr, eRV, eSI3, eSUB, fDi_goBack_0, fDi_goBack_18, fDi_goBack_24, fDi_goBack_33, fDi_goBack_43, bDi_goBack_0, bDi_goBack_18, bDi_goBack_24, bDi_goBack_33, bDi_goBack_43, ln_xmarks, rg_xdiary_0, ty_xdiary, ty_xmarks, Option.toList_some, Option.toList_none, List.cons_append, List.nil_append, List.length_cons, List.length_nil, List.mem_cons, List.not_mem_nil, or_false, false_or, or_true, true_or, ↓reduceIte, true_and, and_true, Nat.reduceEqDiff, Nat.reduceAdd, Nat.reduceLeDiff, Nat.reduceLT, dl_i, dl_r, dl_n, dl_u, eq_self, not_true_eq_false, not_false_eq_true, n10, n01, nm0, n0m, imp_t, imp_f]
  exact h1 L hL
end XQt
