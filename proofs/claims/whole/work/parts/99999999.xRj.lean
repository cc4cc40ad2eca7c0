/-! public methods, 8: what changes -/
/-- what town, opinions, book, tape and tasters are read from -/
def Rk (i : Nat) : Prop := (0 < i ∧ i < 16) ∨ (∃ o, idO o ∧ (i = o ∨ i = o + 1)) ∨ i = 58 ∨ (68 ≤ i ∧ i ≤ 70) ∨ (83 ≤ i ∧ i ≤ 93) ∨ (98 ≤ i ∧ i ≤ 100) ∨ i = 500001 ∨ tw i ∨ i = 500068 ∨ (500094 ≤ i ∧ i < 500106) ∨ i = 500127
def RF (J L : Iv) : Prop := (∀ i, Rk i → L i = J i) ∧ L 500000 1 = J 500000 1 ∧ L 500000 3 = J 500000 3 ∧ L 500000 36 = J 500000 36
theorem RF.t {J L : Iv} (h : RF J L) : SayT J L := fun i hi => h.1 i (by unfold Rk; simp only [hi, true_or, or_true])
section Rcg
variable {J K L : Iv} {E F : Ev} {S : Tn} {PS : Nat → List Pt} {t kb n n0 p c q tp im rw' z : Nat} {op mk nim : Nat → Nat} {bk : List (Nat × Nat)}
theorem R1.cg (h : R1 J E S PS t op) (hk : RF J K) : R1 K E S PS t op := by
  obtain ⟨h1, h2, h3, h4, h5, h6⟩ := h
  refine ⟨h1.mv (fun i hi => hk.1 i ?_) hk.t, h2, h3, fun v hv => by rw [hk.1 500068 (by unfold Rk; simp)]; exact h4 v hv, by rw [hk.t 500004 (by unfold tw; omega)]; exact h5, fun k hk' => by rw [hk.1 500127 (by unfold Rk; simp)]; exact h6 k hk'⟩
  unfold Rk
  rcases hi with hi | hi | hi
  · left; omega
  · simp only [hi, and_self, true_or, or_true]
  · exact Or.inr (Or.inl hi)
theorem R2.cg (h : R2 J E bk kb) (hk : RF J K) : R2 K E bk kb := by
  obtain ⟨⟨a1, a2, ⟨x1, x2, x3⟩, a4⟩, h2, h3, h4⟩ := h
  have e : ∀ i, kb ≤ i → i ≤ kb + 2 → K i = J i := fun i a c => hk.1 i (by unfold idB at a2; unfold Rk; omega)
  refine ⟨⟨a1, a2, ⟨by rw [e kb (by omega) (by omega)]; exact x1, by rw [e kb (by omega) (by omega)]; exact x2, fun i x hx => by rw [e (kb + 1) (by omega) (by omega), e (kb + 2) (by omega) (by omega)]; exact x3 i x hx⟩, a4⟩, h2, by rw [hk.2.2.2]; exact h3, fun k x hx => ?_⟩
  have : k < bk.length := (List.getElem?_eq_some_iff.mp hx).1
  have := a4.1
  rw [hk.1 (500094 + k) (by unfold Rk; omega)]
  exact h4 k x hx
theorem R5.cg {im' : Nat} (h : R5 J S im nim) (h9 : S.1.1 ≤ 9) (hi : im' ≤ im) (h1 : K 0 12 = nI im') (h2 : K 500000 40 = nI im') (h3 : ∀ i, 101 ≤ i → i < 125 → K i = J i) (h4 : ∀ m, m < 3 → K (500120 + m) = J (500120 + m)) : R5 K S im' nim := by
  obtain ⟨-, g2, -, g4⟩ := h
  refine ⟨h1, by omega, h2, fun m hm => ?_⟩
  obtain ⟨a1, a2, a3⟩ := g4 m (by omega)
  rw [h4 m (by omega)]
  exact ⟨a1, a2.mv h9 (fun i b c => h3 i (by omega) (by omega)), a3⟩
theorem R6.cg (h : R6 J tp) (hk : RF J K) : R6 K tp := by
  obtain ⟨h1, h2, h3, h4, h5, h6⟩ := h
  have e1 : K 1 = J 1 := hk.1 1 (by unfold Rk; omega)
  have e2 : K 2 = J 2 := hk.1 2 (by unfold Rk; omega)
  have e3 : K 500001 = J 500001 := hk.1 500001 (by unfold Rk; simp)
  exact ⟨by rw [e1]; exact h1, by rw [hk.2.1]; exact h2, h3, fun k hk' => by rw [e2]; exact h4 k hk', fun k hk' => by rw [e2, e3]; exact h5 k hk', by rw [e1, hk.2.2.1]; exact h6⟩
theorem R8.cg (h : R8 J S bk) (hS : TnV S) (hk : RF J K) : R8 K S bk := by
  have e58 : K 58 = J 58 := hk.1 58 (by unfold Rk; simp)
  rcases h with h | ⟨h1, h2⟩
  · left; rw [e58]; exact h
  · right
    exact ⟨by rw [e58]; exact h1, h2.mv hS hk.t (hk.1 500127 (by unfold Rk; simp)) (fun k _ _ => by rw [e58])⟩
theorem GS.re {q' : Nat} (r1 : R1 J E S PS t op) (r2 : R2 J E bk kb) (r6 : R6 J tp) (r8 : R8 J S bk) (r9 : R9 E rw' z) (hE : EX true (fun a _ => a = 80) E F) (h9 : tyc shN F 999999 = 0) (hF : RF J L) (r3 : R3 L S n p c) (r4 : R4 L F S n n0 q' mk) (r5 : R5 L S im nim) (r7 : R7 L) : GS q' z L F :=
  ⟨S, PS, t, op, bk, kb, n, n0, p, c, mk, tp, im, nim, rw', (r1.cg hF).ex hE (by decide) (fun _ _ => by decide) (by decide) (by decide), (r2.cg hF).ex hE (by decide) (by decide), r3, r4, r5, r6.cg hF, r7, r8.cg r1.1.1.2.2.2.1 hF, r9.ex hE (by decide) h9⟩
/-- begun anew -/
theorem GS.m1 {J1 : Iv} {n' im' p' c' : Nat} (r1 : R1 J E S PS t op) (r2 : R2 J E bk kb) (r4 : R4 J E S n n0 q mk) (r5 : R5 J S im nim) (r6 : R6 J tp) (r7 : R7 J) (r8 : R8 J S bk) (r9 : R9 E rw' z) (h1 : ∀ i, ¬ sX rw' i → ¬ (71 ≤ i ∧ i < 79) → i ≠ 0 → J1 i = J i) (hK : CpD (up J1 79 1 (nI n')) K (mk 0) 71) (hL1 : ∀ i, (i < 500000 ∨ 1000000 ≤ i) → L i = K i) (hL2 : ∀ i, 500000 < i → i < 1000000 → i ≠ 500123 → i ≠ 500124 → i ≠ 500125 → ¬ scA i → L i = K i) (hL3 : ∀ j, ¬ scF j → ¬ (37 ≤ j ∧ j ≤ 40) → L 500000 j = K 500000 j) (him : im' ≤ im) (h12 : J1 0 12 = nI im') (h40' : L 500000 40 = nI im') (h13 : J1 0 13 = J 0 13 ∧ J1 0 14 = J 0 14) (hnw : NQ J1 71 S n' (L 500124) (L 500000 37) (L 500000 38) (L 500123)) (hn' : n' ≤ 999) (hp : L 500000 37 = nI p' ∧ p' < 2 ^ S.1.1) (hc : L 500000 38 = nI c' ∧ c' < 2 ^ S.1.1) (h39 : L 500000 39 = nI 0) (h25 : L 500125 = L 500124) : GS q z L E := by
  have hS := r1.1.1.2.2.2.1
  obtain ⟨d1, d2, -, -⟩ := id r4
  have hm0 := (d1.2.1 0 (by omega)).2.2
  have kk : ∀ i, i ≠ 79 → ¬ (mk 0 ≤ i ∧ i < mk 0 + 8) → K i = J1 i := fun i a c => by
    rw [hK.1 i c]
    funext j
    exact up_n (by omega)
  have cl : ∀ i, i < 500000 → ¬ sX rw' i → ¬ (71 ≤ i ∧ i ≤ 79) → i ≠ 0 → L i = J i := fun i a c e f => by rw [hL1 i (by omega), kk i (by omega) (by omega), h1 i c (by omega) f]
  have md : ∀ i, 500000 ≤ i → i < 1000000 → K i = J i := fun i a c => by
    rw [kk i (by omega) (by omega)]
    exact h1 i (sX_n (by omega) (by omega) (by omega) (by omega) c (by omega)) (by omega) (by omega)
  have ml : ∀ i, 500000 < i → i < 1000000 → i ≠ 500123 → i ≠ 500124 → i ≠ 500125 → ¬ scA i → L i = J i := fun i a1 a2 a3 a4 a5 a6 => by rw [hL2 i a1 a2 a3 a4 a5 a6, md i (by omega) a2]
  have c0 : L 0 = J1 0 := by rw [hL1 0 (by omega), kk 0 (by omega) (by omega)]
  have q71 : NQ (up J1 79 1 (nI n')) 71 S n' (L 500124) (L 500000 37) (L 500000 38) (L 500123) := hnw.mv hS.1 (fun i _ _ => by funext j; exact up_n (by omega))
  have hRF : RF J L := by
    refine ⟨fun i hi => ?_, ?_, ?_, ?_⟩
    · unfold Rk at hi
      rcases hi with hi | ⟨o, ho, hi⟩ | hi | hi | hi | hi | hi | hi | hi | hi | hi
      · exact cl i (by omega) (sX_n (by omega) (by omega) (by omega) (by omega) (by omega) (by omega)) (by omega) (by omega)
      · unfold idO at ho
        exact cl i (by omega) (sX_n (by omega) (by omega) (by omega) (by omega) (by omega) (by omega)) (by omega) (by omega)
      · exact cl i (by omega) (sX_n (by omega) (by omega) (by omega) (by omega) (by omega) (by omega)) (by omega) (by omega)
      · exact cl i (by omega) (sX_n (by omega) (by omega) (by omega) (by omega) (by omega) (by omega)) (by omega) (by omega)
      · exact cl i (by omega) (sX_n (by omega) (by omega) (by omega) (by omega) (by omega) (by omega)) (by omega) (by omega)
      · exact cl i (by omega) (sX_n (by omega) (by omega) (by omega) (by omega) (by omega) (by omega)) (by omega) (by omega)
      · exact ml i (by omega) (by omega) (by omega) (by omega) (by omega) (by unfold scA; omega)
      · unfold tw at hi
        exact ml i (by omega) (by omega) (by omega) (by omega) (by omega) (by unfold scA; omega)
      · exact ml i (by omega) (by omega) (by omega) (by omega) (by omega) (by unfold scA; omega)
      · exact ml i (by omega) (by omega) (by omega) (by omega) (by omega) (by unfold scA; omega)
      · exact ml i (by omega) (by omega) (by omega) (by omega) (by omega) (by unfold scA; omega)
    · rw [hL3 1 (by unfold scF; omega) (by omega), md 500000 (by omega) (by omega)]
    · rw [hL3 3 (by unfold scF; omega) (by omega), md 500000 (by omega) (by omega)]
    · rw [hL3 36 (by unfold scF; omega) (by omega), md 500000 (by omega) (by omega)]
  refine GS.re (n0 := n') (p := p') (c := c') (mk := mk) (im := im') (nim := nim) r1 r2 r6 r8 r9 EX.rf r9.2.1 hRF ⟨⟨SayT.rf, ?_⟩, hn', hp.1, hp.2, hc.1, hc.2⟩ ⟨d1, d2, ?_, Nat.le_refl _, by omega, by rw [h39, Nat.sub_self], ?_, fun a ha => ?_⟩ (r5.cg hS.1 him (by rw [c0]; exact h12) h40' (fun i a e => cl i (by omega) (sX_n (by omega) (by omega) (by omega) (by omega) (by omega) (by omega)) (by omega) (by omega)) (fun m hm => ml _ (by omega) (by omega) (by omega) (by omega) (by omega) (by unfold scA; omega))) ?_
  · exact (q71.mv hS.1 (fun i a e => hK.1 i (by omega))).mv hS.1 (fun i a e => hL1 i (by omega))
  · rw [hL1 79 (by omega), hK.1 79 (by omega), up_s]
  · rw [Nat.sub_self, ← h25]
    rfl
  · have : a = 0 := by omega
    subst this
    have := (q71.cp hS.1 hK).mv hS.1 (K := L) (fun i a e => hL1 i (by omega))
    rw [Nat.mul_zero, Nat.add_zero, h25]
    exact this
  · unfold R7
    rw [c0, ml 500002 (by omega) (by omega) (by omega) (by omega) (by omega) (by unfold scA; omega), h13.1, h13.2]
    exact r7
end Rcg

theorem g_please {q z : Nat} {J : Iv} {E : Ev} {x : Int32} (h : GS q z J E) : StX1 mH_please mM_please [.int x] 1 q z J E := by
  have hG0 := h
  obtain ⟨S, PS, t, op, bk, kb, n, n0, p, c, mk, tp, im, nim, rw', r1, r2, r3, r4, r5, r6, r7, r8, r9⟩ := h
  have hS := r1.1.1.2.2.2.1
  have s9 := hS.1
  have hVS := r1.1.2.2.1
  have hq32 := r4.1.1
  obtain ⟨g3, hT, hXt, -⟩ := id r1.1.1
  have tT : tyc shN E t = 10 := (hT.A (b := true) (E := E)).1
  have v7 := hXt.1
  have h40 := hVS.1
  have hD := r3.1.2.1
  have ty71 : tyc shN E 71 = 3 := dyA_71.1
  obtain ⟨-, ⟨y0, y1, y2, y3, y4, y5, y6⟩, ⟨b1, b2, b3, b4, b5, b6, b7⟩, l1, l2, l3, l4, l5, l6, l7⟩ := (dyA_71 (b := true) (E := E))
  have hset : nI 1 <<< (J 500004 0 &&& 31) - nI 1 = nI (2 ^ S.1.1 - 1) := by rw [h40, shl_n s9, nI_sb (p2_9 s9).1]
  have h512 := p2_512 s9
  have hpos : 0 < 2 ^ S.1.1 := Nat.two_pow_pos _
  by_cases hin : nI 0 ≤ x ∧ x ≤ nI (2 ^ S.1.1 - 1)
  rotate_left
  · refine ⟨(1, 6), q, z, Cst.x, hq32, fun Γ l d kr kx hG _ hxI => ?_⟩
    refine ex_of (ls0 := [some (.ref 0), some (.int x), none]) tH_please (by decide +kernel) kH_please rfl (Nat.le_of_ble_eq_true rfl) rfl ?_
    intro go hgo
    refine hgo 20 [] 0 _ _ _ _ _ ?_
    simp only [ixr_of, run_s, run_0, rH_please, rok_i, rok_z, bx_cons, bx_nil, eCV1, eGI, eGR, eLA0, eLI1, eLI2, ePI, eRI, eSI2, fH_please_0, bH_please_0, ln_ximages, ln_xthought, rg_xmain_0, rg_xmain_1, rg_xmain_10, rg_xmain_2, rg_xmain_3, rg_xmain_4, rg_xmain_5, rg_xmain_6, rg_xmain_7, ty_xaqueduct, ty_xdiary, ty_xforesight, ty_ximages, ty_xmain, ty_xnow, ty_xopinionReader, ty_xtape, ty_xtasters, ty_xthought, Option.toList_some, Option.toList_none, List.cons_append, List.nil_append, List.length_cons, List.length_nil, List.mem_cons, List.not_mem_nil, or_false, false_or, or_true, true_or, ↓reduceIte, true_and, and_true, Nat.reduceEqDiff, Nat.reduceAdd, Nat.reduceLeDiff, Nat.reduceLT, dl_i, dl_r, dl_n, dl_u, eq_self, not_true_eq_false, not_false_eq_true, n10, n01, nm0, n0m, imp_t, imp_f]
    refine ⟨1, 6, fun _ => Nat.le_refl _, fun _ => Nat.le_refl _, x_needSetX hG g3 tT hXt s9 hin (hxI _ _ (fun Γ l d kr kx hk => ?_))⟩
    exact c_please (fun _ => hk _ (hG0.rf (rn := 1) (w := 1) (by decide)).1.un (hG0.rf (rn := 1) (w := 1) (by decide)).2) (fun c => absurd (by rw [← hset]; rw [up_n (by omega)] at c; exact c) hin)
  obtain ⟨p', hp', rfl⟩ := rng (by omega) hin
  have e10 : J 71 10 = J 500000 37 := r3.1.2.2.1
  have e11 : J 71 11 = J 500000 38 := r3.1.2.2.2.1
  have en : J 71 9 = nI n := hD.2.1
  obtain ⟨-, n9, a37, b37, a38, b38⟩ := id r3
  refine ⟨(0, 0), q, z, Cst.no, hq32, fun Γ l d kr kx hG hk _ => ?_⟩
  refine ex_of (ls0 := [some (.ref 0), some (.int (nI p')), none]) tH_please (by decide +kernel) kH_please rfl (Nat.le_of_ble_eq_true rfl) rfl ?_
  intro go hgo
  refine hgo 20 [] 0 _ _ _ _ _ ?_
  simp only [ixr_of, run_s, run_0, rH_please, rok_i, rok_z, bx_cons, bx_nil, eCV1, eGI, eGR, eLA0, eLI1, eLI2, ePI, eRI, eSI2, fH_please_0, bH_please_0, ln_ximages, ln_xthought, rg_xmain_0, rg_xmain_1, rg_xmain_10, rg_xmain_2, rg_xmain_3, rg_xmain_4, rg_xmain_5, rg_xmain_6, rg_xmain_7, ty_xaqueduct, ty_xdiary, ty_xforesight, ty_ximages, ty_xmain, ty_xnow, ty_xopinionReader, ty_xtape, ty_xtasters, ty_xthought, Option.toList_some, Option.toList_none, List.cons_append, List.nil_append, List.length_cons, List.length_nil, List.mem_cons, List.not_mem_nil, or_false, false_or, or_true, true_or, ↓reduceIte, true_and, and_true, Nat.reduceEqDiff, Nat.reduceAdd, Nat.reduceLeDiff, Nat.reduceLT, dl_i, dl_r, dl_n, dl_u, eq_self, not_true_eq_false, not_false_eq_true, n10, n01, nm0, n0m, ty71, e10, imp_t, imp_f]
  refine call0 (x_needSet g3 tT hXt s9 hin ?_)
  simp only [ixr_of, run_s, run_0, rH_please, rok_i, rok_z, bx_cons, bx_nil, eCV1, eGI, eGR, eLA0, eLI1, eLI2, ePI, eRI, eSI2, fH_please_0, bH_please_0, ln_ximages, ln_xthought, rg_xmain_0, rg_xmain_1, rg_xmain_10, rg_xmain_2, rg_xmain_3, rg_xmain_4, rg_xmain_5, rg_xmain_6, rg_xmain_7, ty_xaqueduct, ty_xdiary, ty_xforesight, ty_ximages, ty_xmain, ty_xnow, ty_xopinionReader, ty_xtape, ty_xtasters, ty_xthought, Option.toList_some, Option.toList_none, List.cons_append, List.nil_append, List.length_cons, List.length_nil, List.mem_cons, List.not_mem_nil, or_false, false_or, or_true, true_or, ↓reduceIte, true_and, and_true, Nat.reduceEqDiff, Nat.reduceAdd, Nat.reduceLeDiff, Nat.reduceLT, dl_i, dl_r, dl_n, dl_u, eq_self, not_true_eq_false, not_false_eq_true, n10, n01, nm0, n0m, imp_t, imp_f]
  have nq := r3.1.2.upl (x := nI p') s9
  have kf : ∀ i, i ≠ 71 → up J 71 10 (nI p') i = J i := fun i hi => by funext j; exact up_n (by omega)
  refine call0 (x_dibegin r4.1 (by rw [up_n (by omega)]; exact en) n9 r9.2.1 (fun e => absurd e (by have := r4.2.1; omega)) (fun _ K hK => ?_) (fun e => absurd e (by have := r4.2.1; omega)))
  simp only [ixr_of, run_s, run_0, rH_please, rok_i, rok_z, bx_cons, bx_nil, eCV1, eGI, eGR, eLA0, eLI1, eLI2, ePI, eRI, eSI2, fH_please_0, bH_please_0, ln_ximages, ln_xthought, rg_xmain_0, rg_xmain_1, rg_xmain_10, rg_xmain_2, rg_xmain_3, rg_xmain_4, rg_xmain_5, rg_xmain_6, rg_xmain_7, ty_xaqueduct, ty_xdiary, ty_xforesight, ty_ximages, ty_xmain, ty_xnow, ty_xopinionReader, ty_xtape, ty_xtasters, ty_xthought, Option.toList_some, Option.toList_none, List.cons_append, List.nil_append, List.length_cons, List.length_nil, List.mem_cons, List.not_mem_nil, or_false, false_or, or_true, true_or, ↓reduceIte, true_and, and_true, Nat.reduceEqDiff, Nat.reduceAdd, Nat.reduceLeDiff, Nat.reduceLT, dl_i, dl_r, dl_n, dl_u, eq_self, not_true_eq_false, not_false_eq_true, n10, n01, nm0, n0m, imp_t, imp_f]
  have hm0 := (r4.1.2.1 0 (by have := r4.2.1; omega)).2.2
  have kk : ∀ i, i ≠ 71 → i ≠ 79 → i < 1000000 → K i = J i := fun i a c e => by
    rw [hK.1 i (by omega), ← kf i a]
    funext j
    exact up_n (by omega)
  refine hk _ K E (fun Γ l d kr kx hk2 => c_please (fun c => absurd (by rw [kk 500004 (by omega) (by omega) (by omega), hset]; exact hin) c) (fun _ => ?_))
  rw [kk 500000 (by omega) (by omega) (by omega), ← e10]
  obtain ⟨L, hL⟩ : ∃ L, L = up (sr (up (up K 500000 0 (nI 0)) 500000 37 (nI p')) 500125 (K 500124)) 500000 39 (nI 0) := ⟨_, rfl⟩
  rw [← hL]
  have lo : ∀ i, i ≠ 500000 → i ≠ 500125 → L i = K i := fun i a c => by
    rw [hL]
    funext j
    rw [up_n (by omega), sr_n (by omega), up_n (by omega), up_n (by omega)]
  have lf : ∀ j, j ≠ 0 → j ≠ 37 → j ≠ 39 → L 500000 j = J 500000 j := fun j a c e => by
    rw [hL, up_n (by omega), sr_n (by omega), up_n (by omega), up_n (by omega), kk 500000 (by omega) (by omega) (by omega)]
  have l3 : L 500000 37 = nI p' := by rw [hL, up_n (by omega), sr_n (by omega), up_s]
  have e24 : L 500124 = J 500124 := by rw [lo 500124 (by omega) (by omega), kk 500124 (by omega) (by omega) (by omega)]
  have e23 : L 500123 = J 500123 := by rw [lo 500123 (by omega) (by omega), kk 500123 (by omega) (by omega) (by omega)]
  refine hk2 L (GS.m1 (p' := p') (c' := c) r1 r2 r4 r5 r6 r7 r8 r9 (fun i _ a _ => kf i (by omega)) hK (fun i a => lo i (by omega) (by omega)) (fun i a1 a2 a3 a4 a5 a6 => lo i (by omega) (by omega)) (fun j a c => by rw [lf j (by unfold scF at a; omega) (by omega) (by omega), kk 500000 (by omega) (by omega) (by omega)]) (Nat.le_refl im) (by rw [kf 0 (by omega)]; exact r5.1) (by rw [lf 40 (by omega) (by omega) (by omega)]; exact r5.2.2.1) ⟨by rw [kf 0 (by omega)], by rw [kf 0 (by omega)]⟩ ?_ n9 ?_ ?_ (by rw [hL, up_s]) ?_) ?_
  · rw [e24, e23, l3, lf 38 (by omega) (by omega) (by omega)]
    exact nq
  · exact ⟨l3, by omega⟩
  · exact ⟨by rw [lf 38 (by omega) (by omega) (by omega)]; exact a38, b38⟩
  · rw [e24, hL]
    funext j
    rw [up_n (by omega), sr_s, kk 500124 (by omega) (by omega) (by omega)]
  · rw [hL, up_n (by omega), sr_n (by omega), up_n (by omega), up_s]

theorem g_contrary {q z : Nat} {J : Iv} {E : Ev} {x : Int32} (h : GS q z J E) : StX1 mH_contrary mM_contrary [.int x] 1 q z J E := by
  have hG0 := h
  obtain ⟨S, PS, t, op, bk, kb, n, n0, p, c, mk, tp, im, nim, rw', r1, r2, r3, r4, r5, r6, r7, r8, r9⟩ := h
  have hS := r1.1.1.2.2.2.1
  have s9 := hS.1
  have hVS := r1.1.2.2.1
  have hq32 := r4.1.1
  obtain ⟨g3, hT, hXt, -⟩ := id r1.1.1
  have tT : tyc shN E t = 10 := (hT.A (b := true) (E := E)).1
  have v7 := hXt.1
  have h40 := hVS.1
  have hD := r3.1.2.1
  have ty71 : tyc shN E 71 = 3 := dyA_71.1
  obtain ⟨-, ⟨y0, y1, y2, y3, y4, y5, y6⟩, ⟨b1, b2, b3, b4, b5, b6, b7⟩, l1, l2, l3, l4, l5, l6, l7⟩ := (dyA_71 (b := true) (E := E))
  have hset : nI 1 <<< (J 500004 0 &&& 31) - nI 1 = nI (2 ^ S.1.1 - 1) := by rw [h40, shl_n s9, nI_sb (p2_9 s9).1]
  have h512 := p2_512 s9
  have hpos : 0 < 2 ^ S.1.1 := Nat.two_pow_pos _
  by_cases hin : nI 0 ≤ x ∧ x ≤ nI (2 ^ S.1.1 - 1)
  rotate_left
  · refine ⟨(1, 6), q, z, Cst.x, hq32, fun Γ l d kr kx hG _ hxI => ?_⟩
    refine ex_of (ls0 := [some (.ref 0), some (.int x), none]) tH_contrary (by decide +kernel) kH_contrary rfl (Nat.le_of_ble_eq_true rfl) rfl ?_
    intro go hgo
    refine hgo 20 [] 0 _ _ _ _ _ ?_
    simp only [ixr_of, run_s, run_0, rH_contrary, rok_i, rok_z, bx_cons, bx_nil, eCV1, eGI, eGR, eLA0, eLI1, eLI2, ePI, eRI, eSI2, fH_contrary_0, bH_contrary_0, ln_ximages, ln_xthought, rg_xmain_0, rg_xmain_1, rg_xmain_10, rg_xmain_2, rg_xmain_3, rg_xmain_4, rg_xmain_5, rg_xmain_6, rg_xmain_7, ty_xaqueduct, ty_xdiary, ty_xforesight, ty_ximages, ty_xmain, ty_xnow, ty_xopinionReader, ty_xtape, ty_xtasters, ty_xthought, Option.toList_some, Option.toList_none, List.cons_append, List.nil_append, List.length_cons, List.length_nil, List.mem_cons, List.not_mem_nil, or_false, false_or, or_true, true_or, ↓reduceIte, true_and, and_true, Nat.reduceEqDiff, Nat.reduceAdd, Nat.reduceLeDiff, Nat.reduceLT, dl_i, dl_r, dl_n, dl_u, eq_self, not_true_eq_false, not_false_eq_true, n10, n01, nm0, n0m, imp_t, imp_f]
    refine ⟨1, 6, fun _ => Nat.le_refl _, fun _ => Nat.le_refl _, x_needSetX hG g3 tT hXt s9 hin (hxI _ _ (fun Γ l d kr kx hk => ?_))⟩
    exact c_contrary (fun _ => hk _ (hG0.rf (rn := 1) (w := 1) (by decide)).1.un (hG0.rf (rn := 1) (w := 1) (by decide)).2) (fun c => absurd (by rw [← hset]; rw [up_n (by omega)] at c; exact c) hin)
  obtain ⟨p', hp', rfl⟩ := rng (by omega) hin
  have e10 : J 71 10 = J 500000 37 := r3.1.2.2.1
  have e11 : J 71 11 = J 500000 38 := r3.1.2.2.2.1
  have en : J 71 9 = nI n := hD.2.1
  obtain ⟨-, n9, a37, b37, a38, b38⟩ := id r3
  refine ⟨(0, 0), q, z, Cst.no, hq32, fun Γ l d kr kx hG hk _ => ?_⟩
  refine ex_of (ls0 := [some (.ref 0), some (.int (nI p')), none]) tH_contrary (by decide +kernel) kH_contrary rfl (Nat.le_of_ble_eq_true rfl) rfl ?_
  intro go hgo
  refine hgo 20 [] 0 _ _ _ _ _ ?_
  simp only [ixr_of, run_s, run_0, rH_contrary, rok_i, rok_z, bx_cons, bx_nil, eCV1, eGI, eGR, eLA0, eLI1, eLI2, ePI, eRI, eSI2, fH_contrary_0, bH_contrary_0, ln_ximages, ln_xthought, rg_xmain_0, rg_xmain_1, rg_xmain_10, rg_xmain_2, rg_xmain_3, rg_xmain_4, rg_xmain_5, rg_xmain_6, rg_xmain_7, ty_xaqueduct, ty_xdiary, ty_xforesight, ty_ximages, ty_xmain, ty_xnow, ty_xopinionReader, ty_xtape, ty_xtasters, ty_xthought, Option.toList_some, Option.toList_none, List.cons_append, List.nil_append, List.length_cons, List.length_nil, List.mem_cons, List.not_mem_nil, or_false, false_or, or_true, true_or, ↓reduceIte, true_and, and_true, Nat.reduceEqDiff, Nat.reduceAdd, Nat.reduceLeDiff, Nat.reduceLT, dl_i, dl_r, dl_n, dl_u, eq_self, not_true_eq_false, not_false_eq_true, n10, n01, nm0, n0m, ty71, e11, imp_t, imp_f]
  refine call0 (x_needSet g3 tT hXt s9 hin ?_)
  simp only [ixr_of, run_s, run_0, rH_contrary, rok_i, rok_z, bx_cons, bx_nil, eCV1, eGI, eGR, eLA0, eLI1, eLI2, ePI, eRI, eSI2, fH_contrary_0, bH_contrary_0, ln_ximages, ln_xthought, rg_xmain_0, rg_xmain_1, rg_xmain_10, rg_xmain_2, rg_xmain_3, rg_xmain_4, rg_xmain_5, rg_xmain_6, rg_xmain_7, ty_xaqueduct, ty_xdiary, ty_xforesight, ty_ximages, ty_xmain, ty_xnow, ty_xopinionReader, ty_xtape, ty_xtasters, ty_xthought, Option.toList_some, Option.toList_none, List.cons_append, List.nil_append, List.length_cons, List.length_nil, List.mem_cons, List.not_mem_nil, or_false, false_or, or_true, true_or, ↓reduceIte, true_and, and_true, Nat.reduceEqDiff, Nat.reduceAdd, Nat.reduceLeDiff, Nat.reduceLT, dl_i, dl_r, dl_n, dl_u, eq_self, not_true_eq_false, not_false_eq_true, n10, n01, nm0, n0m, imp_t, imp_f]
  have nq := r3.1.2.uco (x := nI p') s9
  have kf : ∀ i, i ≠ 71 → up J 71 11 (nI p') i = J i := fun i hi => by funext j; exact up_n (by omega)
  refine call0 (x_dibegin r4.1 (by rw [up_n (by omega)]; exact en) n9 r9.2.1 (fun e => absurd e (by have := r4.2.1; omega)) (fun _ K hK => ?_) (fun e => absurd e (by have := r4.2.1; omega)))
  simp only [ixr_of, run_s, run_0, rH_contrary, rok_i, rok_z, bx_cons, bx_nil, eCV1, eGI, eGR, eLA0, eLI1, eLI2, ePI, eRI, eSI2, fH_contrary_0, bH_contrary_0, ln_ximages, ln_xthought, rg_xmain_0, rg_xmain_1, rg_xmain_10, rg_xmain_2, rg_xmain_3, rg_xmain_4, rg_xmain_5, rg_xmain_6, rg_xmain_7, ty_xaqueduct, ty_xdiary, ty_xforesight, ty_ximages, ty_xmain, ty_xnow, ty_xopinionReader, ty_xtape, ty_xtasters, ty_xthought, Option.toList_some, Option.toList_none, List.cons_append, List.nil_append, List.length_cons, List.length_nil, List.mem_cons, List.not_mem_nil, or_false, false_or, or_true, true_or, ↓reduceIte, true_and, and_true, Nat.reduceEqDiff, Nat.reduceAdd, Nat.reduceLeDiff, Nat.reduceLT, dl_i, dl_r, dl_n, dl_u, eq_self, not_true_eq_false, not_false_eq_true, n10, n01, nm0, n0m, imp_t, imp_f]
  have hm0 := (r4.1.2.1 0 (by have := r4.2.1; omega)).2.2
  have kk : ∀ i, i ≠ 71 → i ≠ 79 → i < 1000000 → K i = J i := fun i a c e => by
    rw [hK.1 i (by omega), ← kf i a]
    funext j
    exact up_n (by omega)
  refine hk _ K E (fun Γ l d kr kx hk2 => c_contrary (fun c => absurd (by rw [kk 500004 (by omega) (by omega) (by omega), hset]; exact hin) c) (fun _ => ?_))
  rw [kk 500000 (by omega) (by omega) (by omega), ← e11]
  obtain ⟨L, hL⟩ : ∃ L, L = up (sr (up (up K 500000 0 (nI 0)) 500000 38 (nI p')) 500125 (K 500124)) 500000 39 (nI 0) := ⟨_, rfl⟩
  rw [← hL]
  have lo : ∀ i, i ≠ 500000 → i ≠ 500125 → L i = K i := fun i a c => by
    rw [hL]
    funext j
    rw [up_n (by omega), sr_n (by omega), up_n (by omega), up_n (by omega)]
  have lf : ∀ j, j ≠ 0 → j ≠ 38 → j ≠ 39 → L 500000 j = J 500000 j := fun j a c e => by
    rw [hL, up_n (by omega), sr_n (by omega), up_n (by omega), up_n (by omega), kk 500000 (by omega) (by omega) (by omega)]
  have l3 : L 500000 38 = nI p' := by rw [hL, up_n (by omega), sr_n (by omega), up_s]
  have e24 : L 500124 = J 500124 := by rw [lo 500124 (by omega) (by omega), kk 500124 (by omega) (by omega) (by omega)]
  have e23 : L 500123 = J 500123 := by rw [lo 500123 (by omega) (by omega), kk 500123 (by omega) (by omega) (by omega)]
  refine hk2 L (GS.m1 (p' := p) (c' := p') r1 r2 r4 r5 r6 r7 r8 r9 (fun i _ a _ => kf i (by omega)) hK (fun i a => lo i (by omega) (by omega)) (fun i a1 a2 a3 a4 a5 a6 => lo i (by omega) (by omega)) (fun j a c => by rw [lf j (by unfold scF at a; omega) (by omega) (by omega), kk 500000 (by omega) (by omega) (by omega)]) (Nat.le_refl im) (by rw [kf 0 (by omega)]; exact r5.1) (by rw [lf 40 (by omega) (by omega) (by omega)]; exact r5.2.2.1) ⟨by rw [kf 0 (by omega)], by rw [kf 0 (by omega)]⟩ ?_ n9 ?_ ?_ (by rw [hL, up_s]) ?_) ?_
  · rw [e24, e23, l3, lf 37 (by omega) (by omega) (by omega)]
    exact nq
  · exact ⟨by rw [lf 37 (by omega) (by omega) (by omega)]; exact a37, b37⟩
  · exact ⟨l3, by omega⟩
  · rw [e24, hL]
    funext j
    rw [up_n (by omega), sr_s, kk 500124 (by omega) (by omega) (by omega)]
  · rw [hL, up_n (by omega), sr_n (by omega), up_n (by omega), up_s]
