/-! public methods, 11: days that go by -/
theorem it2_sh {I : Iv} {nV nC : Nat} {P : Pm} {q : (Nat → Int32) × Int32} {a : Nat} : ∀ b, it2 I nV nC P (it2 I nV nC P q a) b = it2 I nV nC P q (a + b)
  | 0 => rfl
  | b + 1 => by
    show st2 I nV nC P (it2 I nV nC P (it2 I nV nC P q a) b) = st2 I nV nC P (it2 I nV nC P q (a + b))
    rw [it2_sh b]
theorem gR_add {I : Iv} {nV nC : Nat} {P : Pm} {r : Nat → Int32} {a b : Nat} (h : P.2.2.2 = nI 0) : gR I nV nC P (gR I nV nC P r a) b = gR I nV nC P r (a + b) := by
  rw [← gR_of (x := (it2 I nV nC P (r, nI 0) a).2) h b]
  show (it2 I nV nC P (it2 I nV nC P (r, nI 0) a) b).1 = _
  rw [it2_sh]
  rfl
theorem itR_sh {I : Iv} {nV nC : Nat} {q : (Nat → Int32) × Int32} : ∀ b, itR I nV nC (st1 I nV nC q) b = itR I nV nC q (b + 1)
  | 0 => rfl
  | b + 1 => by
    show st1 I nV nC (itR I nV nC (st1 I nV nC q) b) = st1 I nV nC (itR I nV nC q (b + 1))
    rw [itR_sh b]
theorem dyR_it {I : Iv} {nV nC : Nat} : ∀ (x m n : Nat) (q : (Nat → Int32) × Int32), (∀ j, j ≤ m → (itR I nV nC q j).1 501 = nI (n + j)) → m ≤ x → n + m ≤ 999 → (m = x ∨ n + m = 999) → dyR I nV nC x q = (itR I nV nC q m, m)
  | 0, m, n, q, _, h1, _, _ => by
    have : m = 0 := by omega
    subst this
    rfl
  | x + 1, 0, n, q, h, h1, h2, h3 => by
    have e : q.1 501 = nI (n + 0) := h 0 (Nat.le_refl _)
    have : ¬ q.1 501 < nI 999 := by
      rw [e, nI_ltI (by omega) (by decide)]
      omega
    show (if q.1 501 < nI 999 then _ else (q, 0)) = _
    rw [if_neg this]
    rfl
  | x + 1, m + 1, n, q, h, h1, h2, h3 => by
    have e : q.1 501 = nI (n + 0) := h 0 (Nat.zero_le _)
    have : q.1 501 < nI 999 := by
      rw [e, nI_ltI (by omega) (by decide)]
      omega
    have ih := dyR_it x m (n + 1) (st1 I nV nC q) (fun j hj => by rw [itR_sh, h (j + 1) (by omega), show n + (j + 1) = n + 1 + j by omega]) (by omega) (by omega) (by omega)
    show (if q.1 501 < nI 999 then ((dyR I nV nC x (st1 I nV nC q)).1, (dyR I nV nC x (st1 I nV nC q)).2 + 1) else (q, 0)) = _
    rw [if_pos this, ih, itR_sh]
section XRm
variable {Γ : Gm} {l : Launch} {b : Bool} {d : Nat} {I J K L : Iv} {E F : Ev} {kr : Kr} {kx : Kxx} {t n n0 p c q tp im rw' z kb g : Nat} {S : Tn} {PS : Nat → List Pt} {op mk nim : Nat → Nat} {bk : List (Nat × Nat)} {r0 gr : Nat → Int32} {pl co : Int32}
theorem x_nday (hG : GX Γ) (hA : TwR b K E S PS t op) (hN : NQ K 71 S n (gR I S.1.1 S.1.2 (plS pl, coS co, snG I, nI 0) r0 g) pl co gr) (hM : MT I S) (hI : SayT I K) (hg : ∀ v, v < 9 → gr v = I 500123 v) (hn : n ≤ 1900)
    (hk : ∀ L, XF 71 K L → TwR b L E S PS t op → SayT I L → NQ L 71 S (n + 1) (gR I S.1.1 S.1.2 (plS pl, coS co, snG I, nI 0) r0 (g + 1)) pl co gr → kr none L E) : Ex Γ l (shB b) (d + 5) (0, 0) mAq_goDay [.ref 3, .ref 71] K E kr kx := by
  obtain ⟨hA1, hM1, hVS, hMO⟩ := id hA
  have hy : idY 71 := Or.inr (Or.inr rfl)
  have hC := hA1.c hy
  have hO := hA1.e hy
  have hS := hA1.2.2.2.1
  obtain ⟨hD1, h16, hPm, hPv⟩ := hN.s hS
  refine x_goDay (op := op) (PS := PS) (pk := pkS S) hG hC hD1.1 hA1.2.2.1 hS hD1.2.1 (by omega) hO (pkS_h hM1 hS hMO) (fun L hK => ?_)
  have hop : ∀ v, v < S.1.1 → op v + 2 < 71 ∨ 71 + 8 ≤ op v := fun v hv => (hO v hv).2.2.1.2.1
  obtain ⟨r1, r2, r3, r4, r5⟩ := day_rel hM1 hS hMO hD1 hn hC.2.2.2.1 hop hPv hK
  have hXF : XF 71 K L := fun i a c e => r5 i (by omega) (by omega) (by omega) (by omega) c (fun v hv z => e ⟨op v, hA1.2.2.2.2.2.1 v (by have := hS.1; omega), z⟩)
  obtain ⟨-, n10, n11, n6, n14, n17⟩ := hN
  refine hk L hXF (hA.xf hy hXF) (hI.tr (hXF.t hy)) ⟨?_, by rw [r3 10 (by decide)]; exact n10, by rw [r3 11 (by decide)]; exact n11, fun v hv => by rw [r4]; exact n6 v hv, by rw [r3 14 (by decide)]; exact n14, by rw [r3 17 (by decide)]; exact n17⟩
  have hP : Pe S.1.1 (PmD K 71 S) (plS pl, coS co, snG I, nI 0) := NQ.pe hS ⟨hD1, n10, n11, n6, n14, n17⟩ hM hg
  rw [st2_t hI hS.1 hS.2.1, st2_pe hP, st2_dry (y := nI 0) rfl] at r1
  rw [gR_s rfl]
  exact r1
theorem mk_note {G : Nat → Nat → Int32} {p0 : Nat} (h9 : S.1.1 ≤ 9) (hD : DiE true F q mk) (hp : p0 < q) (hC : CpD K L (mk p0) 71) (hN : NQ K 71 S (n0 + 32 * p0) (G (32 * p0)) pl co gr) (hm : ∀ a, a < p0 → NQ K (mk a) S (n0 + 32 * a) (G (32 * a)) pl co gr) : ∀ a, a ≤ p0 → NQ L (mk a) S (n0 + 32 * a) (G (32 * a)) pl co gr := by
  intro a ha
  by_cases e : a = p0
  · subst e
    exact hN.cp h9 hC
  · have := hD.2.2.2 a p0 (by omega) hp e
    exact (hm a (by omega)).mv h9 (fun i x y => hC.1 i (by omega))
theorem GS.dy {q' : Nat} (r1 : R1 J E S PS t op) (r2 : R2 J E bk kb) (r3 : R3 J S n p c) (r5 : R5 J S im nim) (r6 : R6 J tp) (r7 : R7 J) (r8 : R8 J S bk) (r9 : R9 E rw' z) (hfr : ∀ i, i < 1000000 → ¬ (16 ≤ i ∧ i ≤ 19) → ¬ idV i → ¬ (71 ≤ i ∧ i < 79) → K i = J i) (hN : NQ K 71 S (n0 + g) (gR J S.1.1 S.1.2 (pmN J) (J 500125) g) (J 500000 37) (J 500000 38) (J 500123)) (hg : n0 + g ≤ 999) (hDi : DiE true F q' mk) (hgq : g < 32 * q') (hE : EX true (fun a _ => a = 80) E F) (h9 : tyc shN F 999999 = 0) (hmk : ∀ a, 32 * a ≤ g → NQ K (mk a) S (n0 + 32 * a) (gR J S.1.1 S.1.2 (pmN J) (J 500125) (32 * a)) (J 500000 37) (J 500000 38) (J 500123)) (h79 : J 79 1 = nI n0) (hL1 : ∀ i, i ≠ 500000 → i ≠ 500124 → ¬ scA i → L i = K i) (hL2 : ∀ j, ¬ scF j → j ≠ 39 → L 500000 j = K 500000 j) (h24 : L 500124 = gR J S.1.1 S.1.2 (pmN J) (J 500125) g) (h39 : L 500000 39 = nI g) : GS q' z L F := by
  have hS := r1.1.1.2.2.2.1
  have s9 := hS.1
  have md : ∀ i, 500000 ≤ i → i < 1000000 → K i = J i := fun i a e => hfr i e (by omega) (idV_n (by omega)) (by omega)
  have cl : ∀ i, i < 500000 → ¬ (16 ≤ i ∧ i ≤ 19) → ¬ (i = 22 ∨ i = 25 ∨ i = 28 ∨ i = 31 ∨ i = 34 ∨ i = 37 ∨ i = 40 ∨ i = 43 ∨ i = 46 ∨ i = 96) → ¬ (71 ≤ i ∧ i < 79) → L i = J i := fun i a e f g => by rw [hL1 i (by omega) (by omega) (scA_n (by omega)), hfr i (by omega) e (idV_n f) g]
  have ml : ∀ i, 500000 < i → i < 1000000 → i ≠ 500124 → ¬ scA i → L i = J i := fun i a e f g => by rw [hL1 i (by omega) f g, md i (by omega) e]
  have lf : ∀ j, ¬ scF j → j ≠ 39 → L 500000 j = J 500000 j := fun j a e => by rw [hL2 j a e, md 500000 (by omega) (by omega)]
  have hRF : RF J L := by
    refine ⟨fun i hi => ?_, lf 1 (by unfold scF; omega) (by omega), lf 3 (by unfold scF; omega) (by omega), lf 36 (by unfold scF; omega) (by omega)⟩
    unfold Rk tw at hi
    rcases hi with h | ⟨o, ho, h⟩ | h | h | h | h | h | h | h | h | h
    · exact cl i (by omega) (by omega) (by omega) (by omega)
    · unfold idO at ho
      exact cl i (by omega) (by omega) (by omega) (by omega)
    · exact cl i (by omega) (by omega) (by omega) (by omega)
    · exact cl i (by omega) (by omega) (by omega) (by omega)
    · exact cl i (by omega) (by omega) (by omega) (by omega)
    · exact cl i (by omega) (by omega) (by omega) (by omega)
    all_goals exact ml i (by omega) (by omega) (by omega) (by unfold scA; omega)
  obtain ⟨-, n9, a37, b37, a38, b38⟩ := id r3
  have l37 := lf 37 (by unfold scF; omega) (by omega)
  have l38 := lf 38 (by unfold scF; omega) (by omega)
  have l23 : L 500123 = J 500123 := ml 500123 (by omega) (by omega) (by omega) (by unfold scA; omega)
  have l25 : L 500125 = J 500125 := ml 500125 (by omega) (by omega) (by omega) (by unfold scA; omega)
  have gg : ∀ m, gR L S.1.1 S.1.2 (pmN L) (L 500125) m = gR J S.1.1 S.1.2 (pmN J) (J 500125) m := fun m => by rw [l25, g_N hS hRF.t l23 l37 l38]
  refine GS.re (n := n0 + g) (n0 := n0) (p := p) (c := c) (mk := mk) (im := im) (nim := nim) r1 r2 r6 r8 r9 hE h9 hRF ⟨⟨SayT.rf, ?_⟩, hg, by rw [l37]; exact a37, b37, by rw [l38]; exact a38, b38⟩ ⟨hDi, by omega, ?_, by omega, by omega, by rw [h39, Nat.add_sub_cancel_left], by rw [Nat.add_sub_cancel_left, gg]; exact h24, fun a ha => ?_⟩ (r5.cg s9 (Nat.le_refl _) (by rw [cl 0 (by omega) (by omega) (by omega) (by omega)]; exact r5.1) (by rw [lf 40 (by unfold scF; omega) (by omega)]; exact r5.2.2.1) (fun i a e => cl i (by omega) (by omega) (by omega) (by omega)) (fun m hm => ml _ (by omega) (by omega) (by omega) (by unfold scA; omega))) ?_
  · rw [h24, l37, l38, l23]
    exact hN.mv s9 (fun i a e => hL1 i (by omega) (by omega) (scA_n (by omega)))
  · rw [cl 79 (by omega) (by omega) (by omega) (by omega)]
    exact h79
  · rw [Nat.add_sub_cancel_left] at ha
    have hma := (hDi.2.1 a (by omega)).2.2
    rw [gg, l37, l38, l23]
    exact (hmk a ha).mv s9 (fun i a e => hL1 i (by omega) (by omega) (scA_n (by omega)))
  · unfold R7
    rw [cl 0 (by omega) (by omega) (by omega) (by omega), ml 500002 (by omega) (by omega) (by omega) (by unfold scA; omega)]
    exact r7
theorem TwR.dy (h : TwR true J E S PS t op) (hE : EX true (fun a _ => a = 80) E F) (hfr : ∀ i, i < 1000000 → ¬ (16 ≤ i ∧ i ≤ 19) → ¬ idV i → ¬ (71 ≤ i ∧ i < 79) → K i = J i) : TwR true K F S PS t op ∧ SayT J K := by
  have hT : SayT J K := fun i hi => hfr i (by unfold tw at hi; omega) (by unfold tw at hi; omega) (idV_n (by unfold tw at hi; omega)) (by unfold tw at hi; omega)
  refine ⟨(h.mv (fun i hi => ?_) hT).ex hE (by decide) (fun _ _ => by decide), hT⟩
  rcases hi with hi | hi | ⟨o, ho, hi⟩
  · exact hfr i (by omega) (by omega) (idV_n (by omega)) (by omega)
  · exact hfr i (by omega) (by omega) (idV_n (by omega)) (by omega)
  · unfold idO at ho
    exact hfr i (by omega) (by omega) (idV_n (by omega)) (by omega)
end XRm

theorem g_days {q z : Nat} {J : Iv} {E : Ev} {x : Int32} (h : GS q z J E) : StX1 mH_days mM_days [.int x] 1 q z J E := by
  have hG0 := h
  obtain ⟨S, PS, t, op, bk, kb, n, n0, p, c, mk, tp, im, nim, rw', r1, r2, r3, r4, r5, r6, r7, r8, r9⟩ := h
  have hS := r1.1.1.2.2.2.1
  have s9 := hS.1
  have hVS := r1.1.2.2.1
  have hq32 := r4.1.1
  obtain ⟨g3, hT, hXt, -⟩ := id r1.1.1
  have tT : tyc shN E t = 10 := (hT.A (b := true) (E := E)).1
  have v7 := hXt.1
  have h40 := hVS.1
  have hD := r3.1.2.1
  have ty71 : tyc shN E 71 = 3 := dyA_71.1
  obtain ⟨-, ⟨y0, y1, y2, y3, y4, y5, y6⟩, ⟨b1, b2, b3, b4, b5, b6, b7⟩, l1, l2, l3, l4, l5, l6, l7⟩ := (dyA_71 (b := true) (E := E))
  have hm0 := (r4.1.2.1 0 (by have := r4.2.1; omega)).2.2
  obtain ⟨-, n9, a37, b37, a38, b38⟩ := id r3
  have en : J 71 9 = nI n := hD.2.1
  by_cases hin : nI 1 ≤ x ∧ x ≤ nI 99
  rotate_left
  · refine ⟨(1, 6), q, z, Cst.x, hq32, fun Γ l d kr kx hG _ hxI => ?_⟩
    refine ex_of (ls0 := [some (.ref 0), some (.int x), none]) tH_days (by decide +kernel) kH_days rfl (Nat.le_of_ble_eq_true rfl) rfl ?_
    intro go hgo
    refine hgo 20 [10] 0 _ _ _ _ _ ?_
    simp only [ixr_of, run_s, run_0, rH_days, rok_i, rok_z, bx_cons, bx_nil, eBP, eC0, eC1, eCV1, eCV3, eGI, eGO, eGR, jICge, eINC2, eLA0, eLI1, eLI2, eRI, eSI2, eSP, fH_days_0, fH_days_10, fH_days_15, fH_days_28, fH_days_56, bH_days_0, bH_days_10, bH_days_15, bH_days_28, bH_days_56, ln_ximages, ln_xthought, rg_xmain_0, rg_xmain_1, rg_xmain_10, rg_xmain_2, rg_xmain_3, rg_xmain_4, rg_xmain_5, rg_xmain_6, rg_xmain_7, ty_xaqueduct, ty_xdiary, ty_xforesight, ty_ximages, ty_xmain, ty_xnow, ty_xopinionReader, ty_xtape, ty_xtasters, ty_xthought, Option.toList_some, Option.toList_none, List.cons_append, List.nil_append, List.length_cons, List.length_nil, List.mem_cons, List.not_mem_nil, or_false, false_or, or_true, true_or, ↓reduceIte, true_and, and_true, Nat.reduceEqDiff, Nat.reduceAdd, Nat.reduceLeDiff, Nat.reduceLT, dl_i, dl_r, dl_n, dl_u, eq_self, not_true_eq_false, not_false_eq_true, n10, n01, nm0, n0m, imp_t, imp_f]
    refine ⟨1, 6, fun _ => Nat.le_refl _, fun _ => Nat.le_refl _, x_needInX hG.1.1 hG.2.1 hG.2.2 hin (hxI _ _ (fun Γ l d kr kx hk => ?_))⟩
    exact c_days (hVS.t say0) (fun _ => hk _ (hG0.rf (rn := 1) (w := 1) (by decide)).1.un (hG0.rf (rn := 1) (w := 1) (by decide)).2) (fun k a b e => absurd (by rw [e]; exact rgI (by omega) (by omega) (by decide)) hin)
  obtain ⟨k0, hk1, hk9, rfl⟩ := rng1 (by decide) hin
  obtain ⟨d1, d2, d3, d4, d5, d6, d7, d8⟩ := id r4
  obtain ⟨G, hGd⟩ : ∃ G, G = gR J S.1.1 S.1.2 (pmN J) (J 500125) := ⟨_, rfl⟩
  obtain ⟨m, hm⟩ : ∃ m, m = min k0 (999 - n) := ⟨_, rfl⟩
  have hmk : m ≤ k0 ∧ n + m ≤ 999 ∧ (m = k0 ∨ n + m = 999) := by omega
  obtain ⟨g0, hg0⟩ : ∃ g0, g0 = n - n0 := ⟨_, rfl⟩
  have en0 : n = n0 + g0 := by omega
  obtain ⟨q', hq'⟩ : ∃ q', q' = max q ((g0 + m) / 32 + 1) := ⟨_, rfl⟩
  have hqq : q ≤ q' ∧ (g0 + m) / 32 + 1 ≤ q' ∧ q' ≤ 32 := by omega
  refine ⟨(8 * (q' - q), 526 * (q' - q)), q', z, by unfold Cst; dsimp only; omega, hqq.2.2, fun Γ l d kr kx hG hk _ => ?_⟩
  refine ex_of (ls0 := [some (.ref 0), some (.int (nI k0)), none]) tH_days (by decide +kernel) kH_days rfl (Nat.le_of_ble_eq_true rfl) rfl ?_
  intro go hgo
  have fin : ∀ (K : Iv) (F : Ev) (mk' : Nat → Nat), (∀ i, i < 1000000 → ¬ (16 ≤ i ∧ i ≤ 19) → ¬ idV i → ¬ (71 ≤ i ∧ i < 79) → K i = J i) → NQ K 71 S (n0 + (g0 + m)) (G (g0 + m)) (J 500000 37) (J 500000 38) (J 500123) → DiE true F q' mk' → EX true (fun a _ => a = 80) E F → tyc shN F 999999 = 0 → (∀ a, 32 * a ≤ g0 + m → NQ K (mk' a) S (n0 + 32 * a) (G (32 * a)) (J 500000 37) (J 500000 38) (J 500123)) → (∀ g, g0 ≤ g → g ≤ g0 + m → G g 501 = nI (n0 + g)) → kr (some (.int (nI (n + m)))) K F := by
    intro K F mk' hfr hN hDi hE h9 hmk' h501
    have md : ∀ i, 500000 ≤ i → i < 1000000 → K i = J i := fun i a e => hfr i e (by omega) (idV_n (by omega)) (by omega)
    have hms : Ms J K := md
    have gk : ∀ j x, (itR (asN K) S.1.1 S.1.2 (K 500124, x) j).1 = G (g0 + j) := fun j x => by
      rw [it_as hS, md 500124 (by omega) (by omega), hms.g hS (pmX_N s9 hms), d7, gR_add rfl, hGd, ← hg0]
    refine hk _ K F (fun Γ l d kr kx hk2 => c_days (hVS.t hms.t) (fun c => absurd hin c) (fun k' a1 a2 a3 L hf hr => ?_))
    rw [nI_eq (by omega) (by omega)] at a3
    subst a3
    have dr := dyR_it (I := asN K) (nV := S.1.1) (nC := S.1.2) k0 m n (K 500124, K 500000 48) (fun j hj => by rw [gk, h501 _ (by omega) (by omega), en0, Nat.add_assoc]) hmk.1 hmk.2.1 hmk.2.2
    rw [dr] at hf hr ⊢
    dsimp only at hf hr ⊢
    have hM0 : MP K (up (asN K) 500000 0 (nI 0)) := MP.as.tr (MP.fl (by unfold scF; omega))
    rw [gk, h501 _ (by omega) (by omega), show n0 + (g0 + m) = n + m by omega]
    have l1 : ∀ i, i ≠ 500000 → i ≠ 500124 → ¬ scA i → L i = K i := fun i a e f => by
      rw [hf.1 i e (by unfold scA at f; omega) (by unfold scA at f; omega) (by unfold scA at f; omega) (by unfold scA at f; omega) a, ← hM0.1 i a f]
      funext j
      exact up_n (by omega)
    have l2 : ∀ j, ¬ scF j → j ≠ 39 → L 500000 j = K 500000 j := fun j a e => by
      rw [hf.2 j (by unfold scF at a; omega), up_n (by omega), hM0.2 j a]
    have l24 : L 500124 = G (g0 + m) := by
      rw [← gk m (K 500000 48), ← hr]
    have l39 : L 500000 39 = nI (g0 + m) := by
      rw [hf.2 39 (by decide), up_s, md 500000 (by omega) (by omega), d6, nI_add, ← hg0]
    have l0 : L 500000 0 = nI 0 := by rw [hf.2 0 (by decide), up_n (by omega), up_s]
    subst hGd
    exact hk2 L (GS.dy r1 r2 r3 r5 r6 r7 r8 r9 hfr hN (by omega) hDi (by omega) hE h9 hmk' d3 l1 l2 l24 l39) l0
  have loop : ∀ (r k qk : Nat) (K : Iv) (F : Ev) (mk' : Nat → Nat) (u : Uv), r + k = m → q ≤ qk → (g0 + k) / 32 + 1 ≤ qk → (qk = q ∨ qk = (g0 + k) / 32 + 1) → u = (8 * (qk - q), 526 * (qk - q)) → (∀ i, i < 1000000 → ¬ (16 ≤ i ∧ i ≤ 19) → ¬ idV i → ¬ (71 ≤ i ∧ i < 79) → K i = J i) → NQ K 71 S (n0 + (g0 + k)) (G (g0 + k)) (J 500000 37) (J 500000 38) (J 500123) → DiE true F qk mk' → EX true (fun a _ => a = 80) E F → tyc shN F 999999 = 0 → (∀ a, 32 * a ≤ g0 + k → NQ K (mk' a) S (n0 + 32 * a) (G (32 * a)) (J 500000 37) (J 500000 38) (J 500123)) → (∀ g, g0 ≤ g → g ≤ g0 + k → G g 501 = nI (n0 + g)) → go 10 [some (.ref 0), some (.int (nI k0)), some (.int (nI k))] [] K F u := by
    intro r
    induction r with
    | zero =>
      intro k qk K F mk' u hr hq1 hq2 hq3 hu hfr hN hDi hE h9 hmk' h501
      have : k = m := by omega
      subst this
      have : qk = q' := by omega
      subst this
      have ty71 : tyc shN F 71 = 3 := dyA_71.1
      have e9 : K 71 9 = nI (n + k) := by rw [hN.1.2.1, show n0 + (g0 + k) = n + k by omega]
      have hf := fin K F mk' hfr hN hDi hE h9 hmk' h501
      refine hgo 20 [10] 10 _ _ _ _ _ ?_
      by_cases z1 : k = k0
      · have c1 : (nI k0 ≤ nI k) = True := by rw [z1]; exact eq_true (Int32.le_refl _)
        simp only [ixr_of, run_s, run_0, rH_days, rok_i, rok_z, bx_cons, bx_nil, eBP, eC0, eC1, eCV1, eCV3, eGI, eGO, eGR, jICge, eINC2, eLA0, eLI1, eLI2, eRI, eSI2, eSP, fH_days_0, fH_days_10, fH_days_15, fH_days_28, fH_days_56, bH_days_0, bH_days_10, bH_days_15, bH_days_28, bH_days_56, ln_ximages, ln_xthought, rg_xmain_0, rg_xmain_1, rg_xmain_10, rg_xmain_2, rg_xmain_3, rg_xmain_4, rg_xmain_5, rg_xmain_6, rg_xmain_7, ty_xaqueduct, ty_xdiary, ty_xforesight, ty_ximages, ty_xmain, ty_xnow, ty_xopinionReader, ty_xtape, ty_xtasters, ty_xthought, Option.toList_some, Option.toList_none, List.cons_append, List.nil_append, List.length_cons, List.length_nil, List.mem_cons, List.not_mem_nil, or_false, false_or, or_true, true_or, ↓reduceIte, true_and, and_true, Nat.reduceEqDiff, Nat.reduceAdd, Nat.reduceLeDiff, Nat.reduceLT, dl_i, dl_r, dl_n, dl_u, eq_self, not_true_eq_false, not_false_eq_true, n10, n01, nm0, n0m, c1, ty71, e9, imp_t, imp_f]
        exact hf
      · have c1 : (nI k0 ≤ nI k) = False := by rw [nIl (by omega) (by omega)]; exact eq_false (by omega)
        have c2 : (nI 999 ≤ nI (n + k)) = True := by rw [nIl (by omega) (by omega)]; exact eq_true (by omega)
        simp only [ixr_of, run_s, run_0, rH_days, rok_i, rok_z, bx_cons, bx_nil, eBP, eC0, eC1, eCV1, eCV3, eGI, eGO, eGR, jICge, eINC2, eLA0, eLI1, eLI2, eRI, eSI2, eSP, fH_days_0, fH_days_10, fH_days_15, fH_days_28, fH_days_56, bH_days_0, bH_days_10, bH_days_15, bH_days_28, bH_days_56, ln_ximages, ln_xthought, rg_xmain_0, rg_xmain_1, rg_xmain_10, rg_xmain_2, rg_xmain_3, rg_xmain_4, rg_xmain_5, rg_xmain_6, rg_xmain_7, ty_xaqueduct, ty_xdiary, ty_xforesight, ty_ximages, ty_xmain, ty_xnow, ty_xopinionReader, ty_xtape, ty_xtasters, ty_xthought, Option.toList_some, Option.toList_none, List.cons_append, List.nil_append, List.length_cons, List.length_nil, List.mem_cons, List.not_mem_nil, or_false, false_or, or_true, true_or, ↓reduceIte, true_and, and_true, Nat.reduceEqDiff, Nat.reduceAdd, Nat.reduceLeDiff, Nat.reduceLT, dl_i, dl_r, dl_n, dl_u, eq_self, not_true_eq_false, not_false_eq_true, n10, n01, nm0, n0m, c1, c2, ty71, e9, imp_t, imp_f]
        exact hf
    | succ r ih =>
      intro k qk K F mk' u hr hq1 hq2 hq3 hu hfr hN hDi hE h9 hmk' h501
      have ty71 : tyc shN F 71 = 3 := dyA_71.1
      have e9 : K 71 9 = nI (n + k) := by rw [hN.1.2.1, show n0 + (g0 + k) = n + k by omega]
      have c1 : (nI k0 ≤ nI k) = False := by rw [nIl (by omega) (by omega)]; exact eq_false (by omega)
      have c2 : (nI 999 ≤ nI (n + k)) = False := by rw [nIl (by omega) (by omega)]; exact eq_false (by omega)
      obtain ⟨hA, hT⟩ := r1.1.dy hE hfr
      refine hgo 20 [10] 10 _ _ _ _ _ ?_
      simp only [ixr_of, run_s, run_0, rH_days, rok_i, rok_z, bx_cons, bx_nil, eBP, eC0, eC1, eCV1, eCV3, eGI, eGO, eGR, jICge, eINC2, eLA0, eLI1, eLI2, eRI, eSI2, eSP, fH_days_0, fH_days_10, fH_days_15, fH_days_28, fH_days_56, bH_days_0, bH_days_10, bH_days_15, bH_days_28, bH_days_56, ln_ximages, ln_xthought, rg_xmain_0, rg_xmain_1, rg_xmain_10, rg_xmain_2, rg_xmain_3, rg_xmain_4, rg_xmain_5, rg_xmain_6, rg_xmain_7, ty_xaqueduct, ty_xdiary, ty_xforesight, ty_ximages, ty_xmain, ty_xnow, ty_xopinionReader, ty_xtape, ty_xtasters, ty_xthought, Option.toList_some, Option.toList_none, List.cons_append, List.nil_append, List.length_cons, List.length_nil, List.mem_cons, List.not_mem_nil, or_false, false_or, or_true, true_or, ↓reduceIte, true_and, and_true, Nat.reduceEqDiff, Nat.reduceAdd, Nat.reduceLeDiff, Nat.reduceLT, dl_i, dl_r, dl_n, dl_u, eq_self, not_true_eq_false, not_false_eq_true, n10, n01, nm0, n0m, c1, c2, ty71, e9, imp_t, imp_f]
      rw [hGd] at hN
      refine call0 (x_nday hG.1 hA hN r1.1.2.1 hT (fun v _ => rfl) (by omega) (fun L hX hA2 hT2 hN2 => ?_))
      rw [show gR J S.1.1 S.1.2 (plS (J 500000 37), coS (J 500000 38), snG J, nI 0) (J 500125) (g0 + k + 1) = G (g0 + (k + 1)) by rw [hGd]; rfl, show n0 + (g0 + k) + 1 = n0 + (g0 + (k + 1)) by omega] at hN2
      simp only [ixr_of, run_s, run_0, rH_days, rok_i, rok_z, bx_cons, bx_nil, eBP, eC0, eC1, eCV1, eCV3, eGI, eGO, eGR, jICge, eINC2, eLA0, eLI1, eLI2, eRI, eSI2, eSP, fH_days_0, fH_days_10, fH_days_15, fH_days_28, fH_days_56, bH_days_0, bH_days_10, bH_days_15, bH_days_28, bH_days_56, ln_ximages, ln_xthought, rg_xmain_0, rg_xmain_1, rg_xmain_10, rg_xmain_2, rg_xmain_3, rg_xmain_4, rg_xmain_5, rg_xmain_6, rg_xmain_7, ty_xaqueduct, ty_xdiary, ty_xforesight, ty_ximages, ty_xmain, ty_xnow, ty_xopinionReader, ty_xtape, ty_xtasters, ty_xthought, Option.toList_some, Option.toList_none, List.cons_append, List.nil_append, List.length_cons, List.length_nil, List.mem_cons, List.not_mem_nil, or_false, false_or, or_true, true_or, ↓reduceIte, true_and, and_true, Nat.reduceEqDiff, Nat.reduceAdd, Nat.reduceLeDiff, Nat.reduceLT, dl_i, dl_r, dl_n, dl_u, eq_self, not_true_eq_false, not_false_eq_true, n10, n01, nm0, n0m, imp_t, imp_f]
      have hfr2 : ∀ i, i < 1000000 → ¬ (16 ≤ i ∧ i ≤ 19) → ¬ idV i → ¬ (71 ≤ i ∧ i < 79) → L i = J i := fun i a1 a2 a3 a4 => by rw [hX i a2 (by omega) a3, hfr i a1 a2 a3 a4]
      have hmk2 : ∀ a, 32 * a ≤ g0 + k → NQ L (mk' a) S (n0 + 32 * a) (G (32 * a)) (J 500000 37) (J 500000 38) (J 500123) := fun a ha => (hmk' a ha).mv s9 (fun i e f => by
        have := (hDi.2.1 a (by omega)).2.2
        exact hX i (by omega) (by omega) (idV_n (by omega)))
      have h502 : ∀ g, g0 ≤ g → g ≤ g0 + (k + 1) → G g 501 = nI (n0 + g) := fun g a e => by
        by_cases z : g = g0 + (k + 1)
        · rw [z]
          exact hN2.1.2.2.1
        · exact h501 g a (by omega)
      have e79 : L 79 1 = nI n0 := by rw [hfr2 79 (by omega) (by omega) (idV_n (by omega)) (by omega)]; exact d3
      have upd : ∀ (L2 : Iv), CpD L L2 (mk' ((g0 + (k + 1)) / 32)) 71 → True := fun _ _ => trivial
      have n71 : ∀ (L2 : Iv) (y : Nat), 1000000 ≤ y → CpD L L2 y 71 → (∀ i, i < 1000000 → L2 i = L i) := fun L2 y hy hC i hi => hC.1 i (by omega)
      by_cases zc : (g0 + (k + 1)) % 32 = 0 ∧ (g0 + (k + 1)) / 32 = qk
      · refine ⟨8, 526, fun _ => by rw [hu]; dsimp only; omega, fun _ => by rw [hu]; dsimp only; omega, x_note (M := (8, 526)) hDi e79 hN2.1.2.1 (by omega) (by omega) (by omega) h9 (fun _ _ => ⟨Nat.le_refl _, Nat.le_refl _⟩) (fun c => absurd zc.1 c) (fun _ c => absurd zc.2 (by omega)) (fun _ _ L2 F2 y hy hfy hE2 hDi2 h92 _ hC => ?_)⟩
        simp only [ixr_of, run_s, run_0, rH_days, rok_i, rok_z, bx_cons, bx_nil, eBP, eC0, eC1, eCV1, eCV3, eGI, eGO, eGR, jICge, eINC2, eLA0, eLI1, eLI2, eRI, eSI2, eSP, fH_days_0, fH_days_10, fH_days_15, fH_days_28, fH_days_56, bH_days_0, bH_days_10, bH_days_15, bH_days_28, bH_days_56, ln_ximages, ln_xthought, rg_xmain_0, rg_xmain_1, rg_xmain_10, rg_xmain_2, rg_xmain_3, rg_xmain_4, rg_xmain_5, rg_xmain_6, rg_xmain_7, ty_xaqueduct, ty_xdiary, ty_xforesight, ty_ximages, ty_xmain, ty_xnow, ty_xopinionReader, ty_xtape, ty_xtasters, ty_xthought, Option.toList_some, Option.toList_none, List.cons_append, List.nil_append, List.length_cons, List.length_nil, List.mem_cons, List.not_mem_nil, or_false, false_or, or_true, true_or, ↓reduceIte, true_and, and_true, Nat.reduceEqDiff, Nat.reduceAdd, Nat.reduceLeDiff, Nat.reduceLT, dl_i, dl_r, dl_n, dl_u, eq_self, not_true_eq_false, not_false_eq_true, n10, n01, nm0, n0m, nI_add, imp_t, imp_f]
        have h32 : 32 * qk = g0 + (k + 1) := by omega
        have f2 := n71 L2 y hy hC
        refine ih (k + 1) (qk + 1) L2 F2 (fun p => if p = qk then y else mk' p) _ (by omega) (by omega) (by omega) (by omega) (by rw [hu]; dsimp only; congr 1 <;> omega) (fun i a1 a2 a3 a4 => by rw [f2 i a1, hfr2 i a1 a2 a3 a4]) (hN2.mv s9 (fun i a e => f2 i (by omega))) hDi2 (hE.tr (hE2.mono (fun a j h => h.1))) h92 (fun a ha => ?_) h502
        have hD9 := hDi2
        refine mk_note (q := qk + 1) (mk := fun p => if p = qk then y else mk' p) (p0 := qk) s9 hDi2 (by omega) (by rw [if_pos rfl]; exact hC) (by rw [h32]; exact hN2) (fun a ha' => ?_) a (by omega)
        rw [if_neg (by omega)]
        exact hmk2 a (by omega)
      · refine call0 (x_note hDi e79 hN2.1.2.1 (by omega) (by omega) (by omega) h9 (fun a e => absurd ⟨a, e⟩ zc) (fun hz => ?_) (fun hz hz2 L2 hC => ?_) (fun a e => absurd ⟨a, e⟩ zc))
        · simp only [ixr_of, run_s, run_0, rH_days, rok_i, rok_z, bx_cons, bx_nil, eBP, eC0, eC1, eCV1, eCV3, eGI, eGO, eGR, jICge, eINC2, eLA0, eLI1, eLI2, eRI, eSI2, eSP, fH_days_0, fH_days_10, fH_days_15, fH_days_28, fH_days_56, bH_days_0, bH_days_10, bH_days_15, bH_days_28, bH_days_56, ln_ximages, ln_xthought, rg_xmain_0, rg_xmain_1, rg_xmain_10, rg_xmain_2, rg_xmain_3, rg_xmain_4, rg_xmain_5, rg_xmain_6, rg_xmain_7, ty_xaqueduct, ty_xdiary, ty_xforesight, ty_ximages, ty_xmain, ty_xnow, ty_xopinionReader, ty_xtape, ty_xtasters, ty_xthought, Option.toList_some, Option.toList_none, List.cons_append, List.nil_append, List.length_cons, List.length_nil, List.mem_cons, List.not_mem_nil, or_false, false_or, or_true, true_or, ↓reduceIte, true_and, and_true, Nat.reduceEqDiff, Nat.reduceAdd, Nat.reduceLeDiff, Nat.reduceLT, dl_i, dl_r, dl_n, dl_u, eq_self, not_true_eq_false, not_false_eq_true, n10, n01, nm0, n0m, nI_add, imp_t, imp_f]
          refine ih (k + 1) qk L F mk' u (by omega) hq1 (by omega) (by omega) hu hfr2 hN2 hDi hE h9 (fun a ha => hmk2 a (by omega)) h502
        · simp only [ixr_of, run_s, run_0, rH_days, rok_i, rok_z, bx_cons, bx_nil, eBP, eC0, eC1, eCV1, eCV3, eGI, eGO, eGR, jICge, eINC2, eLA0, eLI1, eLI2, eRI, eSI2, eSP, fH_days_0, fH_days_10, fH_days_15, fH_days_28, fH_days_56, bH_days_0, bH_days_10, bH_days_15, bH_days_28, bH_days_56, ln_ximages, ln_xthought, rg_xmain_0, rg_xmain_1, rg_xmain_10, rg_xmain_2, rg_xmain_3, rg_xmain_4, rg_xmain_5, rg_xmain_6, rg_xmain_7, ty_xaqueduct, ty_xdiary, ty_xforesight, ty_ximages, ty_xmain, ty_xnow, ty_xopinionReader, ty_xtape, ty_xtasters, ty_xthought, Option.toList_some, Option.toList_none, List.cons_append, List.nil_append, List.length_cons, List.length_nil, List.mem_cons, List.not_mem_nil, or_false, false_or, or_true, true_or, ↓reduceIte, true_and, and_true, Nat.reduceEqDiff, Nat.reduceAdd, Nat.reduceLeDiff, Nat.reduceLT, dl_i, dl_r, dl_n, dl_u, eq_self, not_true_eq_false, not_false_eq_true, n10, n01, nm0, n0m, nI_add, imp_t, imp_f]
          obtain ⟨p0, hp0⟩ : ∃ p0, p0 = (g0 + (k + 1)) / 32 := ⟨_, rfl⟩
          rw [← hp0] at hz2 hC
          have h32 : 32 * p0 = g0 + (k + 1) := by omega
          have hy := (hDi.2.1 p0 hz2).2.2
          have f2 := n71 L2 (mk' p0) hy hC
          refine ih (k + 1) qk L2 F mk' u (by omega) hq1 (by omega) (by omega) hu (fun i a1 a2 a3 a4 => by rw [f2 i a1, hfr2 i a1 a2 a3 a4]) (hN2.mv s9 (fun i a e => f2 i (by omega))) hDi hE h9 (fun a ha => ?_) h502
          exact mk_note (p0 := p0) s9 hDi hz2 hC (by rw [h32]; exact hN2) (fun a ha' => hmk2 a (by omega)) a (by omega)
  refine hgo 20 [10] 0 _ _ _ _ _ ?_
  simp only [ixr_of, run_s, run_0, rH_days, rok_i, rok_z, bx_cons, bx_nil, eBP, eC0, eC1, eCV1, eCV3, eGI, eGO, eGR, jICge, eINC2, eLA0, eLI1, eLI2, eRI, eSI2, eSP, fH_days_0, fH_days_10, fH_days_15, fH_days_28, fH_days_56, bH_days_0, bH_days_10, bH_days_15, bH_days_28, bH_days_56, ln_ximages, ln_xthought, rg_xmain_0, rg_xmain_1, rg_xmain_10, rg_xmain_2, rg_xmain_3, rg_xmain_4, rg_xmain_5, rg_xmain_6, rg_xmain_7, ty_xaqueduct, ty_xdiary, ty_xforesight, ty_ximages, ty_xmain, ty_xnow, ty_xopinionReader, ty_xtape, ty_xtasters, ty_xthought, Option.toList_some, Option.toList_none, List.cons_append, List.nil_append, List.length_cons, List.length_nil, List.mem_cons, List.not_mem_nil, or_false, false_or, or_true, true_or, ↓reduceIte, true_and, and_true, Nat.reduceEqDiff, Nat.reduceAdd, Nat.reduceLeDiff, Nat.reduceLT, dl_i, dl_r, dl_n, dl_u, eq_self, not_true_eq_false, not_false_eq_true, n10, n01, nm0, n0m, imp_t, imp_f]
  refine call0 (x_needIn hin ?_)
  simp only [ixr_of, run_s, run_0, rH_days, rok_i, rok_z, bx_cons, bx_nil, eBP, eC0, eC1, eCV1, eCV3, eGI, eGO, eGR, jICge, eINC2, eLA0, eLI1, eLI2, eRI, eSI2, eSP, fH_days_0, fH_days_10, fH_days_15, fH_days_28, fH_days_56, bH_days_0, bH_days_10, bH_days_15, bH_days_28, bH_days_56, ln_ximages, ln_xthought, rg_xmain_0, rg_xmain_1, rg_xmain_10, rg_xmain_2, rg_xmain_3, rg_xmain_4, rg_xmain_5, rg_xmain_6, rg_xmain_7, ty_xaqueduct, ty_xdiary, ty_xforesight, ty_ximages, ty_xmain, ty_xnow, ty_xopinionReader, ty_xtape, ty_xtasters, ty_xthought, Option.toList_some, Option.toList_none, List.cons_append, List.nil_append, List.length_cons, List.length_nil, List.mem_cons, List.not_mem_nil, or_false, false_or, or_true, true_or, ↓reduceIte, true_and, and_true, Nat.reduceEqDiff, Nat.reduceAdd, Nat.reduceLeDiff, Nat.reduceLT, dl_i, dl_r, dl_n, dl_u, eq_self, not_true_eq_false, not_false_eq_true, n10, n01, nm0, n0m, imp_t, imp_f]
  have hN0 : NQ J 71 S (n0 + (g0 + 0)) (G (g0 + 0)) (J 500000 37) (J 500000 38) (J 500123) := by
    have := r3.1.2
    rw [d7, ← hg0, ← hGd] at this
    rw [Nat.add_zero, ← en0]
    exact this
  refine loop m 0 q J E mk (0, 0) (by omega) (by omega) (by omega) (Or.inl rfl) (by rw [Nat.sub_self]) (fun _ _ _ _ _ => rfl) hN0 d1 EX.rf r9.2.1 (fun a ha => by rw [hGd]; exact d8 a (by omega)) (fun g a e => ?_)
  have : g = g0 + 0 := by omega
  rw [this]
  exact hN0.1.2.2.1
