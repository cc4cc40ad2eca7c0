/-! a day of the class is a day of the model -/
theorem afV_o {fr : Nat → Int32} {nV v k : Nat} {q : T3} (hk : ∀ h, h < 3 → k ≠ v * 3 + h) : (afV fr nV v q).2.1 k = q.2.1 k := by
  unfold afV af1
  dsimp only
  rw [ru_n (hk 2 (by decide)), ru_n (hk 1 (by decide)), ru_n (hk 0 (by decide))]
theorem afR_o {fr : Nat → Int32} {nV k : Nat} {q : T3} : ∀ m, (∀ v, v < m → ∀ h, h < 3 → k ≠ v * 3 + h) → (afR fr nV m q).2.1 k = q.2.1 k
  | 0, _ => rfl
  | m + 1, hk => by
    show (afV fr nV m (afR fr nV m q)).2.1 k = _
    rw [afV_o (hk m (by omega))]
    exact afR_o m (fun v hv => hk v (by omega))
theorem day_rel {I J K : Iv} {S : Tn} {y n : Nat} {r : Nat → Int32} {PS : Nat → List Pt} {op : Nat → Nat} (hM : MT I S) (hS : TnV S) (hO : MO I S.1.1 PS) (hD : DR J y S n r) (hn : n ≤ 1900) (hy : 20 ≤ y) (hop : ∀ v, v < S.1.1 → op v + 2 < y ∨ y + 8 ≤ op v) (hP : PmV J y S) (hG : GdC J K y n S PS (pkS S) op) :
    DR K y S (n + 1) (st2 I S.1.1 S.1.2 (PmD J y S) (r, J y 16)).1 ∧ K y 16 = (st2 I S.1.1 S.1.2 (PmD J y S) (r, J y 16)).2 ∧ (∀ k, (k = 7 ∨ k = 8 ∨ k = 10 ∨ k = 11 ∨ k = 14 ∨ k = 15 ∨ k = 17) → K y k = J y k) ∧ K (y + 6) = J (y + 6) ∧ ∀ i, i ≠ 16 → i ≠ 17 → i ≠ 18 → i ≠ 19 → ¬ (y ≤ i ∧ i < y + 8) → (∀ v, v < S.1.1 → i ≠ op v + 2) → K i = J i := by
  have s9 := hS.1
  obtain ⟨K1, K3, K4, hF, hK3, hK4, h17, hK⟩ := hG
  obtain ⟨dV, d9, d501, dB, dZ, dP, dL, dU, d12, d13, dT, dBd⟩ := hD
  have f0 : ∀ i, i ≠ y → up J y 9 (nI (n + 1)) i = J i := fun i hi => by funext k; exact up_n (by omega)
  have g0 : ∀ k, k ≠ 9 → up J y 9 (nI (n + 1)) y k = J y k := fun k hk => up_n (by omega)
  obtain ⟨r2, hr2⟩ : ∃ r2, r2 = tap0 (ru r 501 (r 501 + nI 1)) := ⟨_, rfl⟩
  have e2 : ∀ k, ¬ (497 ≤ k ∧ k < 502) → r2 k = r k := fun k hk => by rw [hr2]; unfold tap0; rw [if_neg (by omega), ru_n (by omega)]
  have t2 : ∀ k, 497 ≤ k → k < 501 → r2 k = nI 0 := fun k h1 h2 => by rw [hr2]; exact if_pos ⟨h1, h2⟩
  have n2 : r2 501 = nI (n + 1) := by rw [hr2]; unfold tap0; rw [if_neg (by omega), ru_s, d501, nI_add]
  have B2 : BR (up J y 9 (nI (n + 1)) (y + 1)) r2 S.1.1 := by
    rw [f0 _ (by omega)]
    exact ⟨fun v hv => by rw [e2 _ (by omega)]; exact dB.1 v hv, fun v h w hv hh hw => by rw [e2 _ (by omega)]; exact dB.2 v h w hv hh hw⟩
  have Z2 : ZA r2 S.1.1 := ⟨fun v h1 h2 => by rw [e2 _ (by omega)]; exact dZ.1 v h1 h2, fun v h w hv hh hw hz => by rw [e2 _ (by omega)]; exact dZ.2 v h w hv hh hw hz⟩
  have Bd2 : BdR r2 S.1.1 n := ⟨dBd.1.eq (fun v hv => e2 _ (by omega)), fun h w hh hw => (dBd.2.1 h w hh hw).eq (fun v hv => e2 _ (by omega)), 0, by omega, t2 497 (by omega) (by omega)⟩
  have N2 := Bd2.nn (by omega)
  have ZR2 := Z2.zr s9
  -- the flow
  obtain ⟨r4, hr4⟩ : ∃ r4, r4 = f4 I S.1.2 r2 S.1.1 r2 := ⟨_, rfl⟩
  have B4 : BR (K1 (y + 1)) r4 S.1.1 := by rw [hr4]; exact flow_b hM hS hF B2 N2
  obtain ⟨b4w, b4h, b4t, Z4⟩ := f4_b hM hS (by omega) Bd2 Z2
  rw [← hr4] at b4w b4h b4t Z4
  have o4 : ∀ k, 252 ≤ k → ¬ (468 ≤ k ∧ k < 496) → ¬ (497 ≤ k ∧ k < 501) → r4 k = r2 k := fun k a b c => by rw [hr4]; exact cnt_o hM hS a b c
  have T4 : ∀ i, i < 4 → K1 (y + 7) i = r4 (497 + i) := by
    intro i hi
    rw [hr4]
    by_cases c : i = 0
    · subst c
      exact cnt_0 hM hS hF B2 (t2 _ (by omega) (by omega))
    · obtain ⟨h, rfl⟩ : ∃ h, i = 1 + h := ⟨i - 1, by omega⟩
      rw [show 497 + (1 + h) = 498 + h by omega]
      exact cnt_h hM hS hF B2 ZR2 (by omega) (t2 _ (by omega) (by omega))
  have C4 : ∀ k, k < 27 → K1 (y + 5) k = r4 (468 + k) := by
    intro k hk
    obtain ⟨w, h, hh, rfl⟩ : ∃ w h, h < 3 ∧ k = w * 3 + h := ⟨k / 3, k % 3, by omega, by omega⟩
    have hr : r2 (468 + 3 * w + h) = up J y 9 (nI (n + 1)) (y + 5) (w * 3 + h) := by
      rw [e2 _ (by omega), f0 _ (by omega), (dU _ hk).2]
      exact congrArg r (by omega)
    rw [hr4, show 468 + (w * 3 + h) = 468 + 3 * w + h by omega]
    by_cases c : w < S.1.1
    · exact cnt_c hM hS hF B2 hh c hr
    · exact cnt_cz hM hS hF ZR2 hh (by omega) (by omega) hr
  have G4 : K1 y 12 = r4 495 := by
    rw [hr4]
    exact cnt_g hM hS hF B2 ZR2 (by rw [e2 _ (by omega), g0 _ (by decide), d12])
  have k1 : ∀ k, k ≠ 9 → k ≠ 12 → K1 y k = J y k := fun k a b => by rw [hF.2.1 k b, g0 k a]
  have k19 : K1 y 9 = nI (n + 1) := by rw [hF.2.1 9 (by decide), up_s]
  have f1 : ∀ i, i ≠ 16 → i ≠ y → i ≠ y + 1 → i ≠ y + 5 → i ≠ y + 7 → K1 i = J i := fun i a b c d e => by rw [hF.1 i a b c d e, f0 i b]
  -- the springs
  obtain ⟨g, hg⟩ : ∃ g, g = h5 I (J y 17) r4 (J y 16) S.1.1 := ⟨_, rfl⟩
  have hfill := fill_b (x := J y 16) hM hS hP.2 B4 S.1.1 (Nat.le_refl _)
  rw [← hg] at hfill
  obtain ⟨K2, hK2⟩ : ∃ K2, K2 = fiK K1 y S := ⟨_, rfl⟩
  rw [← hK2] at hK3
  have k2b : K2 (y + 1) = (fiR S (J y 17) S.1.1 (K1 (y + 1), J y 16)).1 := by rw [hK2, ← k1 17 (by decide) (by decide), ← k1 16 (by decide) (by decide)]; unfold fiK rfH; funext k; rw [up_n (by omega), sr_s]
  have k2x : K2 y 16 = (fiR S (J y 17) S.1.1 (K1 (y + 1), J y 16)).2 := by rw [hK2, ← k1 17 (by decide) (by decide), ← k1 16 (by decide) (by decide)]; unfold fiK rfH; rw [up_s]
  have k2 : ∀ k, k ≠ 16 → K2 y k = K1 y k := fun k a => by rw [hK2]; exact rf_n (by omega) (by omega)
  have f2 : ∀ i, i ≠ y → i ≠ y + 1 → K2 i = K1 i := fun i a b => by rw [hK2]; unfold fiK; exact rf_m (by omega) (by omega)
  have og : ∀ k, 9 ≤ k → g.1 k = r4 k := fun k hk => by rw [hg]; exact h5_o hk S.1.1 s9
  have gw : ∀ u, ∃ e, e ≤ 99 ∧ g.1 u = r4 u + nI e ∧ (S.1.1 ≤ u → e = 0) := fun u => by rw [hg]; exact h5_w hM hS S.1.1 (Nat.le_refl _)
  have bgw : IB g.1 (fun v => v) S.1.1 (891 * (n + 1) + S.1.1 * 99) := b4w.more (fun v hv => by obtain ⟨e, a, b, -⟩ := gw v; exact ⟨e, a, b⟩)
  have bgh : ∀ h w, h < 3 → w < S.1.1 → IB g.1 (fun v => 9 + 27 * v + 9 * h + w) S.1.1 (594 * n) := fun h w hh hw => (b4h h w hh hw).eq (fun v hv => og _ (by omega))
  have Zg : ZA g.1 S.1.1 := ⟨fun v h1 h2 => by
    obtain ⟨e, -, b, c⟩ := gw v
    rw [b, c h1, Z4.1 v h1 h2]; rfl, fun v h w hv hh hw hz => by rw [og _ (by omega)]; exact Z4.2 v h w hv hh hw hz⟩
  have Ng : NN g.1 S.1.1 := ⟨fun v hv => bgw.nn (p := fun v => v) (by omega) hv, fun v a w hv ha hw => (bgh a w ha hw).nn (p := fun v => 9 + 27 * v + 9 * a + w) (by omega) hv⟩
  -- the strainers
  have tk0 : TkR (K2 (y + 1), K2 y 13) g.1 S.1.1 := ⟨by rw [k2b]; exact hfill.1, by
    dsimp only
    rw [k2 13 (by decide), k1 13 (by decide) (by decide), d13, og _ (by omega), o4 _ (by omega) (by omega) (by omega), e2 _ (by omega)], Ng, Zg.zr s9⟩
  obtain ⟨sn, hsn⟩ : ∃ sn, sn = snX S (J (y + 6)) (J y 14, J y 15) := ⟨_, rfl⟩
  have hs : ∀ v h, v < S.1.1 → h < 3 → sn v h = sn v h ∧ nI 0 ≤ sn v h := fun v h hv hh => ⟨rfl, by rw [hsn]; exact hP.1 v h hv hh⟩
  have sn2 : snX S (K2 (y + 6)) (K2 y 14, K2 y 15) = sn := by
    rw [hsn, f2 _ (by omega) (by omega), f1 _ (by omega) (by omega) (by omega) (by omega) (by omega), k2 14 (by decide), k2 15 (by decide), k1 14 (by decide) (by decide), k1 15 (by decide) (by decide)]
  obtain ⟨r6, hr6⟩ : ∃ r6, r6 = t6 sn S.1.1 g.1 := ⟨_, rfl⟩
  have k3b : (K3 (y + 1), K3 y 13) = s6X S sn S.1.1 (K2 (y + 1), K2 y 13) := by
    rw [hK3]
    unfold sfK
    rw [sn2]
    refine Prod.ext ?_ ?_
    · show rfH K2 y 13 _ (y + 1) = _
      unfold rfH; funext k; rw [up_n (by omega), sr_s]
    · show rfH K2 y 13 _ y 13 = _
      unfold rfH; rw [up_s]
  have tk6 : TkR (K3 (y + 1), K3 y 13) r6 S.1.1 := by
    rw [k3b, hr6]
    exact s6_t6 s9 hs tk0 S.1.1 (Nat.le_refl _)
  have k3 : ∀ k, k ≠ 13 → K3 y k = K2 y k := fun k a => by rw [hK3]; exact rf_n (by omega) (by omega)
  have f3 : ∀ i, i ≠ y → i ≠ y + 1 → K3 i = K2 i := fun i a b => by rw [hK3]; unfold sfK; exact rf_m (by omega) (by omega)
  have o6 : ∀ k, 252 ≤ k → k ≠ 496 → r6 k = r4 k := fun k a b => by rw [hr6, t6_o (Or.inr a) b S.1.1 s9, og k (by omega)]
  have le6 : ∀ k, k < 252 → r6 k ≤ g.1 k := by rw [hr6]; exact t6_le s9 hs tk0 S.1.1 (Nat.le_refl _)
  have b6w : IB r6 (fun v => v) S.1.1 (891 * (n + 1) + S.1.1 * 99) := bgw.le (by omega) (fun v hv => ⟨tk6.2.2.1.1 v hv, le6 v (by omega)⟩)
  have b6h : ∀ h w, h < 3 → w < S.1.1 → IB r6 (fun v => 9 + 27 * v + 9 * h + w) S.1.1 (594 * n) := fun h w hh hw => (bgh h w hh hw).le (by omega) (fun v hv => ⟨tk6.2.2.1.2 v h w hv hh hw, le6 _ (by omega)⟩)
  have Z6 : ZA r6 S.1.1 := ⟨fun v h1 h2 => by rw [hr6, t6_o (Or.inl h2) (by omega) S.1.1 s9]; exact Zg.1 v h1 h2, fun v h w hv hh hw hz => by
    by_cases c : v < S.1.1
    · exact tk6.2.2.2 v h w c hh (by omega) hw
    · rw [hr6, t6_f S.1.1 (by omega) (by omega)]
      exact Zg.2 v h w hv hh hw hz⟩
  -- what is put
  have k3y : ∀ k, k ≠ 9 → k ≠ 12 → k ≠ 13 → k ≠ 16 → K3 y k = J y k := fun k a b c d => by rw [k3 k c, k2 k d, k1 k a b]
  have f3y : ∀ i, i = y + 2 ∨ i = y + 3 ∨ i = y + 4 ∨ i = y + 6 → K3 i = J i := fun i hi => by rw [f3 i (by omega) (by omega), f2 i (by omega) (by omega), f1 i (by omega) (by omega) (by omega) (by omega) (by omega)]
  have n6 : r6 501 = nI (n + 1) := by rw [o6 _ (by omega) (by omega), o4 _ (by omega) (by omega) (by omega), n2]
  have s6r : ∀ k, 252 ≤ k → ¬ (468 ≤ k ∧ k < 502) → r6 k = r k := fun k a b => by rw [o6 k a (by omega), o4 k a (by omega) (by omega), e2 k (by omega)]
  have hkn : ∀ v, v < S.1.1 → ∀ j, j < 7 → knD K3 y S (n + 1) v j = knR I r6 v j := fun v hv => kn_eq hM hS tk6.1 tk6.2.2.2 hv (fun hl j hj => by
    have hlag : vz S v 3 ≤ 5 := by unfold vz; rw [if_pos hv]; exact (hS.2.2.2.2.2.2.2 v hv).2.2.1
    rw [f3y _ (Or.inl rfl), s6r _ (by omega) (by omega), dP v hv hl (vz S v 3 - 1) j (by omega) hj, show n - (vz S v 3 - 1) = n + 1 - vz S v 3 by omega]) n6 (by rw [f3y _ (Or.inr (Or.inl rfl)), s6r _ (by omega) (by omega)]; exact dL v hv)
  obtain ⟨pn, hpn⟩ : ∃ pn, pn = d8v I (PmD J y S).1 (PmD J y S).2.1 r6 S.1.1 (fun _ => nI 0) := ⟨_, rfl⟩
  have hput : ∀ v h, v < S.1.1 → h < 3 → K4 17 (v * 3 + h) = pn (3 * v + h) ∧ ∃ e, e ≤ 594 ∧ pn (3 * v + h) = nI e := by
    intro v h hv hh
    rw [h17, hpn]
    have epl : plX K3 y v = plX J y v := by unfold plX; rw [k3y 10 (by decide) (by decide) (by decide) (by decide)]
    have eco : coX K3 y v = coX J y v := by unfold coX; rw [k3y 11 (by decide) (by decide) (by decide) (by decide)]
    exact put_eq hM hS hO hv hh (hkn v hv) (by rw [epl]; rfl) (by rw [eco]; rfl)
  have hyo : ∀ i, y ≤ i → i < y + 8 → K4 i = K3 i := fun i h1 h2 => hK4 i (by omega) (by omega) (by omega) (fun v hv => by have := hop v hv; omega)
  have af0 : AfR (K4 (y + 1), K4 (y + 4), K4 (y + 3)) r6 S.1.1 := by
    refine ⟨?_, fun v h hv hh => ?_, fun v hv => ?_⟩
    · show BR (K4 (y + 1)) _ _
      rw [hyo _ (by omega) (by omega)]; exact tk6.1
    · show K4 (y + 4) (v * 3 + h) = _
      rw [hyo _ (by omega) (by omega), f3y _ (by omega), (dU _ (by omega)).1, s6r _ (by omega) (by omega)]
      exact congrArg r (by omega)
    · show K4 (y + 3) v = _
      rw [hyo _ (by omega) (by omega), f3y _ (by omega), dL v hv, s6r _ (by omega) (by omega)]
  have afN := af_p9 (pn := pn) s9 (fun v h hv hh => (hput v h hv hh).1) af0 S.1.1 (Nat.le_refl _)
  obtain ⟨r9, hr9⟩ : ∃ r9, r9 = p9 pn S.1.1 r6 := ⟨_, rfl⟩
  rw [← hr9] at afN
  obtain ⟨K5, hK5⟩ : ∃ K5, K5 = adK K4 y S := ⟨_, rfl⟩
  rw [← hK5] at hK
  have k5a : K5 (y + 1) = (afR (K4 17) S.1.1 S.1.1 (K4 (y + 1), K4 (y + 4), K4 (y + 3))).1 := by rw [hK5]; unfold adK tgH; rw [if_pos rfl]
  have k5b : K5 (y + 4) = (afR (K4 17) S.1.1 S.1.1 (K4 (y + 1), K4 (y + 4), K4 (y + 3))).2.1 := by rw [hK5]; unfold adK tgH; rw [if_neg (by omega), if_pos rfl]
  have k5c : K5 (y + 3) = (afR (K4 17) S.1.1 S.1.1 (K4 (y + 1), K4 (y + 4), K4 (y + 3))).2.2 := by rw [hK5]; unfold adK tgH; rw [if_neg (by omega), if_neg (by omega), if_pos rfl]
  have f5 : ∀ i, i ≠ y + 1 → i ≠ y + 4 → i ≠ y + 3 → K5 i = K4 i := fun i a b c => by rw [hK5]; exact tg_n a b c
  have o9 : ∀ k, k < 9 ∨ (252 ≤ k ∧ k < 432) ∨ 468 ≤ k → r9 k = r6 k := fun k hk => by
    rw [hr9]
    exact p9_o S.1.1 s9 (fun v hv => ⟨by omega, fun h hh => by omega, fun h hh => by omega⟩)
  have Z9 : ZA r9 S.1.1 := ⟨fun v h1 h2 => by rw [o9 v (by omega)]; exact Z6.1 v h1 h2, fun v h w hv hh hw hz => by
    rw [hr9, p9_o S.1.1 s9 (fun u hu => ⟨by omega, fun j hj => by omega, fun j hj => by omega⟩)]
    exact Z6.2 v h w hv hh hw hz⟩
  have b9w : IB r9 (fun v => v) S.1.1 (891 * (n + 1) + S.1.1 * 99) := b6w.eq (fun v hv => o9 v (by omega))
  have b9h : ∀ h w, h < 3 → w < S.1.1 → IB r9 (fun v => 9 + 27 * v + 9 * h + w) S.1.1 (594 * n + 594) := fun h w hh hw => by
    refine (b6h h w hh hw).more1 (u := w) ?_ (fun v hv hne => ?_)
    · obtain ⟨e, he, ee⟩ := (hput w h hw hh).2
      exact ⟨e, he, by show r9 (9 + 27 * w + 9 * h + w) = r6 (9 + 27 * w + 9 * h + w) + nI e; rw [← ee, hr9, p9_c hh S.1.1 s9 hw]⟩
    · rw [hr9]
      exact p9_o S.1.1 s9 (fun u hu => ⟨by omega, fun j hj e => by have h1 : v = u := by omega
                                                                   have h2 : w = u := by omega
                                                                   omega, fun j hj => by omega⟩)
  -- the past
  obtain ⟨rF, hrF⟩ : ∃ rF, rF = w11 S.1.1 (w10 r9) := ⟨_, rfl⟩
  have oF : ∀ k, k < 252 ∨ 432 ≤ k → rF k = r9 k := fun k hk => by rw [hrF]; unfold w11 w10; rw [if_neg (by omega), if_neg (by omega)]
  have hst : st2 I S.1.1 S.1.2 (PmD J y S) (r, J y 16) = (rF, g.2) := by
    rw [hrF, hr9, hpn, hr6, hsn, hg, hr4, hr2]
    rfl
  have k5y2 : K5 (y + 2) = J (y + 2) := by rw [f5 _ (by omega) (by omega) (by omega), hyo _ (by omega) (by omega), f3y _ (Or.inl rfl)]
  have PF : PaR (rmR K5 y S.1.1 (n + 1) (fun v => vz S v 3) S.1.1) rF S (n + 1) := by
    rw [hrF]
    refine pa_1 hS (by rw [k5a]; exact afN.1) (Z9.zr s9) ?_
    rw [k5y2]
    intro v hv hl e j he hj
    rw [o9 _ (by omega), s6r _ (by omega) (by omega)]
    exact dP v hv hl e j he hj
  have kk : ∀ i, i ≠ y + 2 → K i = K5 i := fun i a => by rw [hK]; unfold reK; exact sr_n a
  have kp : K (y + 2) = rmR K5 y S.1.1 (n + 1) (fun v => vz S v 3) S.1.1 := by rw [hK]; unfold reK; exact sr_s
  have ky : ∀ k, K y k = K3 y k := fun k => by rw [kk y (by omega), f5 y (by omega) (by omega) (by omega), hyo y (by omega) (by omega)]
  rw [hst]
  refine ⟨⟨⟨?_, ?_, s9⟩, ?_, ?_, ?_, ?_, ?_, ?_, ?_, ?_, ?_, ?_, ?_⟩, ?_, ?_, ?_, ?_⟩
  · rw [ky, k3y 7 (by decide) (by decide) (by decide) (by decide)]; exact dV.1
  · rw [ky, k3y 8 (by decide) (by decide) (by decide) (by decide)]; exact dV.2.1
  · rw [ky, k3 9 (by decide), k2 9 (by decide), k19]
  · show rF 501 = _
    rw [oF _ (by omega), o9 _ (by omega), n6]
  · show BR (K (y + 1)) rF S.1.1
    rw [kk _ (by omega), k5a]
    exact ⟨fun v hv => by rw [oF _ (by omega)]; exact afN.1.1 v hv, fun v h w hv hh hw => by rw [oF _ (by omega)]; exact afN.1.2 v h w hv hh hw⟩
  · exact ⟨fun v h1 h2 => by show rF v = _; rw [oF _ (by omega)]; exact Z9.1 v h1 h2, fun v h w hv hh hw hz => by show rF _ = _; rw [oF _ (by omega)]; exact Z9.2 v h w hv hh hw hz⟩
  · rw [kp]; exact PF
  · intro v hv
    show K (y + 3) v = rF (432 + v)
    rw [kk _ (by omega), k5c, oF _ (by omega)]
    exact afN.2.2 v hv
  · intro k hk
    refine ⟨?_, ?_⟩
    · show K (y + 4) k = rF (441 + k)
      rw [kk _ (by omega), k5b, oF _ (by omega)]
      obtain ⟨w, h, hh, rfl⟩ : ∃ w h, h < 3 ∧ k = w * 3 + h := ⟨k / 3, k % 3, by omega, by omega⟩
      by_cases c : w < S.1.1
      · rw [show 441 + (w * 3 + h) = 441 + 3 * w + h by omega]
        exact afN.2.1 w h c hh
      · rw [afR_o S.1.1 (fun v hv j hj => by omega), hr9, p9_o S.1.1 s9 (fun u hu => ⟨by omega, fun j hj => by omega, fun j hj => by omega⟩)]
        show K4 (y + 4) _ = _
        rw [hyo _ (by omega) (by omega), f3y _ (by omega), (dU _ hk).1, s6r _ (by omega) (by omega)]
    · show K (y + 5) k = rF (468 + k)
      rw [kk _ (by omega), f5 _ (by omega) (by omega) (by omega), hyo _ (by omega) (by omega), f3 _ (by omega) (by omega), f2 _ (by omega) (by omega), C4 k hk, oF _ (by omega), o9 _ (by omega), o6 _ (by omega) (by omega)]
  · show K y 12 = rF 495
    rw [ky, k3 12 (by decide), k2 12 (by decide), G4, oF _ (by omega), o9 _ (by omega), o6 _ (by omega) (by omega)]
  · show K y 13 = rF 496
    rw [ky, oF _ (by omega), o9 _ (by omega)]
    exact tk6.2.1
  · intro i hi
    show K (y + 7) i = rF (497 + i)
    rw [kk _ (by omega), f5 _ (by omega) (by omega) (by omega), hyo _ (by omega) (by omega), f3 _ (by omega) (by omega), f2 _ (by omega) (by omega), T4 i hi, oF _ (by omega), o9 _ (by omega), o6 _ (by omega) (by omega)]
  · refine ⟨(b9w.eq (fun v hv => oF _ (by omega))).mono (by omega), fun h w hh hw => ((b9h h w hh hw).eq (fun v hv => oF _ (by omega))).mono (by omega), ?_⟩
    obtain ⟨k, hk, e⟩ := b4t (t2 _ (by omega) (by omega))
    exact ⟨k, by omega, by show rF 497 = _; rw [oF _ (by omega), o9 _ (by omega), o6 _ (by omega) (by omega), e]⟩
  · show K y 16 = g.2
    rw [ky, k3 16 (by decide), k2x]
    exact hfill.2
  · intro k hk
    rw [ky, k3y k (by omega) (by omega) (by omega) (by omega)]
  · rw [kk _ (by omega), f5 _ (by omega) (by omega) (by omega), hyo _ (by omega) (by omega), f3y _ (by omega)]
  · intro i h16 h17 h18 h19 hny hov
    rw [kk i (by omega), f5 i (by omega) (by omega) (by omega), hK4 i h17 h18 h19 hov, f3 i (by omega) (by omega), f2 i (by omega) (by omega), f1 i h16 (by omega) (by omega) (by omega) (by omega)]
