/-! shapes of the class that never change; days begun -/
section Shp
variable {b : Bool} {E : Ev}
theorem dyA_48 : DyA (shB b) E 48 := ⟨ty_xftrial, ⟨rg_xftrial_0, rg_xftrial_1, rg_xftrial_2, rg_xftrial_3, rg_xftrial_4, rg_xftrial_5, rg_xftrial_6⟩, ⟨ty_xftrial_basins, ty_xftrial_past, ty_xftrial_latest, ty_xftrial_puts, ty_xftrial_came, ty_xftrial_grades, ty_xftrial_tapped⟩, ln_xftrial_basins, ln_xftrial_past, ln_xftrial_latest, ln_xftrial_puts, ln_xftrial_came, ln_xftrial_grades, ln_xftrial_tapped⟩
theorem dyA_59 : DyA (shB b) E 59 := ⟨ty_xttrial, ⟨rg_xttrial_0, rg_xttrial_1, rg_xttrial_2, rg_xttrial_3, rg_xttrial_4, rg_xttrial_5, rg_xttrial_6⟩, ⟨ty_xttrial_basins, ty_xttrial_past, ty_xttrial_latest, ty_xttrial_puts, ty_xttrial_came, ty_xttrial_grades, ty_xttrial_tapped⟩, ln_xttrial_basins, ln_xttrial_past, ln_xttrial_latest, ln_xttrial_puts, ln_xttrial_came, ln_xttrial_grades, ln_xttrial_tapped⟩
theorem dyA_71 : DyA (shB b) E 71 := ⟨ty_xnow, ⟨rg_xnow_0, rg_xnow_1, rg_xnow_2, rg_xnow_3, rg_xnow_4, rg_xnow_5, rg_xnow_6⟩, ⟨ty_xnow_basins, ty_xnow_past, ty_xnow_latest, ty_xnow_puts, ty_xnow_came, ty_xnow_grades, ty_xnow_tapped⟩, ln_xnow_basins, ln_xnow_past, ln_xnow_latest, ln_xnow_puts, ln_xnow_came, ln_xnow_grades, ln_xnow_tapped⟩
theorem dyA_101 : DyA (shB b) E 101 := ⟨ty_ximage0, ⟨rg_ximage0_0, rg_ximage0_1, rg_ximage0_2, rg_ximage0_3, rg_ximage0_4, rg_ximage0_5, rg_ximage0_6⟩, ⟨ty_ximage0_basins, ty_ximage0_past, ty_ximage0_latest, ty_ximage0_puts, ty_ximage0_came, ty_ximage0_grades, ty_ximage0_tapped⟩, ln_ximage0_basins, ln_ximage0_past, ln_ximage0_latest, ln_ximage0_puts, ln_ximage0_came, ln_ximage0_grades, ln_ximage0_tapped⟩
theorem dyA_109 : DyA (shB b) E 109 := ⟨ty_ximage1, ⟨rg_ximage1_0, rg_ximage1_1, rg_ximage1_2, rg_ximage1_3, rg_ximage1_4, rg_ximage1_5, rg_ximage1_6⟩, ⟨ty_ximage1_basins, ty_ximage1_past, ty_ximage1_latest, ty_ximage1_puts, ty_ximage1_came, ty_ximage1_grades, ty_ximage1_tapped⟩, ln_ximage1_basins, ln_ximage1_past, ln_ximage1_latest, ln_ximage1_puts, ln_ximage1_came, ln_ximage1_grades, ln_ximage1_tapped⟩
theorem dyA_117 : DyA (shB b) E 117 := ⟨ty_ximage2, ⟨rg_ximage2_0, rg_ximage2_1, rg_ximage2_2, rg_ximage2_3, rg_ximage2_4, rg_ximage2_5, rg_ximage2_6⟩, ⟨ty_ximage2_basins, ty_ximage2_past, ty_ximage2_latest, ty_ximage2_puts, ty_ximage2_came, ty_ximage2_grades, ty_ximage2_tapped⟩, ln_ximage2_basins, ln_ximage2_past, ln_ximage2_latest, ln_ximage2_puts, ln_ximage2_came, ln_ximage2_grades, ln_ximage2_tapped⟩
theorem tnA_4 : TnA (shB b) E 4 := by
  refine ⟨ty_xtown0, fun j hj => ?_⟩
  rcases (show j = 0 ∨ j = 1 ∨ j = 2 ∨ j = 3 ∨ j = 4 ∨ j = 5 ∨ j = 6 ∨ j = 7 ∨ j = 8 ∨ j = 9 by omega) with rfl | rfl | rfl | rfl | rfl | rfl | rfl | rfl | rfl | rfl
  · exact ⟨rg_xtown0_0, ty_xtown0_waters, ln_xtown0_waters⟩
  · exact ⟨rg_xtown0_1, ty_xtown0_springs, ln_xtown0_springs⟩
  · exact ⟨rg_xtown0_2, ty_xtown0_leaks, ln_xtown0_leaks⟩
  · exact ⟨rg_xtown0_3, ty_xtown0_lags, ln_xtown0_lags⟩
  · exact ⟨rg_xtown0_4, ty_xtown0_frogs, ln_xtown0_frogs⟩
  · exact ⟨rg_xtown0_5, ty_xtown0_given, ln_xtown0_given⟩
  · exact ⟨rg_xtown0_6, ty_xtown0_strainers, ln_xtown0_strainers⟩
  · exact ⟨rg_xtown0_7, ty_xtown0_from, ln_xtown0_from⟩
  · exact ⟨rg_xtown0_8, ty_xtown0_to, ln_xtown0_to⟩
  · exact ⟨rg_xtown0_9, ty_xtown0_parts, ln_xtown0_parts⟩
theorem tnA_83 : TnA (shB b) E 83 := by
  refine ⟨ty_xtown1, fun j hj => ?_⟩
  rcases (show j = 0 ∨ j = 1 ∨ j = 2 ∨ j = 3 ∨ j = 4 ∨ j = 5 ∨ j = 6 ∨ j = 7 ∨ j = 8 ∨ j = 9 by omega) with rfl | rfl | rfl | rfl | rfl | rfl | rfl | rfl | rfl | rfl
  · exact ⟨rg_xtown1_0, ty_xtown1_waters, ln_xtown1_waters⟩
  · exact ⟨rg_xtown1_1, ty_xtown1_springs, ln_xtown1_springs⟩
  · exact ⟨rg_xtown1_2, ty_xtown1_leaks, ln_xtown1_leaks⟩
  · exact ⟨rg_xtown1_3, ty_xtown1_lags, ln_xtown1_lags⟩
  · exact ⟨rg_xtown1_4, ty_xtown1_frogs, ln_xtown1_frogs⟩
  · exact ⟨rg_xtown1_5, ty_xtown1_given, ln_xtown1_given⟩
  · exact ⟨rg_xtown1_6, ty_xtown1_strainers, ln_xtown1_strainers⟩
  · exact ⟨rg_xtown1_7, ty_xtown1_from, ln_xtown1_from⟩
  · exact ⟨rg_xtown1_8, ty_xtown1_to, ln_xtown1_to⟩
  · exact ⟨rg_xtown1_9, ty_xtown1_parts, ln_xtown1_parts⟩
theorem opA_20 : OpA (shB b) E 20 := ⟨ty_xopinion0, rg_xopinion0_0, rg_xopinion0_1, ty_xopinion0_steps, ty_xopinion0_values, ln_xopinion0_steps, ln_xopinion0_values⟩
theorem opA_23 : OpA (shB b) E 23 := ⟨ty_xopinion1, rg_xopinion1_0, rg_xopinion1_1, ty_xopinion1_steps, ty_xopinion1_values, ln_xopinion1_steps, ln_xopinion1_values⟩
theorem opA_26 : OpA (shB b) E 26 := ⟨ty_xopinion2, rg_xopinion2_0, rg_xopinion2_1, ty_xopinion2_steps, ty_xopinion2_values, ln_xopinion2_steps, ln_xopinion2_values⟩
theorem opA_29 : OpA (shB b) E 29 := ⟨ty_xopinion3, rg_xopinion3_0, rg_xopinion3_1, ty_xopinion3_steps, ty_xopinion3_values, ln_xopinion3_steps, ln_xopinion3_values⟩
theorem opA_32 : OpA (shB b) E 32 := ⟨ty_xopinion4, rg_xopinion4_0, rg_xopinion4_1, ty_xopinion4_steps, ty_xopinion4_values, ln_xopinion4_steps, ln_xopinion4_values⟩
theorem opA_35 : OpA (shB b) E 35 := ⟨ty_xopinion5, rg_xopinion5_0, rg_xopinion5_1, ty_xopinion5_steps, ty_xopinion5_values, ln_xopinion5_steps, ln_xopinion5_values⟩
theorem opA_38 : OpA (shB b) E 38 := ⟨ty_xopinion6, rg_xopinion6_0, rg_xopinion6_1, ty_xopinion6_steps, ty_xopinion6_values, ln_xopinion6_steps, ln_xopinion6_values⟩
theorem opA_41 : OpA (shB b) E 41 := ⟨ty_xopinion7, rg_xopinion7_0, rg_xopinion7_1, ty_xopinion7_steps, ty_xopinion7_values, ln_xopinion7_steps, ln_xopinion7_values⟩
theorem opA_44 : OpA (shB b) E 44 := ⟨ty_xopinion8, rg_xopinion8_0, rg_xopinion8_1, ty_xopinion8_steps, ty_xopinion8_values, ln_xopinion8_steps, ln_xopinion8_values⟩
theorem opA_94 : OpA (shB b) E 94 := ⟨ty_xopinion9, rg_xopinion9_0, rg_xopinion9_1, ty_xopinion9_steps, ty_xopinion9_values, ln_xopinion9_steps, ln_xopinion9_values⟩
theorem bkA_68 : BkA (shB b) E 68 := ⟨ty_xbook0, rg_xbook0_0, rg_xbook0_1, ty_xbook0_lineDays, ty_xbook0_lineViews, ln_xbook0_lineDays, ln_xbook0_lineViews⟩
theorem bkA_98 : BkA (shB b) E 98 := ⟨ty_xbook1, rg_xbook1_0, rg_xbook1_1, ty_xbook1_lineDays, ty_xbook1_lineViews, ln_xbook1_lineDays, ln_xbook1_lineViews⟩
def idO (o : Nat) : Prop := o = 20 ∨ o = 23 ∨ o = 26 ∨ o = 29 ∨ o = 32 ∨ o = 35 ∨ o = 38 ∨ o = 41 ∨ o = 44 ∨ o = 94
theorem idO.A {o : Nat} (h : idO o) : OpA (shB b) E o := by
  rcases h with rfl | rfl | rfl | rfl | rfl | rfl | rfl | rfl | rfl | rfl
  · exact opA_20
  · exact opA_23
  · exact opA_26
  · exact opA_29
  · exact opA_32
  · exact opA_35
  · exact opA_38
  · exact opA_41
  · exact opA_44
  · exact opA_94
def idT (t : Nat) : Prop := t = 4 ∨ t = 83
theorem idT.A {t : Nat} (h : idT t) : TnA (shB b) E t := by
  rcases h with rfl | rfl
  · exact tnA_4
  · exact tnA_83
def idB (k : Nat) : Prop := k = 68 ∨ k = 98
theorem idB.A {k : Nat} (h : idB k) : BkA (shB b) E k := by
  rcases h with rfl | rfl
  · exact bkA_68
  · exact bkA_98
/-- days that the aqueduct leads on -/
def idY (y : Nat) : Prop := y = 48 ∨ y = 59 ∨ y = 71
theorem idY.A {y : Nat} (h : idY y) : DyA (shB b) E y := by
  rcases h with rfl | rfl | rfl
  · exact dyA_48
  · exact dyA_59
  · exact dyA_71
end Shp
theorem dgR_w {wr : Nat → Int32} {nV v : Nat} : ∀ m, v < m → dgR wr nV m (v * (1 + 3 * nV)) = wr v
  | 0, h => absurd h (by omega)
  | m + 1, h => by
    show ru (dgR wr nV m) (m * (1 + 3 * nV)) (wr m) (v * (1 + 3 * nV)) = wr v
    by_cases e : v = m
    · rw [e, ru_s]
    · rw [ru_n (fun q => e (blk_inj (W := 1 + 3 * nV) (i := 0) (j := 0) (by omega) (by omega) (by omega)).1)]
      exact dgR_w m (by omega)
theorem dgR_h {wr : Nat → Int32} {nV v h w : Nat} (hh : h < 3) (hw : w < nV) : ∀ m, dgR wr nV m (cl nV v h w) = nI 0
  | 0 => rfl
  | m + 1 => by
    have hi := it_lt hh hw
    show ru (dgR wr nV m) (m * (1 + 3 * nV)) (wr m) (cl nV v h w) = nI 0
    rw [ru_n (fun q => by rw [cl_i] at q; have := (blk_inj (j := 0) hi (by omega) (by omega) : v = m ∧ _).2; omega)]
    exact dgR_h hh hw m
theorem begin_rel {J K : Iv} {y t : Nat} {S : Tn} {r : Nat → Int32} (hX : XTn J t S) (hS : TnV S) (hB : BgD J K y t S.1.1 (fun v => vz S v 3)) (hr : ∀ k, k < 502 → r k = bgR S k) : DR K y S 0 r := by
  have s9 := hS.1
  obtain ⟨-, ⟨k7, k8, k9, k10, k11, k12, k13, k14, k15, k16, k17⟩, kb, kp, kz⟩ := hB
  have Xw := hX.2.2.2.2.2.1
  have hw : ∀ v, v < S.1.1 → K (y + 1) (v * (1 + 3 * S.1.1)) = nI (S.2.2.1 v 0) := fun v hv => by rw [kb, dgR_w S.1.1 hv, Xw v hv]
  have hh0 : ∀ v h w, h < 3 → w < S.1.1 → K (y + 1) (cl S.1.1 v h w) = nI 0 := fun v h w hh hw => by rw [kb, dgR_h hh hw]
  have rw0 : ∀ k, k < S.1.1 → r k = nI (S.2.2.1 k 0) := fun k hk => by rw [hr k (by omega)]; unfold bgR; rw [if_pos hk]
  have rz : ∀ k, k < 502 → ¬ k < S.1.1 → ¬ (252 ≤ k ∧ k < 432) → r k = nI 0 := fun k h1 h2 h3 => by rw [hr k h1]; unfold bgR; rw [if_neg h2, if_neg (by omega)]
  refine ⟨⟨k7, k8, s9⟩, k9, rz 501 (by omega) (by omega) (by omega), ⟨fun v hv => by rw [hw v hv, rw0 v hv], fun v h w hv hh hw' => by rw [hh0 v h w hh hw', rz _ (by omega) (by omega) (by omega)]⟩, ⟨fun v h1 h2 => rz v (by omega) (by omega) (by omega), fun v h w hv hh hw' _ => rz _ (by omega) (by omega) (by omega)⟩, ?_, fun v hv => ?_, fun k hk => ⟨?_, ?_⟩, ?_, ?_, fun i hi => ?_, ?_, ?_, ?_⟩
  · intro v hv hl e j he hj
    have e0 : 0 - e = 0 := by omega
    have hb : r (252 + 36 * e + 4 * v + j) = if j = 0 then nI (S.2.2.1 v 0) else nI 0 := by
      rw [hr _ (by omega)]
      unfold bgR
      rw [if_neg (by omega)]
      have a1 : (252 + 36 * e + 4 * v + j - 252) % 4 = j := by omega
      have a2 : (252 + 36 * e + 4 * v + j - 252) % 36 / 4 = v := by omega
      rw [a1, a2]
      by_cases j0 : j = 0
      · rw [if_pos j0, if_pos ⟨by omega, by omega, j0, hv⟩]
      · rw [if_neg j0, if_neg (fun c => j0 c.2.2.1)]
    rw [hb, e0]
    obtain ⟨p1, p2⟩ := kp v hv hl
    by_cases j0 : j = 0
    · rw [if_pos j0, j0]
      exact (hw v hv).symm.trans p1.symm
    · rw [if_neg j0, show pcl 0 v + j = pcl 0 v + 1 + (j - 1) by omega, p2 (j - 1) (by omega)]
      unfold hbD
      exact (smI_z _ (fun w hw' => hh0 v (j - 1) w (by omega) hw')).symm
  · rw [kz 3 (by decide) (by decide), rz _ (by omega) (by omega) (by omega)]
  · rw [kz 4 (by decide) (by decide), rz _ (by omega) (by omega) (by omega)]
  · rw [kz 5 (by decide) (by decide), rz _ (by omega) (by omega) (by omega)]
  · rw [k12, rz _ (by omega) (by omega) (by omega)]
  · rw [k13, rz _ (by omega) (by omega) (by omega)]
  · rw [kz 7 (by decide) (by decide), rz _ (by omega) (by omega) (by omega)]
  · refine ⟨fun v => S.2.2.1 v 0, fun v hv => rw0 v hv, ?_⟩
    have := smN_k (f := fun v => S.2.2.1 v 0) (b := 99) S.1.1 (fun v hv => (hS.2.2.2.2.2.2.2 v hv).1)
    omega
  · intro h w hh hw'
    refine ⟨fun _ => 0, fun v hv => rz (9 + 27 * v + 9 * h + w) (by omega) (by omega) (by omega), ?_⟩
    rw [smN_z _ (fun _ _ => rfl)]
    exact Nat.zero_le _
  · exact ⟨0, by omega, rz _ (by omega) (by omega) (by omega)⟩
