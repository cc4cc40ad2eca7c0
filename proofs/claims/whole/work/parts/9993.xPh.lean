/-! the days of the class and the model's row: came, gardens -/
theorem smI_3 {f : Nat → Int32} {a : Nat} : smI f (3 * a) = smI f a + smI (fun k => f (a + k)) a + smI (fun k => f (2 * a + k)) a := by
  have h : 3 * a = a + a + a := by omega
  have h2 : a + a = 2 * a := by omega
  rw [h, smI_app, smI_app, h2]
section Cnu
variable {I J K : Iv} {S : Tn} {y : Nat} {old r : Nat → Int32}
theorem cnt_c {h w : Nat} (hM : MT I S) (hS : TnV S) (hF : FlP J K y S) (hB : BR (J (y + 1)) old S.1.1) (hh : h < 3) (hw : w < S.1.1) (hr : r (468 + 3 * w + h) = J (y + 5) (w * 3 + h)) : K (y + 5) (w * 3 + h) = f4 I S.1.2 old S.1.1 r (468 + 3 * w + h) := by
  have s9 := hS.1
  have e1 : ∀ v, v < S.1.1 → smI (acX S old (468 + 3 * w + h) v) 27 = tpX S v (old (9 + 27 * v + 9 * h + w)) := by
    intro v hv
    have e2 : smI (acX S old (468 + 3 * w + h) v) 27 = smI (fun κ => if 9 * h + w = κ then tpX S v (old (9 + κ + 27 * v)) else nI 0) 27 := smI_c _ (fun κ hκ => by
      unfold acX
      rw [if_neg (show ¬ 468 + 3 * w + h = 498 + κ / 9 by omega), if_neg (show ¬ 468 + 3 * w + h = 495 by omega), nI_zero, Int32.add_zero, Int32.zero_add]
      by_cases e : 9 * h + w = κ
      · rw [if_pos e, if_pos (by omega)]
      · rw [if_neg e, if_neg (by omega)])
    rw [e2, smI_pick (f := fun κ => tpX S v (old (9 + κ + 27 * v))), if_pos (by omega), show 9 + (9 * h + w) + 27 * v = 9 + 27 * v + 9 * h + w by omega]
  rw [f4_a hM hS (by omega) _ (Nat.le_refl _), hr, smI_c (g := fun v => tpX S v (old (9 + 27 * v + 9 * h + w))) _ (fun v hv => by rw [if_neg (by omega), e1 v hv, nI_zero, Int32.zero_add]), tp_sum (o := fun v => old (9 + 27 * v + 9 * h + w)) hS, hF.2.2.2.2.1]
  unfold flQ tpR
  cases ht : S.2.1.1 with
  | none => exact (Int32.add_zero _).symm
  | some u =>
    dsimp only
    rw [taR_3 hh hw, hB.2 u h w (hS.2.2.1 u ht) hh hw]
theorem cnt_g (hM : MT I S) (hS : TnV S) (hF : FlP J K y S) (hB : BR (J (y + 1)) old S.1.1) (hZ : ZR old S.1.1) (hr : r 495 = J y 12) : K y 12 = f4 I S.1.2 old S.1.1 r 495 := by
  have s9 := hS.1
  have blk3 : ∀ v, v < S.1.1 → ∀ h, h < 3 → smI (fun w => old (9 + (9 * h + w) + 27 * v) * nI (vz S v 2) / nI 8) 9 = smI (fun w => J (y + 1) (v * (1 + 3 * S.1.1) + (1 + (h * S.1.1 + w))) * nI (vz S v 2) / nI 8) S.1.1 := by
    intro v hv h hh
    rw [smI_sh s9 (fun w h1 h2 => by
      rw [show 9 + (9 * h + w) + 27 * v = 9 + 27 * v + 9 * h + w by omega, hZ v h w hv hh h1 h2, nI_zero, Int32.zero_mul]
      decide)]
    refine smI_c _ (fun w hw => ?_)
    rw [show 9 + (9 * h + w) + 27 * v = 9 + 27 * v + 9 * h + w by omega, ← hB.2 v h w hv hh hw, cl_i, Nat.add_assoc 1]
  have e1 : ∀ v, v < S.1.1 → smI (acX S old 495 v) 27 = smI (fun i => J (y + 1) (v * (1 + 3 * S.1.1) + (1 + i)) * nI (vz S v 2) / nI 8) (3 * S.1.1) := by
    intro v hv
    have e2 : smI (acX S old 495 v) 27 = smI (fun κ => old (9 + κ + 27 * v) * nI (vz S v 2) / nI 8) 27 := smI_c _ (fun κ hκ => by
      unfold acX
      rw [if_neg (show ¬ 495 = 498 + κ / 9 by omega), if_neg (show ¬ 495 = 468 + 3 * (κ % 9) + κ / 9 by omega), if_pos rfl, nI_zero, Int32.add_zero, Int32.zero_add])
    have b0 := blk3 v hv 0 (by decide)
    have b1 := blk3 v hv 1 (by decide)
    have b2 := blk3 v hv 2 (by decide)
    rw [e2, smI_3 (a := 9), smI_3 (a := S.1.1)]
    have c0 : smI (fun κ => old (9 + κ + 27 * v) * nI (vz S v 2) / nI 8) 9 = smI (fun w => old (9 + (9 * 0 + w) + 27 * v) * nI (vz S v 2) / nI 8) 9 := smI_c _ (fun w _ => by rw [show 9 * 0 + w = w by omega])
    have d0 : smI (fun i => J (y + 1) (v * (1 + 3 * S.1.1) + (1 + i)) * nI (vz S v 2) / nI 8) S.1.1 = smI (fun w => J (y + 1) (v * (1 + 3 * S.1.1) + (1 + (0 * S.1.1 + w))) * nI (vz S v 2) / nI 8) S.1.1 := smI_c _ (fun w _ => by rw [show 0 * S.1.1 + w = w by omega])
    have d1 : smI (fun k => J (y + 1) (v * (1 + 3 * S.1.1) + (1 + (S.1.1 + k))) * nI (vz S v 2) / nI 8) S.1.1 = smI (fun w => J (y + 1) (v * (1 + 3 * S.1.1) + (1 + (1 * S.1.1 + w))) * nI (vz S v 2) / nI 8) S.1.1 := smI_c _ (fun w _ => by rw [Nat.one_mul])
    rw [c0, b0, d0, d1]
    rw [show smI (fun k => old (9 + (9 + k) + 27 * v) * nI (vz S v 2) / nI 8) 9 = _ from b1, show smI (fun k => old (9 + (2 * 9 + k) + 27 * v) * nI (vz S v 2) / nI 8) 9 = _ from b2]
  rw [f4_a hM hS (by omega) _ (Nat.le_refl _), hr, smI_c (g := fun v => smI (fun i => J (y + 1) (v * (1 + 3 * S.1.1) + (1 + i)) * nI (vz S v 2) / nI 8) (3 * S.1.1)) _ (fun v hv => by rw [if_neg (by omega), e1 v hv, nI_zero, Int32.zero_add]), hF.2.2.1]
  unfold flG
  rw [gvR_2]
theorem cnt_o {k : Nat} (hM : MT I S) (hS : TnV S) (hk : 252 ≤ k) (h1 : ¬ (468 ≤ k ∧ k < 496)) (h2 : ¬ (497 ≤ k ∧ k < 501)) : f4 I S.1.2 old S.1.1 r k = r k := by
  rw [f4_a hM hS hk _ (Nat.le_refl _), smI_z _ (fun v hv => ?_), nI_zero, Int32.add_zero]
  rw [if_neg (by omega), smI_z _ (fun κ hκ => ?_)]
  · rfl
  · unfold acX
    rw [if_neg (by omega), if_neg (by omega), if_neg (by omega)]
    rfl
end Cnu
