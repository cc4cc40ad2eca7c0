/-! sums of the days, 5: what is counted of the model's flow -/
section Mac
variable {I : Iv} {S : Tn} {n : Int32} {v k : Nat} {r old : Nat → Int32}
theorem flR_aw (hM : MT I S) (hS : TnV S) (hv : v < S.1.1) (hk : 252 ≤ k) : flR I S.1.2 n v 0 1 r k = r k + (if k = 497 then tpX S v n else nI 0) := by
  have s9 := hS.1
  unfold flR
  by_cases h0 : n = nI 0
  · rw [if_pos h0, h0, tp_0]
    by_cases e : k = 497
    · rw [if_pos e, nI_zero, Int32.add_zero]
    · rw [if_neg e, nI_zero, Int32.add_zero]
  · rw [if_neg h0]
    dsimp only
    have key : ∀ k, 252 ≤ k → ru (chR I n v 0 1 S.1.2 r) (0 + 1 * v) (chR I n v 0 1 S.1.2 r (0 + 1 * v) - (toT I n v + toG I n v)) k = r k := fun k hk => by
      rw [ru_n (by omega), chR_n hM hS (by omega) (fun z hz => by omega) _ (Nat.le_refl _)]
    rw [if_pos (by omega)]
    by_cases e : k = 497
    · rw [if_pos e, e, ru_s, key 497 (by decide), toT_X hM hS hv]
    · rw [if_neg e, ru_n e, key k hk, nI_zero, Int32.add_zero]
theorem flR_ah {κ : Nat} (hM : MT I S) (hS : TnV S) (hv : v < S.1.1) (hκ : κ < 27) (hk : 252 ≤ k) : flR I S.1.2 n v (9 + κ) 27 r k = r k + ((if k = 498 + κ / 9 then tpX S v n else nI 0) + (if k = 468 + 3 * (κ % 9) + κ / 9 then tpX S v n else nI 0) + (if k = 495 then n * nI (vz S v 2) / nI 8 else nI 0)) := by
  have s9 := hS.1
  unfold flR
  by_cases h0 : n = nI 0
  · rw [if_pos h0, h0, tp_0, show nI 0 * nI (vz S v 2) / nI 8 = nI 0 by rw [nI_zero, Int32.zero_mul]; decide]
    simp only [ite_self]
    exact (Int32.add_zero _).symm
  · rw [if_neg h0]
    dsimp only
    have e1 : (9 + κ + 27 * v - 9) / 9 % 3 = κ / 9 := by omega
    have e2 : (9 + κ + 27 * v - 9) % 9 = κ % 9 := by omega
    have key : ∀ k, 252 ≤ k → ru (chR I n v (9 + κ) 27 S.1.2 r) (9 + κ + 27 * v) (chR I n v (9 + κ) 27 S.1.2 r (9 + κ + 27 * v) - (toT I n v + toG I n v)) k = r k := fun k hk => by
      rw [ru_n (by omega), chR_n hM hS (by omega) (fun z hz => by omega) _ (Nat.le_refl _)]
    rw [if_neg (by omega), e1, e2]
    have h3 : κ / 9 < 3 := by omega
    have h9 : κ % 9 < 9 := by omega
    generalize κ / 9 = h at h3 ⊢
    generalize κ % 9 = w at h9 ⊢
    rw [toT_X hM hS hv, toG_X hM hv]
    rw [toT_X hM hS hv, toG_X hM hv] at key
    by_cases k1 : k = 495
    · subst k1
      rw [ru_s, ru_n (by omega), ru_n (by omega), key 495 (by decide), if_neg (by omega), if_neg (by omega), if_pos rfl, nI_zero]
      grind
    · rw [ru_n k1, if_neg k1]
      by_cases k2 : k = 468 + 3 * w + h
      · rw [← k2, ru_s, ru_n (by omega), key k hk, if_neg (by omega), if_pos rfl, nI_zero]
        grind
      · rw [ru_n k2, if_neg k2]
        by_cases k3 : k = 498 + h
        · rw [← k3, ru_s, key k hk, if_pos rfl, nI_zero]
          grind
        · rw [ru_n k3, if_neg k3, key k hk, nI_zero]
          grind
/-- what an herb's item counts at k -/
def acX (S : Tn) (old : Nat → Int32) (k v κ : Nat) : Int32 := (if k = 498 + κ / 9 then tpX S v (old (9 + κ + 27 * v)) else nI 0) + (if k = 468 + 3 * (κ % 9) + κ / 9 then tpX S v (old (9 + κ + 27 * v)) else nI 0) + (if k = 495 then old (9 + κ + 27 * v) * nI (vz S v 2) / nI 8 else nI 0)
theorem f4k_a (hM : MT I S) (hS : TnV S) (hv : v < S.1.1) (hk : 252 ≤ k) : ∀ K, K ≤ 27 → f4k I S.1.2 old v K r k = r k + ((if k = 497 then tpX S v (old v) else nI 0) + smI (acX S old k v) K)
  | 0, _ => by
    unfold f4k
    rw [flR_aw hM hS hv hk, show 0 + 1 * v = v by omega]
    show _ = _ + (_ + nI 0)
    rw [nI_zero]
    grind
  | K + 1, hK => by
    unfold f4k
    rw [flR_ah hM hS hv (by omega) hk, f4k_a hM hS hv hk K (by omega)]
    show _ = _ + (_ + (_ + acX S old k v K))
    unfold acX
    grind
theorem f4_a (hM : MT I S) (hS : TnV S) (hk : 252 ≤ k) : ∀ m, m ≤ S.1.1 → f4 I S.1.2 old m r k = r k + smI (fun v => (if k = 497 then tpX S v (old v) else nI 0) + smI (acX S old k v) 27) m
  | 0, _ => (Int32.add_zero _).symm
  | m + 1, hm => by
    unfold f4
    rw [f4k_a hM hS (by omega) hk 27 (Nat.le_refl _), f4_a hM hS hk m (by omega)]
    show _ = _ + (_ + _)
    grind
end Mac
