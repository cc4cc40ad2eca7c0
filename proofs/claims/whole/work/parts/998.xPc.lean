/-! sums of the days, 3: the model's flow, closed -/
/-- the town in the model -/
def MT (I : Iv) (S : Tn) : Prop := I 500004 2 = tvI S.2.1.1 ∧ I 500004 3 = nI S.2.1.2.1 ∧ (∀ c, c < S.1.2 → I (500047 + c) 0 = nI (S.2.2.2 c 0) ∧ I (500047 + c) 1 = nI (S.2.2.2 c 1) ∧ I (500047 + c) 2 = nI (S.2.2.2 c 2)) ∧ ∀ v, v < S.1.1 → ∀ j, j < 8 → I (500016 + v) j = nI (S.2.2.1 v j)
/-- what v's channels add at x -/
def dmX (S : Tn) (v x : Nat) (n : Int32) (c : Nat) : Int32 := if S.2.2.2 c 0 = v then dlX v (S.2.2.2 c 1) x (n * nI (S.2.2.2 c 2) / nI 8) else nI 0
section Mfl
variable {I : Iv} {S : Tn} {n : Int32} {v b st x : Nat} {r : Nat → Int32}
theorem chR_c (hM : MT I S) (hS : TnV S) (hst : 1 ≤ st) (hv9 : v < 9) (hx : x < 9) : ∀ m, m ≤ S.1.2 → chR I n v b st m r (b + st * x) = r (b + st * x) + smI (dmX S v x n) m
  | 0, _ => (Int32.add_zero _).symm
  | m + 1, hm => by
    have ih := chR_c hM hS hst hv9 hx m (by omega)
    obtain ⟨c0, c1, c2⟩ := hM.2.2.1 m (by omega)
    obtain ⟨s0, s1, s2⟩ := hS.2.2.2.2.2.1 m (by omega)
    have s9 := hS.1
    have inj : ∀ z, b + st * x = b + st * z → x = z := fun z e => Nat.eq_of_mul_eq_mul_left (show 0 < st by omega) (by omega)
    unfold chR
    dsimp only
    rw [c0, c1, c2, nI_clamp (by omega)]
    show _ = _ + (smI (dmX S v x n) m + dmX S v x n m)
    by_cases e : S.2.2.2 m 0 = v
    · rw [if_pos (by rw [e]), show dmX S v x n m = dlX v (S.2.2.2 m 1) x (n * nI (S.2.2.2 m 2) / nI 8) from if_pos e]
      generalize n * nI (S.2.2.2 m 2) / nI 8 = w
      unfold dlX
      by_cases xg : x = S.2.2.2 m 1
      · rw [← xg, ru_s, if_pos rfl]
        by_cases xf : x = v
        · subst xf
          rw [ru_s, if_pos rfl, ih]
          grind
        · rw [ru_n (fun z => xf (inj _ z)), if_neg xf, ih, nI_zero]
          grind
      · rw [ru_n (fun z => xg (inj _ z)), if_neg xg]
        by_cases xf : x = v
        · subst xf
          rw [ru_s, if_pos rfl, ih, nI_zero]
          grind
        · rw [ru_n (fun z => xf (inj _ z)), if_neg xf, ih, nI_zero]
          grind
    · rw [if_neg (fun z => e ((nI_eq (by omega) (by omega)).mp z)), ih, show dmX S v x n m = nI 0 from if_neg e, nI_zero, Int32.add_zero]
theorem chR_n {k : Nat} (hM : MT I S) (hS : TnV S) (hv9 : v < 9) (hk : ∀ x, x < 9 → k ≠ b + st * x) : ∀ m, m ≤ S.1.2 → chR I n v b st m r k = r k
  | 0, _ => rfl
  | m + 1, hm => by
    have ih := chR_n hM hS hv9 hk m (by omega)
    obtain ⟨c0, c1, c2⟩ := hM.2.2.1 m (by omega)
    obtain ⟨s0, s1, s2⟩ := hS.2.2.2.2.2.1 m (by omega)
    have s9 := hS.1
    unfold chR
    dsimp only
    rw [c1, nI_clamp (by omega)]
    by_cases e : I (500047 + m) 0 = nI v
    · rw [if_pos e, ru_n (hk _ (by omega)), ru_n (hk _ hv9), ih]
    · rw [if_neg e, ih]
theorem dm_0 {m : Nat} : smI (dmX S v x (nI 0)) m = nI 0 := smI_z _ (fun c _ => by
  unfold dmX
  by_cases e : S.2.2.2 c 0 = v
  · rw [if_pos e]
    have : nI 0 * nI (S.2.2.2 c 2) / nI 8 = nI 0 := by rw [nI_zero, Int32.zero_mul]; decide
    rw [this]
    unfold dlX
    by_cases a : x = S.2.2.2 c 1 <;> by_cases b : x = v
    · rw [if_pos a, if_pos b]; rfl
    · rw [if_pos a, if_neg b]; rfl
    · rw [if_neg a, if_pos b]; rfl
    · rw [if_neg a, if_neg b]; rfl
  · rw [if_neg e])
theorem toT_X (hM : MT I S) (hS : TnV S) (hv : v < S.1.1) : toT I n v = tpX S v n := by
  unfold toT tpX
  rw [hM.1, hM.2.1]
  have s9 := hS.1
  cases h : S.2.1.1 with
  | none =>
    rw [if_neg (show ¬ tvI none = nI v from fun z => nI_nm (show v < 1000 by omega) z.symm), if_neg (by simp)]
  | some u =>
    have hu := hS.2.2.1 u h
    by_cases e : u = v
    · subst e
      rw [if_pos (show tvI (some u) = nI u from rfl), if_pos rfl]
    · rw [if_neg (show ¬ tvI (some u) = nI v from fun z => e ((nI_eq (by omega) (by omega)).mp z)), if_neg (fun z => e (Option.some.inj z))]
theorem toG_X (hM : MT I S) (hv : v < S.1.1) : toG I n v = n * nI (vz S v 2) / nI 8 := by
  unfold toG vz
  rw [if_pos hv, hM.2.2.2 v hv 2 (by decide)]
theorem tp_0 : tpX S v (nI 0) = nI 0 := by
  unfold tpX
  have : ∀ p : Int32, nI 0 * p / nI 8 = nI 0 := fun p => by rw [nI_zero, Int32.zero_mul]; decide
  by_cases e : S.2.1.1 = some v
  · rw [if_pos e, this]
  · rw [if_neg e]
/-- an item's flow: at the item -/
theorem flR_c (hM : MT I S) (hS : TnV S) (hst : 1 ≤ st) (hv : v < S.1.1) (hx : x < 9) (hb : ∀ z, z < 9 → b + st * z < 252) : flR I S.1.2 n v b st r (b + st * x) = r (b + st * x) + (smI (dmX S v x n) S.1.2 - (if x = v then tpX S v n + n * nI (vz S v 2) / nI 8 else nI 0)) := by
  have s9 := hS.1
  have hbx := hb x hx
  have hbv := hb v (by omega)
  unfold flR
  by_cases h0 : n = nI 0
  · rw [if_pos h0, h0, dm_0, tp_0, show nI 0 * nI (vz S v 2) / nI 8 = nI 0 by rw [nI_zero, Int32.zero_mul]; decide]
    by_cases e : x = v
    · rw [if_pos e, nI_zero]; grind
    · rw [if_neg e, nI_zero]; grind
  · rw [if_neg h0]
    dsimp only
    have key : ru (chR I n v b st S.1.2 r) (b + st * v) (chR I n v b st S.1.2 r (b + st * v) - (toT I n v + toG I n v)) (b + st * x) = r (b + st * x) + (smI (dmX S v x n) S.1.2 - (if x = v then tpX S v n + n * nI (vz S v 2) / nI 8 else nI 0)) := by
      rw [toT_X hM hS hv, toG_X hM hv]
      by_cases e : x = v
      · subst e
        rw [ru_s, if_pos rfl, chR_c hM hS hst (by omega) hx _ (Nat.le_refl _)]
        grind
      · rw [ru_n (fun z => e (Nat.eq_of_mul_eq_mul_left (show 0 < st by omega) (by omega))), if_neg e, chR_c hM hS hst (by omega) hx _ (Nat.le_refl _), nI_zero]
        grind
    by_cases h9 : b + st * v < 9
    · rw [if_pos h9, ru_n (by omega)]
      exact key
    · rw [if_neg h9, ru_n (by omega), ru_n (by omega), ru_n (by omega)]
      exact key
/-- and elsewhere among the items -/
theorem flR_n {k : Nat} (hM : MT I S) (hS : TnV S) (hv : v < S.1.1) (hb : ∀ z, z < 9 → b + st * z < 252) (hk : ∀ x, x < 9 → k ≠ b + st * x) (hk2 : k < 468) : flR I S.1.2 n v b st r k = r k := by
  have s9 := hS.1
  unfold flR
  by_cases h0 : n = nI 0
  · rw [if_pos h0]
  · rw [if_neg h0]
    dsimp only
    have key : ru (chR I n v b st S.1.2 r) (b + st * v) (chR I n v b st S.1.2 r (b + st * v) - (toT I n v + toG I n v)) k = r k := by
      rw [ru_n (hk v (by omega)), chR_n hM hS (by omega) hk _ (Nat.le_refl _)]
    by_cases h9 : b + st * v < 9
    · rw [if_pos h9, ru_n (by omega)]
      exact key
    · rw [if_neg h9, ru_n (by omega), ru_n (by omega), ru_n (by omega)]
      exact key
end Mfl
