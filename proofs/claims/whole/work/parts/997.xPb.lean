/-! sums of the days, 2: the class's flow, closed -/
theorem z_div (b : Int32) : b * nI 0 / nI 8 = nI 0 := by
  rw [nI_zero, Int32.mul_zero]
  decide
theorem taR_1 {bas : Nat → Int32} {nV u x i : Nat} {p : Int32} {q : T3} (hi : i < 1 + 3 * nV) : (taR bas nV u p q).1 (x * (1 + 3 * nV) + i) = q.1 (x * (1 + 3 * nV) + i) - (if x = u then bas (u * (1 + 3 * nV) + i) * p / nI 8 else nI 0) := by
  unfold taR
  rw [thR_1 hi 3 (Nat.le_refl _)]
  dsimp only
  by_cases e : x = u
  · subst e
    rw [if_pos rfl]
    by_cases h0 : i = 0
    · subst h0
      rw [Nat.add_zero, ru_s, if_neg (by omega), nI_zero, Int32.sub_zero]
    · rw [ru_n (by omega), if_pos ⟨rfl, by omega, by omega⟩]
  · rw [if_neg e, if_neg (fun z => e z.1), ru_n (fun z => e (blk_inj (j := 0) hi (by omega) (by omega)).1)]
theorem taR_20 {bas : Nat → Int32} {nV u : Nat} {p : Int32} {q : T3} : (taR bas nV u p q).2.1 0 = bas (u * (1 + 3 * nV)) * p / nI 8 := by
  unfold taR
  rw [thR_2, if_neg (by omega)]
  dsimp only
  rw [ru_s]
  exact Int32.add_zero _
theorem taR_2 {bas : Nat → Int32} {nV u h : Nat} {p : Int32} {q : T3} (hh : h < 3) : (taR bas nV u p q).2.1 (1 + h) = q.2.1 (1 + h) + smI (fun w => bas (cl nV u h w) * p / nI 8) nV := by
  unfold taR
  rw [thR_2, if_pos (by omega), Nat.add_sub_cancel_left]
  dsimp only
  rw [ru_n (by omega)]
theorem taR_3 {bas : Nat → Int32} {nV u h w : Nat} {p : Int32} {q : T3} (hh : h < 3) (hw : w < nV) : (taR bas nV u p q).2.2 (w * 3 + h) = q.2.2 (w * 3 + h) + bas (cl nV u h w) * p / nI 8 := by
  unfold taR
  rw [thR_3 hh 3 (Nat.le_refl _), if_pos ⟨hh, hw⟩]
theorem lgR_1 {bas : Nat → Int32} {W v x i : Nat} {p : Int32} {q : (Nat → Int32) × Int32} (hi : i < W) : ∀ m, m < W → (lgR bas (v * W) p m q).1 (x * W + i) = q.1 (x * W + i) - (if x = v ∧ 1 ≤ i ∧ i < 1 + m then bas (v * W + i) * p / nI 8 else nI 0)
  | 0, _ => by
    rw [if_neg (by omega), nI_zero, Int32.sub_zero]
    rfl
  | m + 1, hm => by
    have ih := lgR_1 (bas := bas) (v := v) (x := x) (p := p) (q := q) hi m (by omega)
    show ru (lgR bas (v * W) p m q).1 (v * W + (1 + m)) _ _ = _
    by_cases e : x = v ∧ i = 1 + m
    · obtain ⟨rfl, rfl⟩ := e
      rw [ru_s, ih, if_neg (by omega), if_pos ⟨rfl, by omega, by omega⟩, nI_zero, Int32.sub_zero]
    · rw [ru_n (fun z => e (blk_inj hi (by omega) z)), ih]
      by_cases e2 : x = v ∧ 1 ≤ i ∧ i < 1 + m
      · rw [if_pos e2, if_pos ⟨e2.1, e2.2.1, by omega⟩]
      · rw [if_neg e2, if_neg (fun z => e ⟨z.1, by have := z.2; omega⟩)]
theorem lgR_2 {bas : Nat → Int32} {s : Nat} {p : Int32} {q : (Nat → Int32) × Int32} : ∀ m, (lgR bas s p m q).2 = q.2 + smI (fun i => bas (s + (1 + i)) * p / nI 8) m
  | 0 => (Int32.add_zero _).symm
  | m + 1 => by
    show (lgR bas s p m q).2 + _ = _ + (_ + _)
    rw [lgR_2 m]
    grind
theorem gdR_1 {bas : Nat → Int32} {nV v x i : Nat} {p : Int32} {q : (Nat → Int32) × Int32} (hi : i < 1 + 3 * nV) : (gdR bas nV v p q).1 (x * (1 + 3 * nV) + i) = q.1 (x * (1 + 3 * nV) + i) - (if x = v then bas (v * (1 + 3 * nV) + i) * p / nI 8 else nI 0) := by
  unfold gdR
  by_cases hp : p = nI 0
  · rw [if_pos hp, hp, z_div]
    by_cases e : x = v
    · rw [if_pos e, nI_zero, Int32.sub_zero]
    · rw [if_neg e, nI_zero, Int32.sub_zero]
  · rw [if_neg hp, lgR_1 hi _ (by omega)]
    dsimp only
    by_cases e : x = v
    · subst e
      rw [if_pos rfl]
      by_cases h0 : i = 0
      · subst h0
        rw [Nat.add_zero, ru_s, if_neg (by omega), nI_zero, Int32.sub_zero]
      · rw [ru_n (by omega), if_pos ⟨rfl, by omega, by omega⟩]
    · rw [if_neg e, if_neg (fun z => e z.1), ru_n (fun z => e (blk_inj (j := 0) hi (by omega) (by omega)).1)]
theorem gdR_2 {bas : Nat → Int32} {nV v : Nat} {p : Int32} {q : (Nat → Int32) × Int32} : (gdR bas nV v p q).2 = q.2 + smI (fun i => bas (v * (1 + 3 * nV) + (1 + i)) * p / nI 8) (3 * nV) := by
  unfold gdR
  by_cases hp : p = nI 0
  · rw [if_pos hp, hp, smI_z _ (fun k _ => z_div _), nI_zero, Int32.add_zero]
  · rw [if_neg hp, lgR_2]
theorem gvR_1 {bas : Nat → Int32} {S : Tn} {x i : Nat} {q : (Nat → Int32) × Int32} (hi : i < 1 + 3 * S.1.1) : ∀ m, (gvR bas S m q).1 (x * (1 + 3 * S.1.1) + i) = q.1 (x * (1 + 3 * S.1.1) + i) - (if x < m then bas (x * (1 + 3 * S.1.1) + i) * nI (vz S x 2) / nI 8 else nI 0)
  | 0 => by
    rw [if_neg (by omega), nI_zero, Int32.sub_zero]
    rfl
  | m + 1 => by
    unfold gvR
    rw [gdR_1 hi, gvR_1 hi m]
    by_cases e : x = m
    · subst e
      rw [if_neg (by omega), if_pos rfl, if_pos (by omega), nI_zero, Int32.sub_zero]
    · rw [if_neg e, nI_zero, Int32.sub_zero]
      by_cases e2 : x < m
      · rw [if_pos e2, if_pos (by omega)]
      · rw [if_neg e2, if_neg (by omega)]
theorem gvR_2 {bas : Nat → Int32} {S : Tn} {q : (Nat → Int32) × Int32} : ∀ m, (gvR bas S m q).2 = q.2 + smI (fun v => smI (fun i => bas (v * (1 + 3 * S.1.1) + (1 + i)) * nI (vz S v 2) / nI 8) (3 * S.1.1)) m
  | 0 => (Int32.add_zero _).symm
  | m + 1 => by
    unfold gvR
    rw [gdR_2, gvR_2 m]
    show _ = _ + (_ + _)
    grind
/-- what the tap takes of village x's item worth n -/
def tpX (S : Tn) (x : Nat) (n : Int32) : Int32 := if S.2.1.1 = some x then n * nI S.2.1.2.1 / nI 8 else nI 0
theorem tpR_1 {bas : Nat → Int32} {S : Tn} {x i : Nat} {q : T3} (hi : i < 1 + 3 * S.1.1) : (tpR bas S q).1 (x * (1 + 3 * S.1.1) + i) = q.1 (x * (1 + 3 * S.1.1) + i) - tpX S x (bas (x * (1 + 3 * S.1.1) + i)) := by
  unfold tpR tpX
  cases h : S.2.1.1 with
  | none => rw [if_neg (by simp), nI_zero, Int32.sub_zero]
  | some u =>
    dsimp only
    rw [taR_1 hi]
    by_cases e : x = u
    · subst e
      rw [if_pos rfl, if_pos rfl]
    · rw [if_neg e, if_neg (fun z => e (Option.some.inj z).symm)]
/-- the flow: what is in x's item i behind it -/
theorem flow_1 {J K : Iv} {y x i : Nat} {S : Tn} (h : FlP J K y S) (hx : x < S.1.1) (hi : i < 1 + 3 * S.1.1) : K (y + 1) (x * (1 + 3 * S.1.1) + i) = J (y + 1) (x * (1 + 3 * S.1.1) + i) + (dlS (J (y + 1)) S x i - tpX S x (J (y + 1) (x * (1 + 3 * S.1.1) + i)) - J (y + 1) (x * (1 + 3 * S.1.1) + i) * nI (vz S x 2) / nI 8) := by
  have hk : x * (1 + 3 * S.1.1) + i < S.1.1 * (1 + 3 * S.1.1) := by
    have : (x + 1) * (1 + 3 * S.1.1) ≤ S.1.1 * (1 + 3 * S.1.1) := Nat.mul_le_mul_right _ hx
    rw [Nat.add_mul, Nat.one_mul] at this
    omega
  rw [h.2.2.2.2.2.1 _ hk]
  unfold flG flQ
  rw [gvR_1 hi, if_pos hx]
  dsimp only
  rw [tpR_1 hi]
  dsimp only
  rw [clR_c hi]
  have h0 : ch0 J S (x * (1 + 3 * S.1.1) + i) = nI 0 := if_pos ⟨rfl, Nat.zero_le _, hk⟩
  rw [h0]
  unfold dlS
  rw [nI_zero, Int32.zero_add]
