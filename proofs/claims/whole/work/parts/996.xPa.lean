/-! sums of the days, 1: the class's flow -/
theorem blk_inj {W x i f j : Nat} (hi : i < W) (hj : j < W) (h : x * W + i = f * W + j) : x = f ∧ i = j := by
  have h1 : (x * W + i) / W = x := by rw [Nat.mul_comm, Nat.mul_add_div (by omega), Nat.div_eq_of_lt hi, Nat.add_zero]
  have h2 : (f * W + j) / W = f := by rw [Nat.mul_comm, Nat.mul_add_div (by omega), Nat.div_eq_of_lt hj, Nat.add_zero]
  have : x = f := by rw [← h1, h, h2]
  subst this
  exact ⟨rfl, by omega⟩
/-- what a channel from F to G adds at x -/
def dlX (F G x : Nat) (e : Int32) : Int32 := (if x = G then e else nI 0) - (if x = F then e else nI 0)
theorem nI_zero : nI 0 = 0 := rfl
theorem laR_c {bas r : Nat → Int32} {W F G x i : Nat} {p : Int32} (hi : i < W) : ∀ m, m ≤ W → laR bas (F * W) (G * W) p m r (x * W + i) = r (x * W + i) + if i < m then dlX F G x (ldR bas p (F * W + i)) else nI 0
  | 0, _ => by
    rw [if_neg (by omega), nI_zero, Int32.add_zero]
    rfl
  | m + 1, hm => by
    have ih := laR_c (bas := bas) (r := r) (F := F) (G := G) (x := x) (p := p) hi m (by omega)
    have hF : x * W + i = F * W + m → x = F ∧ i = m := blk_inj hi (by omega)
    have hG : x * W + i = G * W + m → x = G ∧ i = m := blk_inj hi (by omega)
    unfold laR
    by_cases q : nI 0 < bas (F * W + m)
    · rw [if_pos q]
      by_cases hm' : i = m
      · subst hm'
        rw [if_pos (by omega)]
        rw [if_neg (by omega)] at ih
        have el : ldR bas p (F * W + i) = bas (F * W + i) * p / nI 8 := if_pos q
        rw [el]
        generalize bas (F * W + i) * p / nI 8 = e
        unfold dlX
        by_cases xg : x = G
        · subst xg
          rw [ru_s, if_pos rfl]
          by_cases xf : x = F
          · subst xf
            rw [ru_s, if_pos rfl, ih, nI_zero]
            grind
          · rw [if_neg xf, ru_n (fun z => xf (hF z).1), ih, nI_zero]
            grind
        · rw [ru_n (fun z => xg (hG z).1), if_neg xg]
          by_cases xf : x = F
          · subst xf
            rw [ru_s, if_pos rfl, ih, nI_zero]
            grind
          · rw [if_neg xf, ru_n (fun z => xf (hF z).1), ih, nI_zero]
            grind
      · rw [ru_n (fun z => hm' (hG z).2), ru_n (fun z => hm' (hF z).2), ih]
        by_cases h2 : i < m
        · rw [if_pos h2, if_pos (by omega)]
        · rw [if_neg h2, if_neg (by omega)]
    · rw [if_neg q, ih]
      by_cases hm' : i = m
      · subst hm'
        rw [if_neg (by omega), if_pos (by omega)]
        have el : ldR bas p (F * W + i) = nI 0 := if_neg q
        rw [el]
        unfold dlX
        by_cases xg : x = G <;> by_cases xf : x = F
        · rw [if_pos xg, if_pos xf]; rfl
        · rw [if_pos xg, if_neg xf]; rfl
        · rw [if_neg xg, if_pos xf]; rfl
        · rw [if_neg xg, if_neg xf]; rfl
      · by_cases h2 : i < m
        · rw [if_pos h2, if_pos (by omega)]
        · rw [if_neg h2, if_neg (by omega)]
/-- all channels at x, item i -/
def dlS (bas : Nat → Int32) (S : Tn) (x i : Nat) : Int32 := smI (fun c => dlX (S.2.2.2 c 0) (S.2.2.2 c 1) x (ldR bas (nI (S.2.2.2 c 2)) (S.2.2.2 c 0 * (1 + 3 * S.1.1) + i))) S.1.2
theorem clR_c {bas r : Nat → Int32} {S : Tn} {x i : Nat} (hi : i < 1 + 3 * S.1.1) : ∀ c, clR bas S c r (x * (1 + 3 * S.1.1) + i) = r (x * (1 + 3 * S.1.1) + i) + smI (fun c => dlX (S.2.2.2 c 0) (S.2.2.2 c 1) x (ldR bas (nI (S.2.2.2 c 2)) (S.2.2.2 c 0 * (1 + 3 * S.1.1) + i))) c
  | 0 => (Int32.add_zero _).symm
  | c + 1 => by
    unfold clR
    rw [laR_c hi _ (Nat.le_refl _), if_pos hi, clR_c hi c]
    show _ = _ + (_ + _)
    grind
theorem cl_i {nV v h w : Nat} : cl nV v h w = v * (1 + 3 * nV) + (1 + h * nV + w) := by unfold cl; omega
theorem it_lt {nV h w : Nat} (hh : h < 3) (hw : w < nV) : 1 + h * nV + w < 1 + 3 * nV := by
  have : h * nV ≤ 2 * nV := Nat.mul_le_mul_right _ (by omega)
  omega
theorem it_inj {nV h w h' w' : Nat} (hw : w < nV) (hw' : w' < nV) (e : 1 + h * nV + w = 1 + h' * nV + w') : h = h' ∧ w = w' := blk_inj hw hw' (by omega)
theorem smI_z {f : Nat → Int32} : ∀ n, (∀ k, k < n → f k = nI 0) → smI f n = nI 0
  | 0, _ => rfl
  | n + 1, h => by
    show smI f n + f n = nI 0
    rw [smI_z n (fun k hk => h k (by omega)), h n (by omega)]
    rfl
/-- the tap, closed -/
theorem twR_1 {bas : Nat → Int32} {nV u h x i : Nat} {p : Int32} {q : T3} (hh : h < 3) (hi : i < 1 + 3 * nV) : ∀ m, m ≤ nV → (twR bas nV u p h m q).1 (x * (1 + 3 * nV) + i) = q.1 (x * (1 + 3 * nV) + i) - (if x = u ∧ 1 + h * nV ≤ i ∧ i < 1 + h * nV + m then bas (u * (1 + 3 * nV) + i) * p / nI 8 else nI 0)
  | 0, _ => by
    rw [if_neg (by omega), nI_zero, Int32.sub_zero]
    rfl
  | m + 1, hm => by
    have ih := twR_1 (bas := bas) (u := u) (x := x) (p := p) (q := q) hh hi m (by omega)
    show ru (twR bas nV u p h m q).1 (cl nV u h m) _ _ = _
    by_cases e : x = u ∧ i = 1 + h * nV + m
    · obtain ⟨rfl, rfl⟩ := e
      rw [← cl_i, ru_s, cl_i, ih, if_neg (by omega), if_pos ⟨rfl, by omega, by omega⟩, nI_zero, Int32.sub_zero]
    · rw [ru_n (fun z => e (by rw [cl_i] at z; exact blk_inj hi (it_lt hh (by omega)) z)), ih]
      by_cases e2 : x = u ∧ 1 + h * nV ≤ i ∧ i < 1 + h * nV + m
      · rw [if_pos e2, if_pos ⟨e2.1, e2.2.1, by omega⟩]
      · rw [if_neg e2, if_neg (fun z => e ⟨z.1, by have := z.2; omega⟩)]
theorem twR_2 {bas : Nat → Int32} {nV u h k : Nat} {p : Int32} {q : T3} : ∀ m, (twR bas nV u p h m q).2.1 k = q.2.1 k + (if k = 1 + h then smI (fun w => bas (cl nV u h w) * p / nI 8) m else nI 0)
  | 0 => by
    by_cases e : k = 1 + h
    · rw [if_pos e]; exact (Int32.add_zero _).symm
    · rw [if_neg e]; exact (Int32.add_zero _).symm
  | m + 1 => by
    have ih := twR_2 (bas := bas) (nV := nV) (u := u) (h := h) (k := k) (p := p) (q := q) m
    show ru (twR bas nV u p h m q).2.1 (1 + h) _ k = _
    by_cases e : k = 1 + h
    · subst e
      rw [ru_s, ih, if_pos rfl, if_pos rfl]
      show _ = _ + (_ + _)
      grind
    · rw [ru_n e, ih, if_neg e, if_neg e]
theorem twR_3 {bas : Nat → Int32} {nV u h w' h' : Nat} {p : Int32} {q : T3} (hh : h < 3) (hh' : h' < 3) : ∀ m, (twR bas nV u p h m q).2.2 (w' * 3 + h') = q.2.2 (w' * 3 + h') + (if h' = h ∧ w' < m then bas (cl nV u h w') * p / nI 8 else nI 0)
  | 0 => by
    rw [if_neg (by omega)]
    exact (Int32.add_zero _).symm
  | m + 1 => by
    have ih := twR_3 (bas := bas) (nV := nV) (u := u) (w' := w') (p := p) (q := q) hh hh' m
    show ru (twR bas nV u p h m q).2.2 (m * 3 + h) _ _ = _
    by_cases e : w' * 3 + h' = m * 3 + h
    · have e1 : w' = m := by omega
      have e2 : h' = h := by omega
      subst e1 e2
      rw [ru_s, ih, if_neg (by omega), if_pos ⟨rfl, by omega⟩, nI_zero, Int32.add_zero]
    · rw [ru_n e, ih]
      by_cases e2 : h' = h ∧ w' < m
      · rw [if_pos e2, if_pos ⟨e2.1, by omega⟩]
      · rw [if_neg e2, if_neg (fun z => e (by have := z.1; have := z.2; omega))]
theorem thR_1 {bas : Nat → Int32} {nV u x i : Nat} {p : Int32} {q : T3} (hi : i < 1 + 3 * nV) : ∀ m, m ≤ 3 → (thR bas nV u p m q).1 (x * (1 + 3 * nV) + i) = q.1 (x * (1 + 3 * nV) + i) - (if x = u ∧ 1 ≤ i ∧ i < 1 + m * nV then bas (u * (1 + 3 * nV) + i) * p / nI 8 else nI 0)
  | 0, _ => by
    rw [if_neg (by omega), nI_zero, Int32.sub_zero]
    rfl
  | m + 1, hm => by
    unfold thR
    rw [twR_1 (by omega) hi nV (Nat.le_refl _), thR_1 hi m (by omega)]
    have hmn : (m + 1) * nV = m * nV + nV := by rw [Nat.add_mul, Nat.one_mul]
    rw [hmn]
    by_cases e1 : x = u ∧ 1 ≤ i ∧ i < 1 + m * nV
    · rw [if_pos e1, if_neg (by omega), if_pos ⟨e1.1, e1.2.1, by omega⟩, nI_zero, Int32.sub_zero]
    · rw [if_neg e1, nI_zero, Int32.sub_zero]
      by_cases e2 : x = u ∧ 1 + m * nV ≤ i ∧ i < 1 + m * nV + nV
      · rw [if_pos e2, if_pos ⟨e2.1, by omega, by omega⟩]
      · rw [if_neg e2, if_neg (by omega)]
theorem thR_2 {bas : Nat → Int32} {nV u k : Nat} {p : Int32} {q : T3} : ∀ m, (thR bas nV u p m q).2.1 k = q.2.1 k + (if 1 ≤ k ∧ k < 1 + m then smI (fun w => bas (cl nV u (k - 1) w) * p / nI 8) nV else nI 0)
  | 0 => by
    rw [if_neg (by omega)]
    exact (Int32.add_zero _).symm
  | m + 1 => by
    unfold thR
    rw [twR_2, thR_2 m]
    by_cases e1 : k = 1 + m
    · subst e1
      rw [if_neg (by omega), if_pos rfl, if_pos (by omega), nI_zero, Int32.add_zero, Nat.add_sub_cancel_left]
    · rw [if_neg e1, nI_zero, Int32.add_zero]
      by_cases e2 : 1 ≤ k ∧ k < 1 + m
      · rw [if_pos e2, if_pos (by omega)]
      · rw [if_neg e2, if_neg (by omega)]
theorem thR_3 {bas : Nat → Int32} {nV u w' h' : Nat} {p : Int32} {q : T3} (hh' : h' < 3) : ∀ m, m ≤ 3 → (thR bas nV u p m q).2.2 (w' * 3 + h') = q.2.2 (w' * 3 + h') + (if h' < m ∧ w' < nV then bas (cl nV u h' w') * p / nI 8 else nI 0)
  | 0, _ => by
    rw [if_neg (by omega)]
    exact (Int32.add_zero _).symm
  | m + 1, hm => by
    unfold thR
    rw [twR_3 (by omega) hh', thR_3 hh' m (by omega)]
    by_cases e1 : h' = m ∧ w' < nV
    · obtain ⟨rfl, e3⟩ := e1
      rw [if_neg (by omega), if_pos ⟨rfl, e3⟩, if_pos ⟨by omega, e3⟩, nI_zero, Int32.add_zero]
    · rw [if_neg e1, nI_zero, Int32.add_zero]
      by_cases e2 : h' < m ∧ w' < nV
      · rw [if_pos e2, if_pos ⟨by omega, e2.2⟩]
      · rw [if_neg e2, if_neg (by omega)]
