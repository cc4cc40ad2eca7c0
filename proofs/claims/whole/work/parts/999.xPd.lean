/-! sums of the days, 4: the flows are one -/
theorem smI_add {f g : Nat → Int32} : ∀ n, smI (fun k => f k + g k) n = smI f n + smI g n
  | 0 => rfl
  | n + 1 => by
    show smI (fun k => f k + g k) n + (f n + g n) = (smI f n + f n) + (smI g n + g n)
    rw [smI_add n]
    grind
theorem smI_sub {f g : Nat → Int32} : ∀ n, smI (fun k => f k - g k) n = smI f n - smI g n
  | 0 => by show nI 0 = nI 0 - nI 0; decide
  | n + 1 => by
    show smI (fun k => f k - g k) n + (f n - g n) = (smI f n + f n) - (smI g n + g n)
    rw [smI_sub n]
    grind
theorem smI_swap {F : Nat → Nat → Int32} : ∀ n m, smI (fun v => smI (fun c => F v c) m) n = smI (fun c => smI (fun v => F v c) n) m
  | 0, m => (smI_z m (fun _ _ => rfl)).symm
  | n + 1, m => by
    show smI (fun v => smI (fun c => F v c) m) n + smI (fun c => F n c) m = smI (fun c => smI (fun v => F v c) n + F n c) m
    rw [smI_swap n m, smI_add]
theorem smI_pick {f : Nat → Int32} {x : Nat} : ∀ n, smI (fun k => if x = k then f k else nI 0) n = if x < n then f x else nI 0
  | 0 => by rw [if_neg (by omega)]; rfl
  | n + 1 => by
    show smI (fun k => if x = k then f k else nI 0) n + (if x = n then f n else nI 0) = _
    rw [smI_pick n]
    by_cases e : x = n
    · subst e
      rw [if_neg (by omega), if_pos rfl, if_pos (by omega), nI_zero, Int32.zero_add]
    · rw [if_neg e, nI_zero, Int32.add_zero]
      by_cases e2 : x < n
      · rw [if_pos e2, if_pos (by omega)]
      · rw [if_neg e2, if_neg (by omega)]
def efX (S : Tn) (v x : Nat) (n : Int32) : Int32 := smI (dmX S v x n) S.1.2 - (if x = v then tpX S v n + n * nI (vz S v 2) / nI 8 else nI 0)
section Mf4
variable {I : Iv} {S : Tn} {x : Nat} {old : Nat → Int32}
theorem f4k_w {v : Nat} {r : Nat → Int32} (hM : MT I S) (hS : TnV S) (hv : v < S.1.1) (hx : x < 9) : ∀ K, K ≤ 27 → f4k I S.1.2 old v K r x = r x + efX S v x (old v)
  | 0, _ => by
    unfold f4k
    have := flR_c (I := I) (S := S) (n := old (0 + 1 * v)) (v := v) (b := 0) (st := 1) (x := x) (r := r) hM hS (Nat.le_refl _) hv hx (fun z hz => by omega)
    rw [show 0 + 1 * x = x by omega, show 0 + 1 * v = v by omega] at this
    rw [show 0 + 1 * v = v by omega]
    exact this
  | K + 1, hK => by
    unfold f4k
    rw [flR_n hM hS hv (fun z hz => by omega) (fun z hz => by omega) (by omega)]
    exact f4k_w hM hS hv hx K (by omega)
theorem f4k_h {v κ : Nat} {r : Nat → Int32} (hM : MT I S) (hS : TnV S) (hv : v < S.1.1) (hx : x < 9) (hκ : κ < 27) : ∀ K, K ≤ 27 → f4k I S.1.2 old v K r (9 + κ + 27 * x) = r (9 + κ + 27 * x) + (if κ < K then efX S v x (old (9 + κ + 27 * v)) else nI 0)
  | 0, _ => by
    unfold f4k
    rw [flR_n hM hS hv (fun z hz => by omega) (fun z hz => by omega) (by omega), if_neg (by omega)]
    exact (Int32.add_zero _).symm
  | K + 1, hK => by
    unfold f4k
    have ih := f4k_h (r := r) hM hS hv hx hκ K (by omega)
    by_cases e : κ = K
    · subst e
      rw [if_neg (Nat.lt_irrefl _), nI_zero, Int32.add_zero] at ih
      rw [flR_c hM hS (by decide) hv hx (fun z hz => by omega), ih, if_pos (Nat.lt_succ_self _)]
      rfl
    · rw [flR_n hM hS hv (fun z hz => by omega) (fun z hz => by omega) (by omega), ih]
      by_cases e2 : κ < K
      · rw [if_pos e2, if_pos (by omega)]
      · rw [if_neg e2, if_neg (by omega)]
theorem f4_w {r : Nat → Int32} (hM : MT I S) (hS : TnV S) (hx : x < 9) : ∀ m, m ≤ S.1.1 → f4 I S.1.2 old m r x = r x + smI (fun v => efX S v x (old v)) m
  | 0, _ => (Int32.add_zero _).symm
  | m + 1, hm => by
    unfold f4
    rw [f4k_w hM hS (by omega) hx 27 (Nat.le_refl _), f4_w hM hS hx m (by omega)]
    show _ = _ + (_ + _)
    grind
theorem f4_h {κ : Nat} {r : Nat → Int32} (hM : MT I S) (hS : TnV S) (hx : x < 9) (hκ : κ < 27) : ∀ m, m ≤ S.1.1 → f4 I S.1.2 old m r (9 + κ + 27 * x) = r (9 + κ + 27 * x) + smI (fun v => efX S v x (old (9 + κ + 27 * v))) m
  | 0, _ => (Int32.add_zero _).symm
  | m + 1, hm => by
    unfold f4
    rw [f4k_h hM hS (by omega) hx hκ 27 (Nat.le_refl _), if_pos hκ, f4_h hM hS hx hκ m (by omega)]
    show _ = _ + (_ + _)
    grind
/-- all villages' flows at x -/
theorem ef_all {o : Nat → Int32} (hS : TnV S) (hx : x < S.1.1) : smI (fun v => efX S v x (o v)) S.1.1 = smI (fun c => dlX (S.2.2.2 c 0) (S.2.2.2 c 1) x (o (S.2.2.2 c 0) * nI (S.2.2.2 c 2) / nI 8)) S.1.2 - (tpX S x (o x) + o x * nI (vz S x 2) / nI 8) := by
  unfold efX
  rw [smI_sub, smI_pick (f := fun v => tpX S v (o v) + o v * nI (vz S v 2) / nI 8), if_pos hx]
  rw [show (fun v => smI (dmX S v x (o v)) S.1.2) = fun v => smI (fun c => dmX S v x (o v) c) S.1.2 from rfl, smI_swap]
  rw [smI_c S.1.2 (fun c hc => ?_)]
  have h1 := (hS.2.2.2.2.2.1 c hc).1
  have := smI_pick (f := fun v => dlX v (S.2.2.2 c 1) x (o v * nI (S.2.2.2 c 2) / nI 8)) (x := S.2.2.2 c 0) S.1.1
  rw [if_pos h1] at this
  exact this
end Mf4
