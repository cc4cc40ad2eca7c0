/-! the days of the class and the model's row: what is counted of the flow -/
theorem smI_app {f : Nat → Int32} {a : Nat} : ∀ b, smI f (a + b) = smI f a + smI (fun k => f (a + k)) b
  | 0 => (Int32.add_zero _).symm
  | b + 1 => by
    show smI f (a + b) + f (a + b) = smI f a + (smI (fun k => f (a + k)) b + f (a + b))
    rw [smI_app b]
    grind
/-- a sum over one block of nine -/
theorem smI_9 {f : Nat → Int32} {h : Nat} (hh : h < 3) : smI (fun κ => if h = κ / 9 then f κ else nI 0) 27 = smI (fun w => f (9 * h + w)) 9 := by
  rw [show 27 = 9 + 9 + 9 from rfl, smI_app, smI_app]
  have hz : ∀ j, j < 3 → j ≠ h → smI (fun k => if h = (9 * j + k) / 9 then f (9 * j + k) else nI 0) 9 = nI 0 := fun j hj hn => smI_z _ (fun k hk => if_neg (by omega))
  have hy : ∀ j, j < 3 → j = h → smI (fun k => if h = (9 * j + k) / 9 then f (9 * j + k) else nI 0) 9 = smI (fun w => f (9 * h + w)) 9 := fun j hj hn => smI_c _ (fun k hk => by rw [if_pos (by omega), hn])
  have b0 : smI (fun κ => if h = κ / 9 then f κ else nI 0) 9 = smI (fun k => if h = (9 * 0 + k) / 9 then f (9 * 0 + k) else nI 0) 9 := smI_c _ (fun k hk => by rw [show 9 * 0 + k = k by omega])
  rw [b0]
  show _ + smI (fun k => if h = (9 * 1 + k) / 9 then f (9 * 1 + k) else nI 0) 9 + smI (fun k => if h = (9 * 2 + k) / 9 then f (9 * 2 + k) else nI 0) 9 = _
  rcases (show h = 0 ∨ h = 1 ∨ h = 2 by omega) with e | e | e
  · rw [hy 0 (by decide) e.symm, hz 1 (by decide) (by omega), hz 2 (by decide) (by omega), nI_zero]; grind
  · rw [hz 0 (by decide) (by omega), hy 1 (by decide) e.symm, hz 2 (by decide) (by omega), nI_zero]; grind
  · rw [hz 0 (by decide) (by omega), hz 1 (by decide) (by omega), hy 2 (by decide) e.symm, nI_zero]; grind
theorem smI_sh {f : Nat → Int32} {a b : Nat} (h : a ≤ b) (hz : ∀ k, a ≤ k → k < b → f k = nI 0) : smI f b = smI f a := by
  obtain ⟨c, rfl⟩ : ∃ c, b = a + c := ⟨b - a, by omega⟩
  rw [smI_app, smI_z c (fun k hk => hz _ (by omega) (by omega)), nI_zero, Int32.add_zero]
section Cnt
variable {I J K : Iv} {S : Tn} {y : Nat} {old : Nat → Int32}
theorem tp_sum {o : Nat → Int32} (hS : TnV S) : smI (fun v => tpX S v (o v)) S.1.1 = (match S.2.1.1 with | none => nI 0 | some u => o u * nI S.2.1.2.1 / nI 8) := by
  unfold tpX
  cases h : S.2.1.1 with
  | none => exact smI_z _ (fun v hv => if_neg (by simp))
  | some u =>
    dsimp only
    have := smI_pick (f := fun v => o v * nI S.2.1.2.1 / nI 8) (x := u) S.1.1
    rw [if_pos (hS.2.2.1 u h)] at this
    rw [← this]
    refine smI_c _ (fun v hv => ?_)
    by_cases e : u = v
    · rw [if_pos (by rw [e]), if_pos e]
    · rw [if_neg (fun z => e (Option.some.inj z)), if_neg e]
theorem cnt_0 {r : Nat → Int32} (hM : MT I S) (hS : TnV S) (hF : FlP J K y S) (hB : BR (J (y + 1)) old S.1.1) (hr : r 497 = nI 0) : K (y + 7) 0 = f4 I S.1.2 old S.1.1 r 497 := by
  rw [f4_a hM hS (by decide) _ (Nat.le_refl _), hr, smI_c (g := fun v => tpX S v (old v)) _ (fun v hv => ?_), tp_sum hS, nI_zero, Int32.zero_add, hF.2.2.2.1]
  · unfold flQ tpR
    cases h : S.2.1.1 with
    | none => rfl
    | some u =>
      dsimp only
      rw [taR_20, hB.1 u (hS.2.2.1 u h)]
  · rw [if_pos rfl, smI_z _ (fun κ hκ => ?_), nI_zero, Int32.add_zero]
    unfold acX
    rw [if_neg (by omega), if_neg (by omega), if_neg (by omega)]
    rfl
theorem cnt_h {r : Nat → Int32} {h : Nat} (hM : MT I S) (hS : TnV S) (hF : FlP J K y S) (hB : BR (J (y + 1)) old S.1.1) (hZ : ZR old S.1.1) (hh : h < 3) (hr : r (498 + h) = nI 0) : K (y + 7) (1 + h) = f4 I S.1.2 old S.1.1 r (498 + h) := by
  have s9 := hS.1
  have e1 : ∀ v, v < S.1.1 → smI (acX S old (498 + h) v) 27 = smI (fun w => tpX S v (old (9 + 27 * v + 9 * h + w))) S.1.1 := by
    intro v hv
    have e2 : smI (acX S old (498 + h) v) 27 = smI (fun κ => if h = κ / 9 then tpX S v (old (9 + κ + 27 * v)) else nI 0) 27 := smI_c _ (fun κ hκ => by
      unfold acX
      rw [if_neg (show ¬ 498 + h = 468 + 3 * (κ % 9) + κ / 9 by omega), if_neg (show ¬ 498 + h = 495 by omega), nI_zero, Int32.add_zero, Int32.add_zero]
      by_cases e : h = κ / 9
      · rw [if_pos e, if_pos (by omega)]
      · rw [if_neg e, if_neg (by omega)])
    rw [e2, smI_9 (f := fun κ => tpX S v (old (9 + κ + 27 * v))) hh]
    rw [smI_c (g := fun w => tpX S v (old (9 + 27 * v + 9 * h + w))) _ (fun w hw => by rw [show 9 + (9 * h + w) + 27 * v = 9 + 27 * v + 9 * h + w by omega])]
    exact smI_sh s9 (fun w h1 h2 => by rw [hZ v h w hv hh h1 h2]; exact tp_0)
  rw [f4_a hM hS (by omega) _ (Nat.le_refl _), hr, smI_c (g := fun v => smI (fun w => tpX S v (old (9 + 27 * v + 9 * h + w))) S.1.1) _ (fun v hv => by rw [if_neg (by omega), e1 v hv, nI_zero, Int32.zero_add]), nI_zero, Int32.zero_add, hF.2.2.2.1]
  rw [smI_swap (F := fun v w => tpX S v (old (9 + 27 * v + 9 * h + w)))]
  unfold flQ tpR
  cases ht : S.2.1.1 with
  | none => exact (smI_z _ (fun w hw => by rw [tp_sum (o := fun v => old (9 + 27 * v + 9 * h + w)) hS, ht])).symm
  | some u =>
    dsimp only
    rw [taR_2 hh, nI_zero, Int32.zero_add]
    refine smI_c _ (fun w hw => ?_)
    rw [tp_sum (o := fun v => old (9 + 27 * v + 9 * h + w)) hS, ht, hB.2 u h w (hS.2.2.1 u ht) hh hw]
end Cnt
