/-! the days of the class and the model's row: the flow -/
/-- basins and a row -/
def BR (bas r : Nat → Int32) (nV : Nat) : Prop := (∀ v, v < nV → bas (v * (1 + 3 * nV)) = r v) ∧ ∀ v h w, v < nV → h < 3 → w < nV → bas (cl nV v h w) = r (9 + 27 * v + 9 * h + w)
/-- nobody beyond the villages put anything -/
def ZR (r : Nat → Int32) (nV : Nat) : Prop := ∀ v h w, v < nV → h < 3 → nV ≤ w → w < 9 → r (9 + 27 * v + 9 * h + w) = nI 0
/-- nothing below nothing -/
def NN (r : Nat → Int32) (nV : Nat) : Prop := (∀ v, v < nV → nI 0 ≤ r v) ∧ ∀ v h w, v < nV → h < 3 → w < nV → nI 0 ≤ r (9 + 27 * v + 9 * h + w)
theorem ldR_n {bas : Nat → Int32} {p x : Int32} {k : Nat} (e : bas k = x) (h : nI 0 ≤ x) : ldR bas p k = x * p / nI 8 := by
  unfold ldR
  rw [e]
  by_cases q : nI 0 < x
  · rw [if_pos q]
  · have : x = nI 0 := Int32.le_antisymm (Int32.not_lt.mp q) h
    rw [if_neg q, this, nI_zero, Int32.zero_mul]
    decide
section Fle
variable {I J K : Iv} {S : Tn} {y : Nat} {r old : Nat → Int32}
theorem flow_w {x : Nat} (hM : MT I S) (hS : TnV S) (hF : FlP J K y S) (hB : BR (J (y + 1)) old S.1.1) (hN : NN old S.1.1) (hx : x < S.1.1) : K (y + 1) (x * (1 + 3 * S.1.1)) = f4 I S.1.2 old S.1.1 old x := by
  have s9 := hS.1
  have h1 := flow_1 (i := 0) hF hx (by omega)
  simp only [Nat.add_zero] at h1
  rw [h1, f4_w hM hS (by omega) _ (Nat.le_refl _), ef_all hS hx, hB.1 x hx]
  have : dlS (J (y + 1)) S x 0 = smI (fun c => dlX (S.2.2.2 c 0) (S.2.2.2 c 1) x (old (S.2.2.2 c 0) * nI (S.2.2.2 c 2) / nI 8)) S.1.2 := by
    unfold dlS
    refine smI_c _ (fun c hc => ?_)
    have hf := (hS.2.2.2.2.2.1 c hc).1
    rw [show S.2.2.2 c 0 * (1 + 3 * S.1.1) + 0 = S.2.2.2 c 0 * (1 + 3 * S.1.1) from rfl, ldR_n (hB.1 _ hf) (hN.1 _ hf)]
  rw [this]
  grind
theorem flow_h {x h w : Nat} (hM : MT I S) (hS : TnV S) (hF : FlP J K y S) (hB : BR (J (y + 1)) old S.1.1) (hN : NN old S.1.1) (hx : x < S.1.1) (hh : h < 3) (hw : w < S.1.1) : K (y + 1) (cl S.1.1 x h w) = f4 I S.1.2 old S.1.1 old (9 + 27 * x + 9 * h + w) := by
  have s9 := hS.1
  have hi := it_lt hh hw
  have h1 := flow_1 (i := 1 + h * S.1.1 + w) hF hx hi
  rw [← cl_i] at h1
  have hix : ∀ v, 9 + 27 * v + 9 * h + w = 9 + (9 * h + w) + 27 * v := fun v => by omega
  have h2 := f4_h (I := I) (S := S) (x := x) (old := old) (r := old) (κ := 9 * h + w) hM hS (by omega) (by omega) S.1.1 (Nat.le_refl _)
  rw [ef_all (o := fun v => old (9 + (9 * h + w) + 27 * v)) hS hx] at h2
  rw [h1, hix, h2, hB.2 x h w hx hh hw, hix]
  have : dlS (J (y + 1)) S x (1 + h * S.1.1 + w) = smI (fun c => dlX (S.2.2.2 c 0) (S.2.2.2 c 1) x (old (9 + (9 * h + w) + 27 * S.2.2.2 c 0) * nI (S.2.2.2 c 2) / nI 8)) S.1.2 := by
    unfold dlS
    refine smI_c _ (fun c hc => ?_)
    have hf := (hS.2.2.2.2.2.1 c hc).1
    rw [← cl_i, ldR_n (hB.2 _ h w hf hh hw) (hN.2 _ h w hf hh hw), hix]
  rw [this]
  grind
theorem ef_0 {v x : Nat} : efX S v x (nI 0) = nI 0 := by
  unfold efX
  rw [dm_0, tp_0, show nI 0 * nI (vz S v 2) / nI 8 = nI 0 by rw [nI_zero, Int32.zero_mul]; decide]
  by_cases e : x = v
  · rw [if_pos e]; decide
  · rw [if_neg e]; decide
theorem flow_z (hM : MT I S) (hS : TnV S) (hZ : ZR old S.1.1) : ZR (f4 I S.1.2 old S.1.1 old) S.1.1 := by
  intro x h w hx hh hw h9
  have s9 := hS.1
  have hix : ∀ v, 9 + 27 * v + 9 * h + w = 9 + (9 * h + w) + 27 * v := fun v => by omega
  rw [hix, f4_h hM hS (by omega) (by omega) S.1.1 (Nat.le_refl _), smI_z _ (fun v hv => ?_), ← hix, hZ x h w hx hh hw h9]
  · rfl
  · rw [← hix, hZ v h w hv hh hw h9]
    exact ef_0
theorem flow_b (hM : MT I S) (hS : TnV S) (hF : FlP J K y S) (hB : BR (J (y + 1)) old S.1.1) (hN : NN old S.1.1) : BR (K (y + 1)) (f4 I S.1.2 old S.1.1 old) S.1.1 := ⟨fun v hv => flow_w hM hS hF hB hN hv, fun v h w hv hh hw => flow_h hM hS hF hB hN hv hh hw⟩
end Fle
