/-! the days of the class and the model's row: what they have in common -/
def ZA (r : Nat → Int32) (nV : Nat) : Prop := (∀ v, nV ≤ v → v < 9 → r v = nI 0) ∧ ∀ v h w, v < 9 → h < 3 → w < 9 → (nV ≤ v ∨ nV ≤ w) → r (9 + 27 * v + 9 * h + w) = nI 0
theorem ZA.zr {r : Nat → Int32} {nV : Nat} (h : ZA r nV) (h9 : nV ≤ 9) : ZR r nV := fun v a w hv ha hw h9' => h.2 v a w (by omega) ha h9' (Or.inr hw)
/-- how much there is at most on day n -/
def BdR (r : Nat → Int32) (nV n : Nat) : Prop := IB r (fun v => v) nV (891 * (n + 1)) ∧ (∀ h w, h < 3 → w < nV → IB r (fun v => 9 + 27 * v + 9 * h + w) nV (594 * n)) ∧ ∃ k, k ≤ 891 * (n + 1) ∧ r 497 = nI k
def DR (J : Iv) (y : Nat) (S : Tn) (n : Nat) (r : Nat → Int32) : Prop := DyV J y S.1.1 ∧ J y 9 = nI n ∧ r 501 = nI n ∧ BR (J (y + 1)) r S.1.1 ∧ ZA r S.1.1 ∧ PaR (J (y + 2)) r S n ∧ (∀ v, v < S.1.1 → J (y + 3) v = r (432 + v)) ∧
  (∀ k, k < 27 → J (y + 4) k = r (441 + k) ∧ J (y + 5) k = r (468 + k)) ∧ J y 12 = r 495 ∧ J y 13 = r 496 ∧ (∀ i, i < 4 → J (y + 7) i = r (497 + i)) ∧ BdR r S.1.1 n
/-- what is asked of the days -/
def PmD (J : Iv) (y : Nat) (S : Tn) : Pm := (fun v => !plX J y v, coX J y, snX S (J (y + 6)) (J y 14, J y 15), J y 17)
def PmV (J : Iv) (y : Nat) (S : Tn) : Prop := (∀ v h, v < S.1.1 → h < 3 → nI 0 ≤ snX S (J (y + 6)) (J y 14, J y 15) v h) ∧ nI 0 ≤ J y 17
section Dyr
variable {I J K : Iv} {S : Tn} {y n : Nat} {old r : Nat → Int32}
theorem BdR.nn {nV : Nat} (h : BdR r nV n) (hn : n ≤ 2000) : NN r nV := ⟨fun v hv => h.1.nn (p := fun v => v) (by omega) hv, fun v a w hv ha hw => (h.2.1 a w ha hw).nn (p := fun v => 9 + 27 * v + 9 * a + w) (by omega) hv⟩
/-- who is none of the villages: nothing of his comes -/
theorem cnt_cz {h w : Nat} (hM : MT I S) (hS : TnV S) (hF : FlP J K y S) (hZ : ZR old S.1.1) (hh : h < 3) (hw : S.1.1 ≤ w) (hw9 : w < 9) (hr : r (468 + 3 * w + h) = J (y + 5) (w * 3 + h)) : K (y + 5) (w * 3 + h) = f4 I S.1.2 old S.1.1 r (468 + 3 * w + h) := by
  have e1 : ∀ v, v < S.1.1 → smI (acX S old (468 + 3 * w + h) v) 27 = nI 0 := by
    intro v hv
    refine smI_z _ (fun κ hκ => ?_)
    unfold acX
    rw [if_neg (show ¬ 468 + 3 * w + h = 498 + κ / 9 by omega), if_neg (show ¬ 468 + 3 * w + h = 495 by omega), nI_zero, Int32.add_zero, Int32.zero_add]
    by_cases e : 9 * h + w = κ
    · rw [if_pos (by omega), show 9 + κ + 27 * v = 9 + 27 * v + 9 * h + w by omega, hZ v h w hv hh hw hw9, tp_0]
      rfl
    · rw [if_neg (by omega)]
  rw [f4_a hM hS (by omega) _ (Nat.le_refl _), hr, smI_z _ (fun v hv => by rw [if_neg (by omega), e1 v hv]; rfl), nI_zero, Int32.add_zero, hF.2.2.2.2.1]
  unfold flQ tpR
  cases ht : S.2.1.1 with
  | none => rfl
  | some u =>
    dsimp only
    unfold taR
    rw [thR_3 hh 3 (Nat.le_refl _), if_neg (by omega), nI_zero, Int32.add_zero]
theorem f4_b (hM : MT I S) (hS : TnV S) (hn : n ≤ 2000) (hB : BdR old S.1.1 n) (hZ : ZA old S.1.1) : IB (f4 I S.1.2 old S.1.1 old) (fun v => v) S.1.1 (891 * (n + 1)) ∧ (∀ h w, h < 3 → w < S.1.1 → IB (f4 I S.1.2 old S.1.1 old) (fun v => 9 + 27 * v + 9 * h + w) S.1.1 (594 * n)) ∧ (old 497 = nI 0 → ∃ k, k ≤ 891 * (n + 1) ∧ f4 I S.1.2 old S.1.1 old 497 = nI k) ∧ ZA (f4 I S.1.2 old S.1.1 old) S.1.1 := by
  have s9 := hS.1
  refine ⟨flow_N hS hB.1 (by omega) (fun x hx => ?_), fun h w hh hw => flow_N hS (hB.2.1 h w hh hw) (by omega) (fun x hx => ?_), fun h0 => ?_, fun v h1 h2 => ?_, fun v h w hv hh hw hz => ?_⟩
  · rw [f4_w hM hS (by omega) _ (Nat.le_refl _), ef_all hS hx]
  · have hix : ∀ v, 9 + 27 * v + 9 * h + w = 9 + (9 * h + w) + 27 * v := fun v => by omega
    have h2 := f4_h (I := I) (S := S) (x := x) (old := old) (r := old) (κ := 9 * h + w) hM hS (by omega) (by omega) S.1.1 (Nat.le_refl _)
    rw [ef_all (o := fun v => old (9 + (9 * h + w) + 27 * v)) hS hx] at h2
    simp only [hix]
    exact h2
  · rw [f4_a hM hS (by decide) _ (Nat.le_refl _), h0, smI_c (g := fun v => tpX S v (old v)) _ (fun v hv => ?_), tp_sum hS, nI_zero, Int32.zero_add]
    · cases ht : S.2.1.1 with
      | none => exact ⟨0, by omega, rfl⟩
      | some u =>
        dsimp only
        obtain ⟨k, hk, e⟩ := hB.1.one (p := fun v => v) (hS.2.2.1 u ht)
        have h8 : k * S.2.1.2.1 ≤ k * 8 := Nat.mul_le_mul_left _ hS.2.2.2.1
        exact ⟨k * S.2.1.2.1 / 8, by omega, by rw [e, pk_mul, nI_dvN (by omega) (by decide) (by decide)]⟩
    · rw [if_pos rfl, smI_z _ (fun κ hκ => ?_), nI_zero, Int32.add_zero]
      unfold acX
      rw [if_neg (by omega), if_neg (by omega), if_neg (by omega)]
      rfl
  · rw [f4_w hM hS h2 _ (Nat.le_refl _), hZ.1 v h1 h2, nI_zero, Int32.zero_add]
    refine smI_z _ (fun u hu => ?_)
    have hd : ∀ c, c < S.1.2 → dmX S u v (old u) c = nI 0 := fun c hc => by
      have hc := hS.2.2.2.2.2.1 c hc
      unfold dmX dlX
      by_cases q : S.2.2.2 c 0 = u
      · rw [if_pos q, if_neg (by omega), if_neg (by omega)]; rfl
      · rw [if_neg q]
    unfold efX
    rw [smI_z _ hd, if_neg (by omega)]
    rfl
  · have hix : ∀ v, 9 + 27 * v + 9 * h + w = 9 + (9 * h + w) + 27 * v := fun v => by omega
    rw [hix, f4_h hM hS hv (by omega) S.1.1 (Nat.le_refl _), ← hix, hZ.2 v h w hv hh hw hz, nI_zero, Int32.zero_add]
    refine smI_z _ (fun u hu => ?_)
    by_cases hwn : S.1.1 ≤ w
    · rw [← hix, hZ.2 u h w (by omega) hh hw (Or.inr hwn)]
      exact ef_0
    · have hd : ∀ c, c < S.1.2 → dmX S u v (old (9 + (9 * h + w) + 27 * u)) c = nI 0 := fun c hc => by
        have hc := hS.2.2.2.2.2.1 c hc
        unfold dmX dlX
        by_cases q : S.2.2.2 c 0 = u
        · rw [if_pos q, if_neg (by omega), if_neg (by omega)]; rfl
        · rw [if_neg q]
      unfold efX
      rw [smI_z _ hd, if_neg (by omega)]
      rfl
end Dyr
