/-! the days of the class and the model's row: the strainers, on -/
section Stq
variable {bas r : Nat → Int32} {nV v h : Nat} {m : Int32}
theorem st_nV {tk : Int32} (h9 : nV ≤ 9) (hv : v < nV) (hh : h < 3) (h0 : StR ((bas, tk), m) (r, m) nV) : ∀ w, w ≤ nV → StR (toR (cl nV v h 0) w ((bas, tk), m)) (stR v h m r w) nV
  | 0, _ => h0
  | w + 1, hw => st_1 (st_nV h9 hv hh h0 w (by omega)) h9 hv hh (by omega)
theorem stR_o {k : Nat} (hk : ∀ w, w < 9 → k ≠ 9 + 27 * v + 9 * h + w) (h4 : k ≠ 496) : ∀ w, w ≤ 9 → (stR v h m r w).1 k = r k
  | 0, _ => rfl
  | w + 1, hw => by
    show ru (ru (stR v h m r w).1 (9 + 27 * v + 9 * h + w) _) 496 _ k = r k
    rw [ru_n h4, ru_n (hk w (by omega))]
    exact stR_o hk h4 w (by omega)
theorem stR_f {j : Nat} (hv : v < 9) (hh : h < 3) : ∀ w, w ≤ j → j < 9 → (stR v h m r w).1 (9 + 27 * v + 9 * h + j) = r (9 + 27 * v + 9 * h + j)
  | 0, _, _ => rfl
  | w + 1, hw, hj => by
    show ru (ru (stR v h m r w).1 (9 + 27 * v + 9 * h + w) _) 496 _ _ = _
    rw [ru_n (by omega), ru_n (by omega)]
    exact stR_f hv hh w (by omega) hj
/-- beyond the villages nothing is strained -/
theorem stR_z (hv : v < 9) (hh : h < 3) (hz : ∀ w, nV ≤ w → w < 9 → r (9 + 27 * v + 9 * h + w) = nI 0) (h0 : nI 0 ≤ (stR v h m r nV).2) : ∀ g, nV + g ≤ 9 → stR v h m r (nV + g) = stR v h m r nV
  | 0, _ => rfl
  | g + 1, hg => by
    have ih := stR_z hv hh hz h0 g (by omega)
    have e0 := stR_f (m := m) (r := r) (j := nV + g) hv hh (nV + g) (Nat.le_refl _) (by omega)
    rw [hz (nV + g) (by omega) (by omega), ih] at e0
    obtain ⟨j, hj⟩ : ∃ j, j = nV + g := ⟨_, rfl⟩
    rw [show nV + (g + 1) = j + 1 by omega]
    rw [← hj] at ih e0
    have hj9 : j < 9 := by omega
    rw [stR, ih]
    generalize stR v h m r nV = P at e0 h0 ⊢
    have ht : (if P.2 < P.1 (9 + 27 * v + 9 * h + j) then P.2 else P.1 (9 + 27 * v + 9 * h + j)) = nI 0 := by
      rw [e0, if_neg (Int32.not_lt.mpr h0)]
    rw [ht, e0, nI_zero, Int32.sub_zero, Int32.sub_zero, Int32.add_zero]
    refine Prod.ext ?_ rfl
    funext k
    show ru (ru P.1 (9 + 27 * v + 9 * h + j) 0) 496 (ru P.1 (9 + 27 * v + 9 * h + j) 0 496) k = P.1 k
    by_cases k1 : k = 496
    · rw [k1, ru_s, ru_n (by omega)]
    · rw [ru_n k1]
      by_cases k2 : k = 9 + 27 * v + 9 * h + j
      · rw [k2, ru_s, e0]; rfl
      · rw [ru_n k2]
end Stq
