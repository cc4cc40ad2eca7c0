/-! the days of the class and the model's row: the strainers -/
theorem nn_ex {x : Int32} (h : nI 0 ≤ x) : ∃ k, k < 2147483648 ∧ x = nI k := by
  obtain ⟨k, hk, e⟩ := rng (n := 2147483647) (by decide) ⟨h, Int32.le_maxValue x⟩
  exact ⟨k, by omega, e⟩
theorem nI_nn {k : Nat} (h : k < 2147483648) : nI 0 ≤ nI k := nI_le (Nat.zero_le _) h
section Sto
variable {S : Tn} {bas r : Nat → Int32} {nV v h : Nat}
theorem BR.uph {u a w : Nat} {z : Int32} (hB : BR bas r nV) (h9 : nV ≤ 9) (hu : u < nV) (ha : a < 3) (hw : w < nV) : BR (ru bas (cl nV u a w) z) (ru r (9 + 27 * u + 9 * a + w) z) nV := by
  have hi := it_lt ha hw
  refine ⟨fun x hx => ?_, fun x b y hx hb hy => ?_⟩
  · rw [ru_n (fun q => by rw [cl_i] at q; have := (blk_inj (i := 0) (by omega) hi (by omega) : x = u ∧ _).2; omega), ru_n (by omega)]
    exact hB.1 x hx
  · have hi2 := it_lt hb hy
    by_cases e : x = u ∧ b = a ∧ y = w
    · obtain ⟨rfl, rfl, rfl⟩ := e
      rw [ru_s, ru_s]
    · rw [ru_n (fun q => by
        rw [cl_i, cl_i] at q
        have h1 := blk_inj hi2 hi q
        have h2 := it_inj hy hw h1.2
        exact e ⟨h1.1, h2.1, h2.2⟩), ru_n (fun q => e (by omega))]
      exact hB.2 x b y hx hb hy
theorem BR.far {k : Nat} {z : Int32} (hB : BR bas r nV) (h9 : nV ≤ 9) (hk : 252 ≤ k) : BR bas (ru r k z) nV := ⟨fun x hx => by rw [ru_n (by omega)]; exact hB.1 x hx, fun x b y hx hb hy => by rw [ru_n (by omega)]; exact hB.2 x b y hx hb hy⟩
/-- how the one and the other strain -/
def StR (Q : ((Nat → Int32) × Int32) × Int32) (P : (Nat → Int32) × Int32) (nV : Nat) : Prop := BR Q.1.1 P.1 nV ∧ Q.1.2 = P.1 496 ∧ Q.2 = P.2 ∧ nI 0 ≤ P.2 ∧ NN P.1 nV
theorem st_1 {Q : ((Nat → Int32) × Int32) × Int32} {P : (Nat → Int32) × Int32} {w : Nat} (hR : StR Q P nV) (h9 : nV ≤ 9) (hv : v < nV) (hh : h < 3) (hw : w < nV) : StR (to1 (cl nV v h 0) w Q) (ru (ru P.1 (9 + 27 * v + 9 * h + w) (P.1 (9 + 27 * v + 9 * h + w) - (if P.2 < P.1 (9 + 27 * v + 9 * h + w) then P.2 else P.1 (9 + 27 * v + 9 * h + w)))) 496 (ru P.1 (9 + 27 * v + 9 * h + w) (P.1 (9 + 27 * v + 9 * h + w) - (if P.2 < P.1 (9 + 27 * v + 9 * h + w) then P.2 else P.1 (9 + 27 * v + 9 * h + w))) 496 + (if P.2 < P.1 (9 + 27 * v + 9 * h + w) then P.2 else P.1 (9 + 27 * v + 9 * h + w))), P.2 - (if P.2 < P.1 (9 + 27 * v + 9 * h + w) then P.2 else P.1 (9 + 27 * v + 9 * h + w))) nV := by
  obtain ⟨hB, ht, hl, h0, hN⟩ := hR
  obtain ⟨a, ha, ea⟩ := nn_ex h0
  obtain ⟨c, hc, ec⟩ := nn_ex (hN.2 v h w hv hh hw)
  have ecl : cl nV v h 0 + w = cl nV v h w := by unfold cl; omega
  have eb : Q.1.1 (cl nV v h w) = nI c := by rw [hB.2 v h w hv hh hw, ec]
  have et : (if P.2 < P.1 (9 + 27 * v + 9 * h + w) then P.2 else P.1 (9 + 27 * v + 9 * h + w)) = nI (min a c) := by
    rw [ea, ec]
    by_cases z : a < c
    · rw [if_pos (nI_lt z hc), Nat.min_eq_left (by omega)]
    · rw [if_neg (nI_nlt (by omega) ha), Nat.min_eq_right (by omega)]
  have hmin : min a c ≤ a ∧ min a c ≤ c := ⟨Nat.min_le_left _ _, Nat.min_le_right _ _⟩
  have eN : NN (ru (ru P.1 (9 + 27 * v + 9 * h + w) (nI (c - min a c))) 496 (P.1 496 + nI (min a c))) nV := by
    refine ⟨fun x hx => ?_, fun x b y hx hb hy => ?_⟩
    · rw [ru_n (by omega), ru_n (by omega)]; exact hN.1 x hx
    · rw [ru_n (by omega)]
      by_cases e : 9 + 27 * x + 9 * b + y = 9 + 27 * v + 9 * h + w
      · rw [e, ru_s]; exact nI_nn (by omega)
      · rw [ru_n e]; exact hN.2 x b y hx hb hy
  rw [et, ru_n (show 496 ≠ 9 + 27 * v + 9 * h + w by omega), ec, nI_sb hmin.2, ea, nI_sb hmin.1]
  unfold to1
  rw [ecl, eb, hl, ea]
  by_cases z : nI 0 < nI a
  · rw [if_pos z, miI_n ha hc, nI_sb hmin.2, nI_sb hmin.1]
    exact ⟨(hB.uph h9 hv hh hw).far h9 (by decide), by rw [ht]; dsimp only; rw [ru_s], rfl, nI_nn (by omega), eN⟩
  · rw [if_neg z]
    have a0 : a = 0 := by
      by_cases q : a = 0
      · exact q
      · exact absurd (nI_lt (by omega) ha) z
    have hB' := (hB.uph (z := nI c) h9 hv hh hw).far (z := P.1 496) h9 (k := 496) (by decide)
    have er : ru Q.1.1 (cl nV v h w) (nI c) = Q.1.1 := by
      funext k
      by_cases e : k = cl nV v h w
      · rw [e, ru_s, eb]
      · rw [ru_n e]
    rw [er] at hB'
    subst a0
    rw [show min 0 c = 0 from Nat.zero_min c, Nat.sub_zero, nI_zero, Int32.add_zero] at *
    exact ⟨hB', by dsimp only; rw [ru_s]; exact ht, hl.trans ea, Int32.le_refl _, eN⟩
end Sto
