/-! what the model's villages put, closed -/
theorem q8_c {I : Iv} {kn pn : Nat → Int32} {v k : Nat} {c : Bool} : ∀ m, q8 I kn v c m pn k = pn k + smI (fun p => if k = 3 * v + hbF c (I (500070 + v) (4 * p)).toNatClampNeg then pvl I kn v p else nI 0) m
  | 0 => (Int32.add_zero _).symm
  | m + 1 => by
    have ih := q8_c (I := I) (kn := kn) (pn := pn) (v := v) (k := k) (c := c) m
    show ru (q8 I kn v c m pn) (3 * v + hbF c (I (500070 + v) (4 * m)).toNatClampNeg) _ k = _ + (_ + _)
    by_cases e : k = 3 * v + hbF c (I (500070 + v) (4 * m)).toNatClampNeg
    · rw [← e, ru_s, ih]
      dsimp only
      rw [if_pos e]
      grind
    · rw [ru_n e, ih]
      dsimp only
      rw [if_neg e, nI_zero]
      grind
