/-! minds, on -/
section Mnd
variable {rt : Nat → Bool} {all : Int32}
theorem md_1 : ∀ k, (mdF rt all k).1 = cnQ rt k
  | 0 => rfl
  | k + 1 => by
    unfold mdF
    show _ = cnQ rt k + (if rt k = true then 1 else 0)
    by_cases e : rt k = true
    · rw [if_pos e, if_pos e]
      show (mdF rt all k).1 + 1 = _
      rw [md_1 k]
    · rw [if_neg e, if_neg e, md_1 k]
      rfl
theorem cn_0 : ∀ k, cnQ rt k = 0 → ∀ s, s < k → ¬ rt s = true
  | 0, _, s, hs => absurd hs (by omega)
  | k + 1, h, s, hs => by
    have h' : cnQ rt k + (if rt k = true then 1 else 0) = 0 := h
    by_cases e : s = k
    · intro c
      rw [e] at c
      rw [if_pos c] at h'
      omega
    · exact cn_0 k (by omega) s (by omega)
theorem cn_p {s : Nat} : ∀ k, s < k → rt s = true → 0 < cnQ rt k
  | 0, h, _ => absurd h (by omega)
  | k + 1, h, hr => by
    show 0 < cnQ rt k + (if rt k = true then 1 else 0)
    by_cases e : s = k
    · rw [← e, if_pos hr]; omega
    · have := cn_p k (show s < k by omega) hr
      omega
theorem md_f : ∀ k, ((mdF rt all k).1 = 0 → (mdF rt all k).2.1 = -1) ∧ (0 < (mdF rt all k).1 → ∃ s, s < k ∧ rt s = true ∧ (mdF rt all k).2.1 = nI s ∧ ∀ s', s' < s → ¬ rt s' = true)
  | 0 => ⟨fun _ => rfl, fun h => absurd h (Nat.lt_irrefl 0)⟩
  | k + 1 => by
    have ih := md_f k
    unfold mdF
    by_cases e : rt k = true
    · rw [if_pos e]
      dsimp only
      refine ⟨fun h => absurd h (by omega), fun _ => ?_⟩
      by_cases z : (mdF rt all k).1 = 0
      · rw [if_pos z]
        rw [md_1] at z
        exact ⟨k, by omega, e, rfl, fun s' hs' => cn_0 k z s' hs'⟩
      · rw [if_neg z]
        obtain ⟨s, h1, h2, h3, h4⟩ := ih.2 (by omega)
        exact ⟨s, by omega, h2, h3, h4⟩
    · rw [if_neg e]
      refine ⟨ih.1, fun h => ?_⟩
      obtain ⟨s, h1, h2, h3, h4⟩ := ih.2 h
      exact ⟨s, by omega, h2, h3, h4⟩
theorem md_a {i : Nat} (hi : i < 32) : ∀ k, bt (mdF rt all k).2.2.1 i = true ↔ (bt all i = true ∧ ∀ s, s < k → rt s = true → s.testBit i = true)
  | 0 => ⟨fun h => ⟨h, fun s hs => absurd hs (by omega)⟩, fun h => h.1⟩
  | k + 1 => by
    have ih := md_a hi k
    unfold mdF
    by_cases e : rt k = true
    · rw [if_pos e]
      show bt ((mdF rt all k).2.2.1 &&& nI k) i = true ↔ _
      rw [b_and, b_nI hi, Bool.and_eq_true, ih]
      refine ⟨fun h => ⟨h.1.1, fun s hs hr => ?_⟩, fun h => ⟨⟨h.1, fun s hs hr => h.2 s (by omega) hr⟩, h.2 k (by omega) e⟩⟩
      by_cases z : s = k
      · rw [z]; exact h.2
      · exact h.1.2 s (by omega) hr
    · rw [if_neg e, ih]
      refine ⟨fun h => ⟨h.1, fun s hs hr => ?_⟩, fun h => ⟨h.1, fun s hs hr => h.2 s (by omega) hr⟩⟩
      by_cases z : s = k
      · rw [z] at hr; exact absurd hr e
      · exact h.2 s (by omega) hr
theorem md_o {i : Nat} (hi : i < 32) : ∀ k, bt (mdF rt all k).2.2.2 i = true ↔ ∃ s, s < k ∧ rt s = true ∧ s.testBit i = true
  | 0 => by
    show bt (nI 0) i = true ↔ _
    rw [b_nI hi, Nat.zero_testBit]
    exact ⟨fun h => absurd h (by decide), fun ⟨s, h, _⟩ => absurd h (by omega)⟩
  | k + 1 => by
    have ih := md_o hi k
    unfold mdF
    by_cases e : rt k = true
    · rw [if_pos e]
      show bt ((mdF rt all k).2.2.2 ||| nI k) i = true ↔ _
      rw [b_or, b_nI hi, Bool.or_eq_true, ih]
      refine ⟨fun h => ?_, fun ⟨s, h1, h2, h3⟩ => ?_⟩
      · rcases h with ⟨s, h1, h2, h3⟩ | h
        · exact ⟨s, by omega, h2, h3⟩
        · exact ⟨k, by omega, e, h⟩
      · by_cases z : s = k
        · rw [z] at h3; exact Or.inr h3
        · exact Or.inl ⟨s, by omega, h2, h3⟩
    · rw [if_neg e, ih]
      refine ⟨fun ⟨s, h1, h2, h3⟩ => ⟨s, by omega, h2, h3⟩, fun ⟨s, h1, h2, h3⟩ => ?_⟩
      by_cases z : s = k
      · rw [z] at h2; exact absurd h2 e
      · exact ⟨s, by omega, h2, h3⟩
end Mnd
/-- sets that count -/
def rtD (rt : Nat → Bool) (D : Nat) (s : Nat) : Bool := decide (s &&& D = s) && rt s
section Mnd2
variable {rt : Nat → Bool} {D nV : Nat}
theorem bt_eq {x y : Int32} (h : ∀ i, i < 32 → (bt x i = true ↔ bt y i = true)) : x = y := b_ext (fun i hi => by
  have := h i hi
  cases hx : bt x i <;> cases hy : bt y i <;> simp [hx, hy] at this ⊢)
theorem md_D (h9 : nV ≤ 9) (hD : D < 2 ^ nV) (hq : ∀ s, s < 2 ^ nV → rt s = rt (s &&& D)) :
    (mdF rt (nI (2 ^ nV - 1)) (2 ^ nV)).1 = (mdF (rtD rt D) (nI (2 ^ nV - 1)) (2 ^ nV)).1 * 2 ^ exD D nV ∧ (mdF rt (nI (2 ^ nV - 1)) (2 ^ nV)).2.1 = (mdF (rtD rt D) (nI (2 ^ nV - 1)) (2 ^ nV)).2.1 ∧
    (0 < (mdF rt (nI (2 ^ nV - 1)) (2 ^ nV)).1 → (mdF rt (nI (2 ^ nV - 1)) (2 ^ nV)).2.2.1 = (mdF (rtD rt D) (nI (2 ^ nV - 1)) (2 ^ nV)).2.2.1 ∧ nI (2 ^ nV - 1) &&& ((mdF rt (nI (2 ^ nV - 1)) (2 ^ nV)).2.2.2 ^^^ -1) = nI D &&& ((mdF (rtD rt D) (nI (2 ^ nV - 1)) (2 ^ nV)).2.2.2 ^^^ -1)) := by
  have h512 := p2_512 h9
  have hc : (mdF rt (nI (2 ^ nV - 1)) (2 ^ nV)).1 = (mdF (rtD rt D) (nI (2 ^ nV - 1)) (2 ^ nV)).1 * 2 ^ exD D nV := by
    rw [md_1, md_1]
    exact cn_D nV rt hq
  have hp : 0 < 2 ^ exD D nV := Nat.two_pow_pos _
  have hle : ∀ s, s &&& D ≤ s := fun s => Nat.and_le_left
  have hid : ∀ s, (s &&& D) &&& D = s &&& D := fun s => by rw [Nat.and_assoc, Nat.and_self]
  have sub : ∀ s, rtD rt D s = true ↔ (s &&& D = s ∧ rt s = true) := fun s => by unfold rtD; rw [Bool.and_eq_true, decide_eq_true_iff]
  have to : ∀ s, s < 2 ^ nV → rt s = true → rtD rt D (s &&& D) = true := fun s hs hr => (sub _).mpr ⟨hid s, by rw [← hq s hs]; exact hr⟩
  refine ⟨hc, ?_, fun h0 => ?_⟩
  · by_cases z : (mdF rt (nI (2 ^ nV - 1)) (2 ^ nV)).1 = 0
    · have z2 : (mdF (rtD rt D) (nI (2 ^ nV - 1)) (2 ^ nV)).1 = 0 := by
        rw [hc] at z
        rcases Nat.mul_eq_zero.mp z with e | e
        · exact e
        · omega
      rw [(md_f _).1 z, (md_f _).1 z2]
    · have z2 : 0 < (mdF (rtD rt D) (nI (2 ^ nV - 1)) (2 ^ nV)).1 := by
        by_cases e : (mdF (rtD rt D) (nI (2 ^ nV - 1)) (2 ^ nV)).1 = 0
        · rw [hc, e, Nat.zero_mul] at z; exact absurd rfl z
        · omega
      obtain ⟨s, s1, s2, s3, s4⟩ := (md_f _).2 (Nat.pos_of_ne_zero z)
      obtain ⟨u, u1, u2, u3, u4⟩ := (md_f _).2 z2
      rw [s3, u3]
      have hu := (sub u).mp u2
      congr 1
      have a1 : ¬ u < s := fun c => s4 u c hu.2
      have a2 : ¬ s &&& D < u := fun c => u4 (s &&& D) c (to s s1 s2)
      have := hle s
      omega
  · obtain ⟨s0, s1, s2, -, -⟩ := (md_f _).2 h0
    refine ⟨bt_eq (fun i hi => ?_), bt_eq (fun i hi => ?_)⟩
    · rw [md_a hi, md_a hi]
      refine ⟨fun h => ⟨h.1, fun s hs hr => h.2 s hs ((sub s).mp hr).2⟩, fun h => ⟨h.1, fun s hs hr => ?_⟩⟩
      have h3 := h.2 (s &&& D) (by have := hle s; omega) (to s hs hr)
      rw [Nat.testBit_and, Bool.and_eq_true] at h3
      exact h3.1
    · have key : ∀ (x y : Int32), bt (x &&& (y ^^^ -1)) i = true ↔ (bt x i = true ∧ ¬ bt y i = true) := fun x y => by
        rw [b_and, b_xor, b_m1 i hi]
        cases bt x i <;> cases bt y i <;> simp
      rw [key, key, md_o hi, md_o hi, b_nI hi, b_nI hi, tb_all, decide_eq_true_iff]
      refine ⟨fun h => ⟨?_, fun ⟨s, h1, h2, h3⟩ => h.2 ⟨s, h1, ((sub s).mp h2).2, h3⟩⟩, fun h => ⟨?_, fun ⟨s, h1, h2, h3⟩ => h.2 ⟨s &&& D, by have := hle s; omega, to s h1 h2, by rw [Nat.testBit_and, h3, h.1]; rfl⟩⟩⟩
      · -- with him too
        by_cases c : D.testBit i = true
        · exact c
        · refine absurd ⟨s0 ||| 2 ^ i, Nat.or_lt_two_pow s1 (Nat.pow_lt_pow_right (by decide) h.1), ?_, by rw [Nat.testBit_or, Nat.testBit_two_pow_self, Bool.or_true]⟩ h.2
          have hlt : s0 ||| 2 ^ i < 2 ^ nV := Nat.or_lt_two_pow s1 (Nat.pow_lt_pow_right (by decide) h.1)
          rw [hq _ hlt]
          have : (s0 ||| 2 ^ i) &&& D = s0 &&& D := by
            refine Nat.eq_of_testBit_eq (fun j => ?_)
            rw [Nat.testBit_and, Nat.testBit_or, Nat.testBit_and, Nat.testBit_two_pow]
            by_cases e : i = j
            · subst e
              cases hd : D.testBit i
              · rw [Bool.and_false, Bool.and_false]
              · exact absurd hd c
            · rw [decide_eq_false e, Bool.or_false]
          rw [this, ← hq s0 s1]
          exact s2
      · by_cases c : i < nV
        · exact c
        · rw [tb_lt hD (by omega)] at h
          exact absurd h.1 (by simp)
theorem xor_D (h9 : nV ≤ 9) (hD : D < 2 ^ nV) : nI (2 ^ nV - 1) &&& (nI D ^^^ -1) = nI ((2 ^ nV - 1) ^^^ D) ∧ (2 ^ nV - 1) ^^^ D < 2 ^ nV ∧ popN ((2 ^ nV - 1) ^^^ D) = exD D nV := by
  have h512 := p2_512 h9
  have hpos : 0 < 2 ^ nV := Nat.two_pow_pos _
  have hX : (2 ^ nV - 1) ^^^ D < 2 ^ nV := Nat.xor_lt_two_pow (by omega) hD
  refine ⟨b_ext (fun i hi => ?_), hX, ?_⟩
  · rw [b_and, b_xor, b_m1 i hi, b_nI hi, b_nI hi, b_nI hi, Nat.testBit_xor, tb_all]
    by_cases c : i < nV
    · rw [decide_eq_true c]
      cases D.testBit i <;> rfl
    · rw [decide_eq_false c, tb_lt hD (by omega)]
      rfl
  · unfold popN exD
    have : ∀ g, nV + g ≤ 9 → smN (fun k => ((2 ^ nV - 1) ^^^ D) / 2 ^ k % 2) (nV + g) = smN (fun k => ((2 ^ nV - 1) ^^^ D) / 2 ^ k % 2) nV := by
      intro g
      induction g with
      | zero => intro _; rfl
      | succ g ih =>
        intro hg
        show smN (fun k => ((2 ^ nV - 1) ^^^ D) / 2 ^ k % 2) (nV + g) + ((2 ^ nV - 1) ^^^ D) / 2 ^ (nV + g) % 2 = _
        rw [ih (by omega), tb_1, tb_lt hX (by omega)]
        rfl
    have h2 := this (9 - nV) (by omega)
    rw [show nV + (9 - nV) = 9 by omega] at h2
    rw [h2]
    refine smN_c _ (fun k hk => ?_)
    rw [tb_1, Nat.testBit_xor, tb_all, decide_eq_true hk]
    cases D.testBit k <;> rfl
end Mnd2
