/-! sets of villages; the best of them -/
def bt (x : Int32) (i : Nat) : Bool := x.toBitVec.getLsbD i
theorem b_ext {x y : Int32} (h : ∀ i, i < 32 → bt x i = bt y i) : x = y := Int32.toBitVec_inj.mp (BitVec.eq_of_getLsbD_eq (fun i hi => h i hi))
theorem b_or (x y : Int32) (i : Nat) : bt (x ||| y) i = (bt x i || bt y i) := by unfold bt; rw [Int32.toBitVec_or, BitVec.getLsbD_or]
theorem b_and (x y : Int32) (i : Nat) : bt (x &&& y) i = (bt x i && bt y i) := by unfold bt; rw [Int32.toBitVec_and, BitVec.getLsbD_and]
theorem b_xor (x y : Int32) (i : Nat) : bt (x ^^^ y) i = (bt x i ^^ bt y i) := by unfold bt; rw [Int32.toBitVec_xor, BitVec.getLsbD_xor]
theorem b_m1 : ∀ i, i < 32 → bt (-1) i = true := by decide +kernel
theorem b_nI {s i : Nat} (h : i < 32) : bt (nI s) i = s.testBit i := by
  unfold bt
  show (BitVec.ofNat 32 s).getLsbD i = _
  rw [BitVec.getLsbD_ofNat, decide_eq_true h, Bool.true_and]
theorem nx_and (a b : Nat) : nI a &&& nI b = nI (a &&& b) := b_ext (fun i hi => by rw [b_and, b_nI hi, b_nI hi, b_nI hi, Nat.testBit_and])
theorem nx_or (a b : Nat) : nI a ||| nI b = nI (a ||| b) := b_ext (fun i hi => by rw [b_or, b_nI hi, b_nI hi, b_nI hi, Nat.testBit_or])
theorem s_l9 : ∀ n, n < 10 → ((nI n &&& 31).toBitVec.smod 32).toNat = n := by decide +kernel
theorem bitN {s v : Nat} (hs : s < 512) (hv : v < 9) : nI s >>> (nI v &&& 31) &&& nI 1 = nI (s / 2 ^ v % 2) := by
  rw [pk_shrN (by omega) _ v (s_l9 v (by omega))]
  have : s / 2 ^ v ≤ s := Nat.div_le_self _ _
  rw [pk_andN (by omega) 1 (by decide)]
theorem shlN {v : Nat} (hv : v < 10) : nI 1 <<< (nI v &&& 31) = nI (2 ^ v) := by
  have : ∀ v, v < 10 → nI 1 <<< (nI v &&& 31) = nI (2 ^ v) := by decide +kernel
  exact this v hv
theorem tb_1 {s v : Nat} : s / 2 ^ v % 2 = if s.testBit v = true then 1 else 0 := by
  rw [Nat.testBit_eq_decide_div_mod_eq]
  by_cases e : s / 2 ^ v % 2 = 1
  · rw [if_pos (decide_eq_true e), e]
  · rw [if_neg (fun c => e (of_decide_eq_true c))]
    omega
theorem tb_9 {s v : Nat} (hs : s < 512) (hv : 9 ≤ v) : s.testBit v = false := Nat.testBit_lt_two_pow (Nat.lt_of_lt_of_le hs (Nat.pow_le_pow_right (n := 2) (by decide) hv))
theorem tb_lt {s v n : Nat} (hs : s < 2 ^ n) (hv : n ≤ v) : s.testBit v = false := Nat.testBit_lt_two_pow (Nat.lt_of_lt_of_le hs (Nat.pow_le_pow_right (by decide) hv))
/-- how many are in a set -/
def popN (s : Nat) : Nat := smN (fun k => s / 2 ^ k % 2) 9
theorem pop_9 {s : Nat} : popN s ≤ 9 := by
  have := smN_k (f := fun k => s / 2 ^ k % 2) (b := 1) 9 (fun k _ => by omega)
  unfold popN
  omega
theorem onN {s : Nat} (hs : s < 512) : onI (nI s) = nI (popN s) := smI_N 9 (fun k hk => bitN hs hk)
theorem smN_eq {f g : Nat → Nat} : ∀ n, (∀ k, k < n → f k ≤ g k) → smN f n = smN g n → ∀ k, k < n → f k = g k
  | 0, _, _, k, hk => absurd hk (by omega)
  | n + 1, h, e, k, hk => by
    have h1 := smN_m n (fun k hk => h k (by omega))
    have h2 := h n (by omega)
    have e' : smN f n + f n = smN g n + g n := e
    by_cases q : k = n
    · rw [q]; omega
    · exact smN_eq n (fun k hk => h k (by omega)) (by omega) k (by omega)
theorem pop_and {s u : Nat} : popN (s &&& u) ≤ popN s := smN_m 9 (fun k _ => by
  rw [tb_1, tb_1, Nat.testBit_and]
  cases s.testBit k <;> cases u.testBit k <;> decide)
theorem pop_and_eq {s u : Nat} (hs : s < 512) (h : popN (s &&& u) = popN s) : s &&& u = s := by
  have h1 := smN_eq 9 (fun k _ => by
    show (s &&& u) / 2 ^ k % 2 ≤ s / 2 ^ k % 2
    rw [tb_1, tb_1, Nat.testBit_and]
    cases s.testBit k <;> cases u.testBit k <;> decide) h
  refine Nat.eq_of_testBit_eq (fun i => ?_)
  by_cases hi : i < 9
  · have h2 : (s &&& u) / 2 ^ i % 2 = s / 2 ^ i % 2 := h1 i hi
    rw [tb_1, tb_1, Nat.testBit_and] at h2
    rw [Nat.testBit_and]
    cases hs : s.testBit i <;> cases hu : u.testBit i <;> simp [hs, hu] at h2 ⊢
  · rw [Nat.testBit_and, tb_9 hs (by omega)]
    rfl
theorem p2_512 {nV : Nat} (h : nV ≤ 9) : 2 ^ nV ≤ 512 := by
  have := Nat.pow_le_pow_right (n := 2) (by decide) h
  omega
theorem pop_nV {s nV : Nat} (h9 : nV ≤ 9) (hs : s < 2 ^ nV) : popN s ≤ nV := by
  have e : popN s = smN (fun k => s / 2 ^ k % 2) nV := by
    unfold popN
    have : ∀ g, nV + g ≤ 9 → smN (fun k => s / 2 ^ k % 2) (nV + g) = smN (fun k => s / 2 ^ k % 2) nV := by
      intro g
      induction g with
      | zero => intro _; rfl
      | succ g ih =>
        intro hg
        show smN (fun k => s / 2 ^ k % 2) (nV + g) + s / 2 ^ (nV + g) % 2 = _
        rw [ih (by omega), tb_1, tb_lt hs (by omega)]
        rfl
    have h2 := this (9 - nV) (by omega)
    rw [show nV + (9 - nV) = 9 by omega] at h2
    exact h2
  rw [e]
  have := smN_k (f := fun k => s / 2 ^ k % 2) (b := 1) nV (fun k _ => by omega)
  omega
/-- the smallest set of these, by its size, then by its number -/
def Bst (Q : Nat → Prop) (N s : Nat) : Prop := s < N ∧ Q s ∧ ∀ s', s' < N → Q s' → popN s < popN s' ∨ (popN s = popN s' ∧ s ≤ s')
theorem Bst.un {Q : Nat → Prop} {N s s' : Nat} (h : Bst Q N s) (h' : Bst Q N s') : s = s' := by
  have a := h.2.2 s' h'.1 h'.2.1
  have b := h'.2.2 s h.1 h.2.1
  omega
/-- sets that help -/
theorem bst_u {Q : Nat → Prop} {N U s : Nat} (hN : N ≤ 512) (hU : ∀ s, s < N → Q s → Q (s &&& U)) (h : Bst (fun s => Q s ∧ s &&& U = s) N s) : Bst Q N s := by
  refine ⟨h.1, h.2.1.1, fun s' hs' hq => ?_⟩
  have hle : s' &&& U ≤ s' := Nat.and_le_left
  have hidem : (s' &&& U) &&& U = s' &&& U := by rw [Nat.and_assoc, Nat.and_self]
  have h1 := h.2.2 (s' &&& U) (by omega) ⟨hU s' hs' hq, hidem⟩
  have h2 := pop_and (s := s') (u := U)
  by_cases e : popN (s' &&& U) = popN s'
  · rw [pop_and_eq (by omega) e] at h1
    exact h1
  · left; omega
theorem bst_0 {Q : Nat → Prop} {N U : Nat} (hU : ∀ s, s < N → Q s → Q (s &&& U)) (h : ∀ s, s < N → ¬ (Q s ∧ s &&& U = s)) : ∀ s, s < N → ¬ Q s := by
  intro s hs hq
  have hle : s &&& U ≤ s := Nat.and_le_left
  exact h (s &&& U) (by omega) ⟨hU s hs hq, by rw [Nat.and_assoc, Nat.and_self]⟩
theorem m1_n {s : Nat} (h : s < 512) : ¬ (nI s = -1) := by
  have : ∀ s, s < 512 → ¬ (nI s = -1) := by decide +kernel
  exact this s h
def whQ (I : Iv) (nV nC n : Nat) (s : Nat) : Prop := (I 500000 37 &&& (nI s ^^^ -1)) = nI 0 ∧ vwI (gR I nV nC (pmW I (nI s)) (I 500124) n) = nI 0
theorem wB_b {I : Iv} {nV nC n : Nat} : ∀ k, k ≤ 512 → (wB I nV nC n k = -1 ∧ ∀ s, s < k → ¬ whQ I nV nC n s) ∨ ∃ s, wB I nV nC n k = nI s ∧ Bst (whQ I nV nC n) k s
  | 0, _ => Or.inl ⟨rfl, fun s hs => absurd hs (by omega)⟩
  | k + 1, hk => by
    have ih := wB_b (I := I) (nV := nV) (nC := nC) (n := n) k (by omega)
    have skip : ¬ whQ I nV nC n k → (wB I nV nC n k = -1 ∧ ∀ s, s < k + 1 → ¬ whQ I nV nC n s) ∨ ∃ s, wB I nV nC n k = nI s ∧ Bst (whQ I nV nC n) (k + 1) s := by
      intro hq
      rcases ih with ⟨e, h⟩ | ⟨s, e, h⟩
      · refine Or.inl ⟨e, fun s hs => ?_⟩
        by_cases z : s = k
        · rw [z]; exact hq
        · exact h s (by omega)
      · refine Or.inr ⟨s, e, by have := h.1; omega, h.2.1, fun s' hs' hq' => ?_⟩
        by_cases z : s' = k
        · exact absurd (z ▸ hq') hq
        · exact h.2.2 s' (by omega) hq'
    unfold wB
    by_cases c1 : (I 500000 37 &&& (nI k ^^^ -1)) = nI 0
    · rw [if_neg (fun q => q c1)]
      by_cases c2 : ¬ wB I nV nC n k = -1 ∧ ¬ onI (nI k) < onI (wB I nV nC n k)
      · rw [if_pos c2]
        rcases ih with ⟨e, h⟩ | ⟨s, e, h⟩
        · exact absurd e c2.1
        · have c3 := c2.2
          have hs := h.1
          have p1 := pop_9 (s := k)
          have p2 := pop_9 (s := s)
          rw [e, onN (by omega), onN (by omega), nI_ltI (by omega) (by omega)] at c3
          refine Or.inr ⟨s, e, by omega, h.2.1, fun s' hs' hq' => ?_⟩
          by_cases z : s' = k
          · rw [z]; omega
          · exact h.2.2 s' (by omega) hq'
      · rw [if_neg c2]
        by_cases c4 : vwI (gR I nV nC (pmW I (nI k)) (I 500124) n) = nI 0
        · rw [if_pos c4]
          refine Or.inr ⟨k, rfl, by omega, ⟨c1, c4⟩, fun s' hs' hq' => ?_⟩
          by_cases z : s' = k
          · rw [z]; omega
          · rcases ih with ⟨e, h⟩ | ⟨s, e, h⟩
            · exact absurd hq' (h s' (by omega))
            · have hs := h.1
              have p1 := pop_9 (s := k)
              have p2 := pop_9 (s := s)
              have c5 : onI (nI k) < onI (wB I nV nC n k) := by
                by_cases q : onI (nI k) < onI (wB I nV nC n k)
                · exact q
                · exact absurd ⟨fun z => m1_n (by omega) (e.symm.trans z), q⟩ c2
              rw [e, onN (by omega), onN (by omega), nI_ltI (by omega) (by omega)] at c5
              have := h.2.2 s' (by omega) hq'
              omega
        · rw [if_neg c4]
          exact skip (fun q => c4 q.2)
    · rw [if_pos c1]
      exact skip (fun q => c1 q.1)
/-- p is in s -/
theorem sub_i {x y : Int32} : (x &&& (y ^^^ -1)) = nI 0 ↔ y &&& x = x := by
  constructor
  · intro h
    refine b_ext (fun i hi => ?_)
    have h1 := congrArg (fun z => bt z i) h
    simp only [b_and, b_xor, b_m1 i hi, b_nI hi, Nat.zero_testBit] at h1
    rw [b_and]
    cases hx : bt x i <;> cases hy : bt y i <;> simp [hx, hy] at h1 ⊢
  · intro h
    refine b_ext (fun i hi => ?_)
    have h1 := congrArg (fun z => bt z i) h
    simp only [b_and] at h1
    rw [b_and, b_xor, b_m1 i hi, b_nI hi, Nat.zero_testBit]
    cases hx : bt x i <;> cases hy : bt y i <;> simp [hx, hy] at h1 ⊢
/-! who puts nothing, or nothing that would change -/
def Pu (I : Iv) (nV : Nat) (P R : Pm) : Prop := (∀ v, v < nV → ((P.1 v = R.1 v ∧ (P.2.1 v = R.2.1 v ∨ ∀ p, p < (I 500067 v).toNatClampNeg → ¬ (I (500070 + v) (4 * p)).toNatClampNeg < 2)) ∨ (I 500067 v).toNatClampNeg = 0) ∧ ∀ h, h < 3 → P.2.2.1 v h = R.2.2.1 v h) ∧ P.2.2.2 = R.2.2.2
theorem q8_pu {I : Iv} {kn : Nat → Int32} {v : Nat} {c c' : Bool} : ∀ m, (∀ p, p < m → ¬ (I (500070 + v) (4 * p)).toNatClampNeg < 2) → ∀ pn, q8 I kn v c m pn = q8 I kn v c' m pn
  | 0, _, _ => rfl
  | m + 1, h, pn => by
    have h1 := h m (by omega)
    have e : ∀ c, hbF c (I (500070 + v) (4 * m)).toNatClampNeg = (I (500070 + v) (4 * m)).toNatClampNeg := fun c => by unfold hbF; rw [if_neg (fun z => h1 z.2)]
    unfold q8
    rw [q8_pu m (fun p hp => h p (by omega)) pn, e c, e c']
theorem d8v_pu {I : Iv} {P R : Pm} {r : Nat → Int32} {nV : Nat} (h : Pu I nV P R) : ∀ v, v ≤ nV → ∀ pn, d8v I P.1 P.2.1 r v pn = d8v I R.1 R.2.1 r v pn
  | 0, _, _ => rfl
  | v + 1, hv, pn => by
    have ih := d8v_pu (r := r) h v (by omega) pn
    unfold d8v
    rw [ih]
    rcases (h.1 v (by omega)).1 with ⟨e1, e2⟩ | e0
    · rw [e1]
      rcases e2 with e2 | e2
      · rw [e2]
      · rw [q8_pu _ e2]
    · rw [e0]
      have z : ∀ c q, q8 I (knR I r v) v c 0 q = q := fun _ _ => rfl
      rw [z, z, ite_self, ite_self]
theorem st2_pu {I : Iv} {nV nC : Nat} {P R : Pm} {q : (Nat → Int32) × Int32} (h : Pu I nV P R) : st2 I nV nC P q = st2 I nV nC R q := by
  unfold st2
  rw [h.2]
  simp only [t6_pe (fun v hv => (h.1 v hv).2) nV (Nat.le_refl _), d8v_pu h nV (Nat.le_refl _)]
theorem it2_pu {I : Iv} {nV nC : Nat} {P R : Pm} {q : (Nat → Int32) × Int32} (h : Pu I nV P R) : ∀ n, it2 I nV nC P q n = it2 I nV nC R q n
  | 0 => rfl
  | n + 1 => by
    unfold it2
    rw [it2_pu h n, st2_pu h]
theorem gR_pu {I : Iv} {nV nC : Nat} {P R : Pm} {r : Nat → Int32} (h : Pu I nV P R) (n : Nat) : gR I nV nC P r n = gR I nV nC R r n := by
  unfold gR
  rw [it2_pu h]
/-- the villages that put one of the herbs H -/
def puF (PS : Nat → List Pt) (H : Nat) : Nat → Nat
  | 0 => 0
  | v + 1 => puF PS H v ||| (if hbs (PS v) &&& H = 0 then 0 else 2 ^ v)
theorem puF_t {PS : Nat → List Pt} {H u : Nat} : ∀ m, (puF PS H m).testBit u = (decide (u < m) && decide (¬ hbs (PS u) &&& H = 0))
  | 0 => by
    show (0 : Nat).testBit u = _
    rw [Nat.zero_testBit, decide_eq_false (Nat.not_lt_zero u), Bool.false_and]
  | m + 1 => by
    show (puF PS H m ||| (if hbs (PS m) &&& H = 0 then 0 else 2 ^ m)).testBit u = _
    rw [Nat.testBit_or, puF_t m]
    by_cases e : hbs (PS m) &&& H = 0
    · rw [if_pos e, Nat.zero_testBit, Bool.or_false]
      by_cases q : u = m
      · subst q
        simp [e]
      · have : (u < m + 1) = (u < m) := propext (by omega)
        simp only [this]
    · rw [if_neg e, Nat.testBit_two_pow]
      by_cases q : u = m
      · subst q
        simp [e]
      · have : (u < m + 1) = (u < m) := propext (by omega)
        have hd : decide (m = u) = false := decide_eq_false (fun z => q z.symm)
        rw [hd, Bool.or_false]
        simp only [this]
theorem puF_lt {PS : Nat → List Pt} {H : Nat} : ∀ m, puF PS H m < 2 ^ m
  | 0 => Nat.one_pos
  | m + 1 => by
    show (puF PS H m ||| (if hbs (PS m) &&& H = 0 then 0 else 2 ^ m)) < 2 ^ (m + 1)
    have h1 := puF_lt (PS := PS) (H := H) m
    have h2 : 2 ^ m < 2 ^ (m + 1) := Nat.pow_lt_pow_right (by decide) (Nat.lt_succ_self m)
    refine Nat.or_lt_two_pow (by omega) ?_
    by_cases e : hbs (PS m) &&& H = 0
    · rw [if_pos e]; exact Nat.two_pow_pos _
    · rw [if_neg e]; exact h2
