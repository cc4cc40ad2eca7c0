/-! sums of cups: the flow makes none -/
def smN (f : Nat → Nat) : Nat → Nat
  | 0 => 0
  | n + 1 => smN f n + f n
theorem smN_c {f g : Nat → Nat} : ∀ n, (∀ k, k < n → f k = g k) → smN f n = smN g n
  | 0, _ => rfl
  | n + 1, h => by
    unfold smN
    rw [smN_c n (fun k hk => h k (by omega)), h n (by omega)]
theorem smN_m {f g : Nat → Nat} : ∀ n, (∀ k, k < n → f k ≤ g k) → smN f n ≤ smN g n
  | 0, _ => Nat.le_refl _
  | n + 1, h => Nat.add_le_add (smN_m n (fun k hk => h k (by omega))) (h n (by omega))
theorem smN_add {f g : Nat → Nat} : ∀ n, smN (fun k => f k + g k) n = smN f n + smN g n
  | 0 => rfl
  | n + 1 => by
    show smN (fun k => f k + g k) n + (f n + g n) = (smN f n + f n) + (smN g n + g n)
    rw [smN_add n]
    omega
theorem smN_swap {F : Nat → Nat → Nat} : ∀ n m, smN (fun v => smN (fun c => F v c) m) n = smN (fun c => smN (fun v => F v c) n) m
  | 0, m => by
    show 0 = smN (fun c => 0) m
    induction m with
    | zero => rfl
    | succ m ih => show 0 = smN (fun c => 0) m + 0; rw [← ih]
  | n + 1, m => by
    show smN (fun v => smN (fun c => F v c) m) n + smN (fun c => F n c) m = smN (fun c => smN (fun v => F v c) n + F n c) m
    rw [smN_swap n m, smN_add]
theorem smN_z {f : Nat → Nat} : ∀ n, (∀ k, k < n → f k = 0) → smN f n = 0
  | 0, _ => rfl
  | n + 1, h => by
    unfold smN
    rw [smN_z n (fun k hk => h k (by omega)), h n (by omega)]
theorem smN_pick {x p : Nat} : ∀ n, smN (fun k => if k = x then p else 0) n = if x < n then p else 0
  | 0 => rfl
  | n + 1 => by
    show smN (fun k => if k = x then p else 0) n + (if n = x then p else 0) = _
    rw [smN_pick n]
    by_cases e : n = x
    · subst e
      rw [if_neg (Nat.lt_irrefl _), if_pos rfl, if_pos (Nat.lt_succ_self _), Nat.zero_add]
    · rw [if_neg e, Nat.add_zero]
      by_cases q : x < n
      · rw [if_pos q, if_pos (by omega)]
      · rw [if_neg q, if_neg (by omega)]
theorem smN_one {f : Nat → Nat} {v : Nat} : ∀ n, v < n → f v ≤ smN f n
  | 0, h => absurd h (by omega)
  | n + 1, h => by
    show f v ≤ smN f n + f n
    by_cases e : v = n
    · rw [e]; omega
    · have := smN_one (f := f) n (show v < n by omega)
      omega
theorem smN_k {f : Nat → Nat} {b : Nat} : ∀ n, (∀ k, k < n → f k ≤ b) → smN f n ≤ n * b
  | 0, _ => by show 0 ≤ _; omega
  | n + 1, h => by
    show smN f n + f n ≤ (n + 1) * b
    have := smN_k n (fun k hk => h k (by omega))
    have h2 := h n (by omega)
    rw [Nat.succ_mul]
    omega
theorem smI_N {f : Nat → Int32} {q : Nat → Nat} : ∀ n, (∀ k, k < n → f k = nI (q k)) → smI f n = nI (smN q n)
  | 0, _ => rfl
  | n + 1, h => by
    show smI f n + f n = nI (smN q n + q n)
    rw [smI_N n (fun k hk => h k (by omega)), h n (by omega), nI_add]
/-- an item's cups in all villages -/
def IB (r : Nat → Int32) (p : Nat → Nat) (nV T : Nat) : Prop := ∃ q : Nat → Nat, (∀ v, v < nV → r (p v) = nI (q v)) ∧ smN q nV ≤ T
theorem IB.one {r : Nat → Int32} {p : Nat → Nat} {nV T v : Nat} (h : IB r p nV T) (hv : v < nV) : ∃ k, k ≤ T ∧ r (p v) = nI k := by
  obtain ⟨q, h1, h2⟩ := h
  exact ⟨q v, Nat.le_trans (smN_one nV hv) h2, h1 v hv⟩
section FlN
variable {S : Tn} {q : Nat → Nat}
/-- what a channel leads -/
def ldN (S : Tn) (q : Nat → Nat) (c : Nat) : Nat := q (S.2.2.2 c 0) * S.2.2.2 c 2 / 8
def inN (S : Tn) (q : Nat → Nat) (x m : Nat) : Nat := smN (fun c => if x = S.2.2.2 c 1 then ldN S q c else 0) m
def ouN (S : Tn) (q : Nat → Nat) (x m : Nat) : Nat := smN (fun c => if x = S.2.2.2 c 0 then ldN S q c else 0) m
def tpN (S : Tn) (q : Nat → Nat) (x : Nat) : Nat := if S.2.1.1 = some x then q x * S.2.1.2.1 / 8 else 0
def lkN (S : Tn) (q : Nat → Nat) (x : Nat) : Nat := q x * vz S x 2 / 8
theorem ou_8 {x : Nat} : ∀ m, 8 * (ouN S q x m + tpN S q x) ≤ q x * pfC S x m
  | 0 => by
    show 8 * (0 + tpN S q x) ≤ q x * (if S.2.1.1 = some x then S.2.1.2.1 else 0)
    unfold tpN
    by_cases e : S.2.1.1 = some x
    · rw [if_pos e, if_pos e]; omega
    · rw [if_neg e, if_neg e]; omega
  | m + 1 => by
    have ih := ou_8 (x := x) m
    show 8 * ((ouN S q x m + if x = S.2.2.2 m 0 then ldN S q m else 0) + tpN S q x) ≤ q x * (pfC S x m + if S.2.2.2 m 0 = x then S.2.2.2 m 2 else 0)
    rw [Nat.mul_add (q x)]
    by_cases e : x = S.2.2.2 m 0
    · rw [if_pos e, if_pos e.symm]
      unfold ldN
      rw [← e]
      omega
    · rw [if_neg e, if_neg (fun z => e z.symm)]
      omega
theorem out_le {x : Nat} (hS : TnV S) (hx : x < S.1.1) : ouN S q x S.1.2 + tpN S q x + lkN S q x ≤ q x := by
  have h1 := ou_8 (S := S) (q := q) (x := x) S.1.2
  have h2 := hS.2.2.2.2.2.2.1 x hx
  have h3 : lkN S q x = q x * S.2.2.1 x 2 / 8 := by unfold lkN vz; rw [if_pos hx]
  have h4 : q x * (pfS S x + S.2.2.1 x 2) ≤ q x * 8 := Nat.mul_le_mul_left _ h2
  rw [Nat.mul_add] at h4
  unfold pfS at h4
  omega
theorem in_all (hS : TnV S) : smN (fun x => inN S q x S.1.2) S.1.1 = smN (ldN S q) S.1.2 := by
  show smN (fun x => smN (fun c => if x = S.2.2.2 c 1 then ldN S q c else 0) S.1.2) S.1.1 = _
  rw [smN_swap]
  refine smN_c _ (fun c hc => ?_)
  rw [smN_pick, if_pos (hS.2.2.2.2.2.1 c hc).2.1]
theorem ou_all (hS : TnV S) : smN (fun x => ouN S q x S.1.2) S.1.1 = smN (ldN S q) S.1.2 := by
  show smN (fun x => smN (fun c => if x = S.2.2.2 c 0 then ldN S q c else 0) S.1.2) S.1.1 = _
  rw [smN_swap]
  refine smN_c _ (fun c hc => ?_)
  rw [smN_pick, if_pos (hS.2.2.2.2.2.1 c hc).1]
def nwN (S : Tn) (q : Nat → Nat) (x : Nat) : Nat := q x + inN S q x S.1.2 - (ouN S q x S.1.2 + tpN S q x + lkN S q x)
theorem nw_all (hS : TnV S) : smN (nwN S q) S.1.1 ≤ smN q S.1.1 := by
  have h1 : smN (fun x => nwN S q x + ouN S q x S.1.2) S.1.1 ≤ smN (fun x => q x + inN S q x S.1.2) S.1.1 := smN_m _ (fun x hx => by
    have := out_le (q := q) hS hx
    unfold nwN
    omega)
  rw [smN_add, smN_add, in_all hS, ou_all hS] at h1
  omega
theorem dl_N {x : Nat} (hS : TnV S) (hq : ∀ v, v < S.1.1 → q v * 8 < 2147483648) {o : Nat → Int32} (ho : ∀ v, v < S.1.1 → o v = nI (q v)) : ∀ m, m ≤ S.1.2 → smI (fun c => dlX (S.2.2.2 c 0) (S.2.2.2 c 1) x (o (S.2.2.2 c 0) * nI (S.2.2.2 c 2) / nI 8)) m = nI (inN S q x m) - nI (ouN S q x m)
  | 0, _ => by show nI 0 = nI 0 - nI 0; decide
  | m + 1, hm => by
    have ih := dl_N (x := x) hS hq ho m (by omega)
    obtain ⟨hf, ht, hp⟩ := hS.2.2.2.2.2.1 m (by omega)
    have hq1 := hq _ hf
    have hle : q (S.2.2.2 m 0) * S.2.2.2 m 2 ≤ q (S.2.2.2 m 0) * 8 := Nat.mul_le_mul_left _ hp
    have e : o (S.2.2.2 m 0) * nI (S.2.2.2 m 2) / nI 8 = nI (ldN S q m) := by
      rw [ho _ hf, pk_mul, nI_dvN (by omega) (by decide) (by decide)]
      rfl
    show smI _ m + dlX _ _ x (o (S.2.2.2 m 0) * nI (S.2.2.2 m 2) / nI 8) = nI (inN S q x m + if x = S.2.2.2 m 1 then ldN S q m else 0) - nI (ouN S q x m + if x = S.2.2.2 m 0 then ldN S q m else 0)
    rw [ih, e, ← nI_add, ← nI_add]
    unfold dlX
    by_cases c1 : x = S.2.2.2 m 1 <;> by_cases c2 : x = S.2.2.2 m 0 <;> simp only [if_pos, if_neg, c1, c2, not_false_eq_true, if_true, if_false] <;> grind
/-- the flow of an item -/
theorem flow_N {r o : Nat → Int32} {p : Nat → Nat} {T : Nat} (hS : TnV S) (hI : IB o p S.1.1 T) (hT : T * 8 < 2147483648) (hr : ∀ x, x < S.1.1 → r (p x) = o (p x) + (smI (fun c => dlX (S.2.2.2 c 0) (S.2.2.2 c 1) x (o (p (S.2.2.2 c 0)) * nI (S.2.2.2 c 2) / nI 8)) S.1.2 - (tpX S x (o (p x)) + o (p x) * nI (vz S x 2) / nI 8))) : IB r p S.1.1 T := by
  obtain ⟨q, h1, h2⟩ := hI
  have hq : ∀ v, v < S.1.1 → q v * 8 < 2147483648 := fun v hv => by
    have := smN_one (f := q) S.1.1 hv
    omega
  refine ⟨nwN S q, fun x hx => ?_, Nat.le_trans (nw_all hS) h2⟩
  have hqx := hq x hx
  have hle := out_le (q := q) hS hx
  have htp : tpX S x (nI (q x)) = nI (tpN S q x) := by
    unfold tpX tpN
    by_cases e : S.2.1.1 = some x
    · have h8 : q x * S.2.1.2.1 ≤ q x * 8 := Nat.mul_le_mul_left _ hS.2.2.2.1
      rw [if_pos e, if_pos e, pk_mul, nI_dvN (by omega) (by decide) (by decide)]
    · rw [if_neg e, if_neg e]
  have hlk : nI (q x) * nI (vz S x 2) / nI 8 = nI (lkN S q x) := by
    have hv8 : vz S x 2 ≤ 8 := by
      unfold vz
      rw [if_pos hx]
      have := hS.2.2.2.2.2.2.1 x hx
      omega
    have h8 : q x * vz S x 2 ≤ q x * 8 := Nat.mul_le_mul_left _ hv8
    rw [pk_mul, nI_dvN (by omega) (by decide) (by decide)]
    rfl
  rw [hr x hx, h1 x hx, htp, hlk, dl_N (o := fun v => o (p v)) hS hq h1 S.1.2 (Nat.le_refl _)]
  unfold nwN
  rw [← nI_sb (by omega), ← nI_add, ← nI_add, ← nI_add]
  grind
end FlN
