/-! a day by what is asked: who puts, who is contrary, what the filters take, how dry it is -/
abbrev Pm : Type := (Nat → Bool) × (Nat → Bool) × (Nat → Nat → Int32) × Int32
def h5 (I : Iv) (dry : Int32) (r : Nat → Int32) (x : Int32) : Nat → (Nat → Int32) × Int32
  | 0 => (r, x)
  | v + 1 =>
    let q := h5 I dry r x v
    let y := if nI 0 < dry then q.2 * nI 1103515245 + nI 12345 else q.2
    (ru q.1 v (q.1 v + (if nI 0 < dry ∧ (y >>> (nI 16 &&& 31) &&& nI 15) < dry then nI 0 else I (500016 + v) 1)), y)
def t3 (sn : Nat → Nat → Int32) (v : Nat) : Nat → (Nat → Int32) → Nat → Int32
  | 0, r => r
  | h + 1, r => (stR v h (sn v h) (t3 sn v h r) 9).1
def t6 (sn : Nat → Nat → Int32) : Nat → (Nat → Int32) → Nat → Int32
  | 0, r => r
  | v + 1, r => t3 sn v 3 (t6 sn v r)
def st2 (I : Iv) (nV nC : Nat) (P : Pm) (q : (Nat → Int32) × Int32) : (Nat → Int32) × Int32 :=
  let r2 := tap0 (ru q.1 501 (q.1 501 + nI 1))
  let g := h5 I P.2.2.2 (f4 I nC r2 nV r2) q.2 nV
  let r6 := t6 P.2.2.1 nV g.1
  (w11 nV (w10 (p9 (d8v I P.1 P.2.1 r6 nV (fun _ => nI 0)) nV r6)), g.2)
def it2 (I : Iv) (nV nC : Nat) (P : Pm) (q : (Nat → Int32) × Int32) : Nat → (Nat → Int32) × Int32
  | 0 => q
  | n + 1 => st2 I nV nC P (it2 I nV nC P q n)
/-- P and R ask the same of the villages below nV -/
def Pe (nV : Nat) (P R : Pm) : Prop := (∀ v, v < nV → P.1 v = R.1 v ∧ P.2.1 v = R.2.1 v ∧ ∀ h, h < 3 → P.2.2.1 v h = R.2.2.1 v h) ∧ P.2.2.2 = R.2.2.2
theorem h5_is {I : Iv} {r : Nat → Int32} {x : Int32} : ∀ v, g5 I r x v = h5 I (I 500000 47) r x v
  | 0 => rfl
  | v + 1 => by
    unfold g5 h5
    rw [h5_is v]
theorem t3_is {I : Iv} {v : Nat} : ∀ h r, s3 I v h r = t3 (stN I) v h r
  | 0, _ => rfl
  | h + 1, r => by
    unfold s3 t3
    rw [t3_is h r]
theorem t6_is {I : Iv} : ∀ v r, s6 I v r = t6 (stN I) v r
  | 0, _ => rfl
  | v + 1, r => by
    unfold s6 t6
    rw [t6_is v r, t3_is]
def pmI (I : Iv) : Pm := (plB I, coB I, stN I, I 500000 47)
theorem st2_is {I : Iv} {nV nC : Nat} {q : (Nat → Int32) × Int32} : st1 I nV nC q = st2 I nV nC (pmI I) q := by
  unfold st1 stepR st2 pmI
  simp only [h5_is, t6_is]
theorem it2_is {I : Iv} {nV nC : Nat} {q : (Nat → Int32) × Int32} : ∀ n, itR I nV nC q n = it2 I nV nC (pmI I) q n
  | 0 => rfl
  | n + 1 => by
    unfold itR it2
    rw [it2_is n, st2_is]
theorem t3_pe {s t : Nat → Nat → Int32} {v : Nat} (h : ∀ k, k < 3 → s v k = t v k) : ∀ k, k ≤ 3 → ∀ r, t3 s v k r = t3 t v k r
  | 0, _, _ => rfl
  | k + 1, hk, r => by
    unfold t3
    rw [t3_pe h k (by omega) r, h k (by omega)]
theorem t6_pe {s t : Nat → Nat → Int32} {nV : Nat} (h : ∀ v, v < nV → ∀ k, k < 3 → s v k = t v k) : ∀ v, v ≤ nV → ∀ r, t6 s v r = t6 t v r
  | 0, _, _ => rfl
  | v + 1, hv, r => by
    unfold t6
    rw [t6_pe h v (by omega) r, t3_pe (h v (by omega)) 3 (by omega)]
theorem d8v_pe {I : Iv} {pl co pl' co' : Nat → Bool} {r : Nat → Int32} {nV : Nat} (h : ∀ v, v < nV → pl v = pl' v ∧ co v = co' v) : ∀ v, v ≤ nV → ∀ pn, d8v I pl co r v pn = d8v I pl' co' r v pn
  | 0, _, _ => rfl
  | v + 1, hv, pn => by
    unfold d8v
    rw [d8v_pe h v (by omega) pn, (h v (by omega)).1, (h v (by omega)).2]
theorem st2_pe {I : Iv} {nV nC : Nat} {P R : Pm} {q : (Nat → Int32) × Int32} (h : Pe nV P R) : st2 I nV nC P q = st2 I nV nC R q := by
  unfold st2
  rw [h.2]
  simp only [t6_pe (fun v hv => (h.1 v hv).2.2) nV (Nat.le_refl _), d8v_pe (fun v hv => ⟨(h.1 v hv).1, (h.1 v hv).2.1⟩) nV (Nat.le_refl _)]
theorem it2_pe {I : Iv} {nV nC : Nat} {P R : Pm} {q : (Nat → Int32) × Int32} (h : Pe nV P R) : ∀ n, it2 I nV nC P q n = it2 I nV nC R q n
  | 0 => rfl
  | n + 1 => by
    unfold it2
    rw [it2_pe h n, st2_pe h]
/-- where towns and opinions stand -/
def tw (i : Nat) : Prop := i = 500004 ∨ i = 500067 ∨ (500016 ≤ i ∧ i < 500025) ∨ (500047 ≤ i ∧ i < 500067) ∨ (500070 ≤ i ∧ i < 500079) ∨ (500080 ≤ i ∧ i < 500089)
def SayT (I J : Iv) : Prop := ∀ i, tw i → J i = I i
theorem SayT.rf {I : Iv} : SayT I I := fun _ _ => rfl
theorem SayT.tr {I J K : Iv} (h : SayT I J) (h2 : SayT J K) : SayT I K := fun i hi => (h2 i hi).trans (h i hi)
theorem chR_t {I J : Iv} {n : Int32} {v b st : Nat} (h : SayT I J) : ∀ c, c ≤ 20 → ∀ r, chR J n v b st c r = chR I n v b st c r
  | 0, _, _ => rfl
  | c + 1, hc, r => by
    unfold chR
    rw [chR_t h c (by omega) r, h (500047 + c) (by unfold tw; omega)]
theorem flR_t {I J : Iv} {nC : Nat} {n : Int32} {v b st : Nat} {r : Nat → Int32} (h : SayT I J) (hc : nC ≤ 20) (hv : v < 9) : flR J nC n v b st r = flR I nC n v b st r := by
  unfold flR toT toG
  rw [chR_t h nC hc r, h (500016 + v) (by unfold tw; omega), h 500004 (by unfold tw; omega)]
theorem f4k_t {I J : Iv} {nC : Nat} {old : Nat → Int32} {v : Nat} (h : SayT I J) (hc : nC ≤ 20) (hv : v < 9) : ∀ k r, f4k J nC old v k r = f4k I nC old v k r
  | 0, r => flR_t h hc hv
  | k + 1, r => by
    unfold f4k
    rw [f4k_t h hc hv k r, flR_t h hc hv]
theorem f4_t {I J : Iv} {nC : Nat} {old : Nat → Int32} (h : SayT I J) (hc : nC ≤ 20) : ∀ v, v ≤ 9 → ∀ r, f4 J nC old v r = f4 I nC old v r
  | 0, _, _ => rfl
  | v + 1, hv, r => by
    unfold f4
    rw [f4_t h hc v (by omega) r, f4k_t h hc (by omega)]
theorem h5_t {I J : Iv} {dry : Int32} {r : Nat → Int32} {x : Int32} (h : SayT I J) : ∀ v, v ≤ 9 → h5 J dry r x v = h5 I dry r x v
  | 0, _ => rfl
  | v + 1, hv => by
    unfold h5
    rw [h5_t h v (by omega), h (500016 + v) (by unfold tw; omega)]
theorem pvl_t {I J : Iv} {v p : Nat} {kn : Nat → Int32} (h : SayT I J) (hv : v < 9) : pvl J kn v p = pvl I kn v p := by
  unfold pvl
  rw [h (500016 + v) (by unfold tw; omega), h (500070 + v) (by unfold tw; omega), h (500080 + v) (by unfold tw; omega)]
theorem q8_t {I J : Iv} {v : Nat} {kn : Nat → Int32} {c : Bool} (h : SayT I J) (hv : v < 9) : ∀ p pn, q8 J kn v c p pn = q8 I kn v c p pn
  | 0, _ => rfl
  | p + 1, pn => by
    unfold q8
    rw [q8_t h hv p pn, pvl_t h hv, h (500070 + v) (by unfold tw; omega)]
theorem d8v_t {I J : Iv} {pl co : Nat → Bool} {r : Nat → Int32} (h : SayT I J) : ∀ v, v ≤ 9 → ∀ pn, d8v J pl co r v pn = d8v I pl co r v pn
  | 0, _, _ => rfl
  | v + 1, hv, pn => by
    unfold d8v
    rw [d8v_t h v (by omega) pn, q8_t h (by omega), h 500067 (by unfold tw; omega)]
    unfold knR
    rw [h (500016 + v) (by unfold tw; omega)]
theorem st2_t {I J : Iv} {nV nC : Nat} {P : Pm} {q : (Nat → Int32) × Int32} (h : SayT I J) (hV : nV ≤ 9) (hC : nC ≤ 20) : st2 J nV nC P q = st2 I nV nC P q := by
  unfold st2
  simp only [f4_t h hC nV hV, h5_t h nV hV, d8v_t h nV hV]
theorem it2_t {I J : Iv} {nV nC : Nat} {P : Pm} {q : (Nat → Int32) × Int32} (h : SayT I J) (hV : nV ≤ 9) (hC : nC ≤ 20) : ∀ n, it2 J nV nC P q n = it2 I nV nC P q n
  | 0 => rfl
  | n + 1 => by
    unfold it2
    rw [it2_t h hV hC n, st2_t h hV hC]
theorem VS.t {I J : Iv} {nV nC : Nat} (hV : VS I nV nC) (h : SayT I J) : VS J nV nC := by
  obtain ⟨h1, h2, h3, h4, h5, h6, h7⟩ := hV
  refine ⟨by rw [h _ (by unfold tw; omega)]; exact h1, h2, by rw [h _ (by unfold tw; omega)]; exact h3, h4, fun c hc => ?_, fun v hv => ?_, fun v hv => ?_⟩
  · rw [h (500047 + c) (by unfold tw; omega)]; exact h5 c hc
  · rw [h (500016 + v) (by unfold tw; omega)]; exact h6 v hv
  · obtain ⟨pm, q1, q2, q3⟩ := h7 v hv
    refine ⟨pm, q1, by rw [h _ (by unfold tw; omega)]; exact q2, fun p hp => ?_⟩
    unfold wfQ wfP
    rw [h (500070 + v) (by unfold tw; omega), h (500080 + v) (by unfold tw; omega)]
    exact q3 p hp
/-- lots that no drought draws -/
theorem h5_dry {I : Iv} {r : Nat → Int32} {x y : Int32} : ∀ v, h5 I (nI 0) r x v = ((h5 I (nI 0) r y v).1, x)
  | 0 => rfl
  | v + 1 => by
    unfold h5
    rw [h5_dry (x := x) (y := y) v]
    have : ¬ nI 0 < nI 0 := by decide
    simp only [this, if_false, false_and]
theorem st2_dry {I : Iv} {nV nC : Nat} {P : Pm} {r : Nat → Int32} {x y : Int32} (h : P.2.2.2 = nI 0) : st2 I nV nC P (r, x) = ((st2 I nV nC P (r, y)).1, x) := by
  unfold st2
  rw [h]
  simp only
  rw [h5_dry (x := x) (y := y)]
theorem it2_dry {I : Iv} {nV nC : Nat} {P : Pm} {r : Nat → Int32} {x y : Int32} (h : P.2.2.2 = nI 0) : ∀ n, it2 I nV nC P (r, x) n = ((it2 I nV nC P (r, y) n).1, x)
  | 0 => rfl
  | n + 1 => by
    unfold it2
    rw [it2_dry (x := x) (y := y) h n, st2_dry (y := (it2 I nV nC P (r, y) n).2) h]
/-- the row behind so many days -/
def gR (I : Iv) (nV nC : Nat) (P : Pm) (r : Nat → Int32) (n : Nat) : Nat → Int32 := (it2 I nV nC P (r, nI 0) n).1
theorem gR_of {I : Iv} {nV nC : Nat} {P : Pm} {r : Nat → Int32} {x : Int32} (h : P.2.2.2 = nI 0) (n : Nat) : (it2 I nV nC P (r, x) n).1 = gR I nV nC P r n := by
  rw [it2_dry (y := nI 0) h n]
  rfl
theorem gR_s {I : Iv} {nV nC : Nat} {P : Pm} {r : Nat → Int32} (h : P.2.2.2 = nI 0) (n : Nat) : gR I nV nC P r (n + 1) = (st2 I nV nC P (gR I nV nC P r n, nI 0)).1 := by
  show (st2 I nV nC P (it2 I nV nC P (r, nI 0) n)).1 = (st2 I nV nC P ((it2 I nV nC P (r, nI 0) n).1, nI 0)).1
  have e := it2_dry (I := I) (nV := nV) (nC := nC) (r := r) (x := nI 0) (y := nI 0) h n
  generalize it2 I nV nC P (r, nI 0) n = q at e
  rw [e]
/-- what stays: all but what trials write -/
def scA (i : Nat) : Prop := i = 500126 ∨ i = 500128 ∨ i = 500129 ∨ i = 500091 ∨ i = 500092 ∨ i = 500130 ∨ i = 500131 ∨ (500133 ≤ i ∧ i < 500334) ∨ (500335 ≤ i ∧ i < 500356)
def scF (j : Nat) : Prop := j = 0 ∨ (41 ≤ j ∧ j < 50) ∨ j = 56
def MP (I J : Iv) : Prop := (∀ i, i ≠ 500000 → ¬ scA i → J i = I i) ∧ ∀ j, ¬ scF j → J 500000 j = I 500000 j
theorem MP.rf {I : Iv} : MP I I := ⟨fun _ _ _ => rfl, fun _ _ => rfl⟩
theorem MP.tr {I J K : Iv} (h : MP I J) (h2 : MP J K) : MP I K := ⟨fun i a b => (h2.1 i a b).trans (h.1 i a b), fun j b => (h2.2 j b).trans (h.2 j b)⟩
theorem MP.fr {I J : Iv} (h : Fr 500126 I J) : MP I J := ⟨fun i a b => h.1 i (by unfold scA at b; omega) (by unfold scA at b; omega) (by unfold scA at b; omega) (by unfold scA at b; omega) (by unfold scA at b; omega) a, fun j b => h.2 j (by unfold scF at b; omega)⟩
theorem MP.fl {I : Iv} {j : Nat} {x : Int32} (h : scF j) : MP I (up I 500000 j x) := ⟨fun i a _ => by funext q; exact up_n (by omega), fun q b => up_n (fun c => b (c.2 ▸ h))⟩
theorem MP.row {I : Iv} {a : Nat} {r : Nat → Int32} (h : scA a) (h0 : a ≠ 500000) : MP I (sr I a r) := ⟨fun i _ b => sr_n (fun c => b (c ▸ h)), fun _ _ => by rw [sr_n (Ne.symm h0)]⟩
theorem MP.el {I : Iv} {a k : Nat} {x : Int32} (h : scA a) (h0 : a ≠ 500000) : MP I (up I a k x) := by rw [up_to_sr]; exact MP.row h h0
theorem MP.as {I : Iv} : MP I (asN I) := by
  refine ⟨fun i a _ => asN_r a, fun j b => asN_n (Or.inr ?_)⟩
  unfold scF at b
  omega
theorem MP.t {I J : Iv} (h : MP I J) : SayT I J := fun i hi => h.1 i (by unfold tw at hi; omega) (by unfold tw at hi; unfold scA; omega)
/-- who puts where x is who is pleased -/
def plS (x : Int32) (v : Nat) : Bool := decide (x >>> (nI v &&& 31) &&& nI 1 = nI 0)
def coS (x : Int32) (v : Nat) : Bool := decide (x >>> (nI v &&& 31) &&& nI 1 = nI 1)
/-- filters with and without grades -/
def snG (I : Iv) (v h : Nat) : Int32 := I (500016 + v) (5 + h) + I 500123 v
def sn0 (I : Iv) (v h : Nat) : Int32 := I (500016 + v) (5 + h)
def pmN (I : Iv) : Pm := (plS (I 500000 37), coS (I 500000 38), snG I, nI 0)
theorem nIm (v : Nat) (h : v < 9) : ¬ (-1 : Int32) = nI v := by
  have : ∀ v, v < 9 → ¬ (-1 : Int32) = nI v := by decide
  exact this v h
theorem pm_as {I : Iv} {nV : Nat} (h9 : nV ≤ 9) : Pe nV (pmI (asN I)) (pmN I) := by
  refine ⟨fun v hv => ⟨?_, ?_, fun h hh => ?_⟩, ?_⟩
  · show plB (asN I) v = plS (I 500000 37) v
    unfold plB plS asN
    simp [up_n, up_s, up_n (show ¬ ((500000:Nat) = 500000 ∧ 41 = 42) by decide), up]
  · show coB (asN I) v = coS (I 500000 38) v
    unfold coB coS asN
    simp [up]
  · show stN (asN I) v h = snG I v h
    have e1 : asN I (500016 + v) = I (500016 + v) := asN_r (by omega)
    have e2 : asN I 500123 = I 500123 := asN_r (by omega)
    have e3 : asN I 500000 49 = nI 1 := by unfold asN; simp [up]
    have e4 : asN I 500000 43 = -1 := by unfold asN; simp [up]
    unfold stN snG
    rw [e1, e2, e3, e4, if_pos n10, if_neg (fun c => nIm v (by omega) c.1), nI_0, Int32.add_zero]
  · show asN I 500000 47 = nI 0
    unfold asN
    simp [up]
theorem it2_as {I : Iv} {nV nC : Nat} {q : (Nat → Int32) × Int32} (h9 : nV ≤ 9) (hC : nC ≤ 20) (n : Nat) : itR (asN I) nV nC q n = it2 I nV nC (pmN I) q n := by
  rw [it2_is, it2_pe (pm_as h9) n, it2_t MP.as.t h9 hC]
theorem MP.pm {I J : Iv} {nV : Nat} (h9 : nV ≤ 9) (h : MP I J) : Pe nV (pmN J) (pmN I) := by
  refine ⟨fun v hv => ⟨?_, ?_, fun k hk => ?_⟩, rfl⟩
  · show plS _ v = plS _ v
    rw [h.2 37 (by unfold scF; omega)]
  · show coS _ v = coS _ v
    rw [h.2 38 (by unfold scF; omega)]
  · show snG J v k = snG I v k
    unfold snG
    rw [h.1 (500016 + v) (by omega) (by unfold scA; omega), h.1 500123 (by omega) (by unfold scA; omega)]
