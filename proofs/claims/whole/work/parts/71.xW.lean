/-! contracts of the class, 2: bytes, words and their codes -/
theorem by256 {x : Int32} (hx : x.toInt8.toInt32 = x) : ∃ k, k < 256 ∧ x &&& nI 255 = nI k ∧ (k < 128 → x = nI k) ∧ (128 ≤ k → x < nI 0) := by
  have h : ∀ k, k < 256 → ((Int8.ofNat k).toInt32 &&& nI 255 = nI k ∧ (k < 128 → (Int8.ofNat k).toInt32 = nI k) ∧ (128 ≤ k → (Int8.ofNat k).toInt32 < nI 0)) := by decide +kernel
  have e : Int8.ofNat x.toInt8.toBitVec.toNat = x.toInt8 := by
    apply Int8.toBitVec_inj.mp
    simp
  have hlt : x.toInt8.toBitVec.toNat < 256 := x.toInt8.toBitVec.isLt
  have h1 := h _ hlt
  rw [e, hx] at h1
  exact ⟨_, hlt, h1⟩
theorem by_eq {x : Int32} (hx : x.toInt8.toInt32 = x) {c : Nat} (hc : c < 128) : x = nI c ↔ x &&& nI 255 = nI c := by
  obtain ⟨k, h1, h2, h3, h4⟩ := by256 hx
  rw [h2]
  by_cases hk : k < 128
  · rw [h3 hk]
  · have hn := h4 (by omega)
    refine ⟨fun e => ?_, fun e => ?_⟩
    · rw [e] at hn
      exact absurd hn (by rw [nIs (by omega) (by omega)]; omega)
    · have := (nI_eq (by omega) (by omega)).mp e
      omega
theorem by_rg {x : Int32} (hx : x.toInt8.toInt32 = x) {lo hi : Nat} (hc : hi < 128) : (nI lo ≤ x ∧ x ≤ nI hi) ↔ (nI lo ≤ x &&& nI 255 ∧ x &&& nI 255 ≤ nI hi) ∨ (nI lo ≤ x ∧ 128 ≤ lo ∧ x ≤ nI hi) ∨ (nI lo ≤ x ∧ x < nI 0) := by
  obtain ⟨k, h1, h2, h3, h4⟩ := by256 hx
  rw [h2]
  by_cases hk : k < 128
  · rw [h3 hk]
    refine ⟨fun h => Or.inl h, fun h => ?_⟩
    rcases h with h | ⟨h, -, h'⟩ | ⟨h, h'⟩
    · exact h
    · exact ⟨h, h'⟩
    · exact absurd h' (by rw [nIs (by omega) (by omega)]; omega)
  · have hn := h4 (by omega)
    refine ⟨fun h => Or.inr (Or.inr ⟨h.1, hn⟩), fun h => ?_⟩
    rcases h with h | ⟨h, -, h'⟩ | ⟨h, h'⟩
    · have := (nI_leI (by omega) (by omega)).mp h.2
      omega
    · exact ⟨h, h'⟩
    · exact ⟨h, Int32.le_of_lt (Int32.lt_of_lt_of_le h' (nI_le (Nat.zero_le _) (by omega)))⟩
/-- of letters and digits -/
theorem by_r {x : Int32} (hx : x.toInt8.toInt32 = x) {lo hi : Nat} (hl : lo < 128) (hc : hi < 128) : (nI lo ≤ x ∧ x ≤ nI hi) ↔ (nI lo ≤ x &&& nI 255 ∧ x &&& nI 255 ≤ nI hi) := by
  rw [by_rg hx hc]
  refine ⟨fun h => ?_, fun h => Or.inl h⟩
  rcases h with h | ⟨-, h, -⟩ | ⟨h, h'⟩
  · exact h
  · omega
  · have h0 : nI lo < nI 0 := Int32.lt_of_le_of_lt h h'
    exact absurd h0 (by rw [nIs (by omega) (by omega)]; omega)
def By (I : Iv) : Prop := ∀ k, k < 600 → (I 2 k).toInt8.toInt32 = I 2 k
/-- the text of the class -/
def xt (I : Iv) (n k : Nat) : Int32 := if k < n then I 2 k &&& nI 255 else -1
theorem xt_Tx {I : Iv} {n : Nat} : Tx (xt I n) n := fun k hk => if_neg (by omega)
theorem xt_in {I : Iv} {n k : Nat} (h : k < n) : xt I n k = I 2 k &&& nI 255 := if_pos h
theorem xt_eq {I : Iv} {n k c : Nat} (hB : By I) (hn : n ≤ 600) (h : k < n) (hc : c < 128) : I 2 k = nI c ↔ xt I n k = nI c := by
  rw [xt_in h]
  exact by_eq (hB k (by omega)) hc
theorem xt_r {I : Iv} {n k lo hi : Nat} (hB : By I) (hn : n ≤ 600) (h : k < n) (hl : lo < 128) (hc : hi < 128) : (nI lo ≤ I 2 k ∧ I 2 k ≤ nI hi) ↔ (nI lo ≤ xt I n k ∧ xt I n k ≤ nI hi) := by
  rw [xt_in h]
  exact by_r (hB k (by omega)) hl hc
/-! words as numbers to the base 27 -/
def wvN (δ : Nat → Nat) : Nat → Nat
  | 0 => 0
  | m + 1 => 27 * wvN δ m + δ m
theorem wvN_inj {δ ε : Nat → Nat} : ∀ (m k : Nat), (∀ i, i < m → 1 ≤ δ i ∧ δ i ≤ 26) → (∀ i, i < k → 1 ≤ ε i ∧ ε i ≤ 26) → wvN δ m = wvN ε k → m = k ∧ ∀ i, i < m → δ i = ε i
  | 0, 0, _, _, _ => ⟨rfl, fun i hi => by omega⟩
  | 0, k + 1, _, h2, h => by
    have := h2 k (by omega)
    simp only [wvN] at h
    omega
  | m + 1, 0, h1, _, h => by
    have := h1 m (by omega)
    simp only [wvN] at h
    omega
  | m + 1, k + 1, h1, h2, h => by
    have a1 := h1 m (by omega)
    have a2 := h2 k (by omega)
    simp only [wvN] at h
    obtain ⟨e1, e2⟩ := wvN_inj m k (fun i hi => h1 i (by omega)) (fun i hi => h2 i (by omega)) (by omega)
    subst e1
    refine ⟨rfl, fun i hi => ?_⟩
    by_cases q : i = m
    · subst q; omega
    · exact e2 i (by omega)
theorem wvN_c {δ ε : Nat → Nat} : ∀ m, (∀ i, i < m → δ i = ε i) → wvN δ m = wvN ε m
  | 0, _ => rfl
  | m + 1, h => by
    simp only [wvN]
    rw [wvN_c m (fun i hi => h i (by omega)), h m (by omega)]
theorem wvN_lt {δ : Nat → Nat} : ∀ m, (∀ i, i < m → δ i ≤ 26) → wvN δ m < 27 ^ m
  | 0, _ => Nat.zero_lt_one
  | m + 1, h => by
    have h1 := wvN_lt m (fun i hi => h i (by omega))
    have h2 := h m (by omega)
    simp only [wvN]
    rw [Nat.pow_succ]
    omega
theorem p27 {m : Nat} (h : m ≤ 7) : 27 ^ m ≤ 10460353203 := Nat.le_trans (Nat.pow_le_pow_right (by decide) h) (by decide)
theorem lN_eqB {a b : Nat} (ha : a < 2 ^ 63) (hb : b < 2 ^ 63) : lN a = lN b ↔ a = b := by
  refine ⟨fun h => ?_, fun h => by rw [h]⟩
  have h1 : (Int64.ofNat a).toInt = (Int64.ofNat b).toInt := congrArg Int64.toInt h
  rw [lg_ofNat_toInt ha, lg_ofNat_toInt hb] at h1
  omega
/-- the letters' numbers -/
def dgT (T : Nat → Int32) (b i : Nat) : Nat := (T (b + i)).toNatClampNeg - 96
theorem wv_N {T : Nat → Int32} {b : Nat} : ∀ m, m ≤ 8 → (∀ i, i < m → nI 97 ≤ T (b + i) ∧ T (b + i) ≤ nI 122) → wv T b m = lN (wvN (dgT T b) m)
  | 0, _, _ => rfl
  | m + 1, hm, h => by
    have ih := wv_N m (by omega) (fun i hi => h i (by omega))
    obtain ⟨c, hc1, hc⟩ := rng (x := T (b + m)) (n := 122) (by decide) ⟨Int32.le_trans (by decide) (h m (by omega)).1, (h m (by omega)).2⟩
    have hc2 : 97 ≤ c := by
      have := (h m (by omega)).1
      rw [hc] at this
      exact (nI_leI (by omega) (by omega)).mp this
    rw [wv, if_pos (by omega), ih, hc, nI_l (by omega)]
    have e1 : (27 : Int64) = lN 27 := rfl
    have e2 : (97 : Int64) = lN 97 := rfl
    rw [e1, e2, lN_mul, lN_add, lN_sub (by omega), lN_add]
    congr 1
    simp only [wvN, dgT]
    rw [hc, nI_clamp (by omega)]
    omega
theorem rn_all {T : Nat → Int32} {lo hi : Int32} {n : Nat} : ∀ (f k : Nat), f = n - k → ∀ i, k + i < rnf T lo hi f k → lo ≤ T (k + i) ∧ T (k + i) ≤ hi
  | 0, k, hf, i, h => by
    simp only [rnf] at h
    omega
  | f + 1, k, hf, i, h => by
    unfold rnf at h
    by_cases c : lo ≤ T k ∧ T k ≤ hi
    · rw [if_pos c] at h
      cases i with
      | zero => exact c
      | succ i =>
        have := rn_all (n := n) f (k + 1) (by omega) i (by rw [show k + 1 + i = k + (i + 1) by omega]; exact h)
        rw [show k + (i + 1) = k + 1 + i by omega]
        exact this
    · rw [if_neg c] at h
      omega
/-- the word v stands at b -/
def wMt (T : Nat → Int32) (n b v : Nat) : Prop := wEnd T n b = b + (wtx v).length ∧ ∀ i, i < (wtx v).length → T (b + i) = (wtx v).getD i 0
def wcd (v : Nat) : Int64 := [w_mint, w_rue, w_sage, w_water, w_day, w_put, w_spring, w_village, w_channel, w_tap, w_leak, w_lag, w_frog, w_filter, w_feast, w_if, w_or, w_and, w_not].getD v 0
def dgV (v i : Nat) : Nat := ((wtx v).getD i 0).toNatClampNeg - 96
theorem wcd_N : ∀ v, v < 19 → wcd v = lN (wvN (dgV v) (wtx v).length) ∧ 1 ≤ (wtx v).length ∧ (wtx v).length ≤ 7 ∧ ∀ i, i < (wtx v).length → 1 ≤ dgV v i ∧ dgV v i ≤ 26 ∧ (wtx v).getD i 0 = nI (96 + dgV v i) := by decide +kernel
theorem wMt_c {T : Nat → Int32} {n b v : Nat} (hb : b ≤ n) (hv : v < 19) : wMt T n b v ↔ wcode T n b = wcd v := by
  obtain ⟨e1, e2, e3, e4⟩ := wcd_N v hv
  have hr := rn_b (t := T) (lo := nI 97) (hi := nI 122) hb
  obtain ⟨m, hm⟩ : ∃ m, m = rn T (nI 97) (nI 122) n b - b := ⟨_, rfl⟩
  have hwe : wEnd T n b = b + m := by show rn T (nI 97) (nI 122) n b = _; omega
  have hl : ∀ i, i < m → nI 97 ≤ T (b + i) ∧ T (b + i) ≤ nI 122 := fun i hi => rn_all (n - b) b rfl i (by show b + i < rn T (nI 97) (nI 122) n b; omega)
  have hd : ∀ i, i < m → 1 ≤ dgT T b i ∧ dgT T b i ≤ 26 ∧ T (b + i) = nI (96 + dgT T b i) := fun i hi => by
    obtain ⟨c, hc1, hc⟩ := rng (x := T (b + i)) (n := 122) (by decide) ⟨Int32.le_trans (by decide) (hl i hi).1, (hl i hi).2⟩
    have hc2 : 97 ≤ c := by
      have := (hl i hi).1
      rw [hc] at this
      exact (nI_leI (by omega) (by omega)).mp this
    unfold dgT
    rw [hc, nI_clamp (by omega)]
    exact ⟨by omega, by omega, by rw [show 96 + (c - 96) = c by omega]⟩
  unfold wMt wcode
  rw [hwe, ← hm, e1]
  by_cases h7 : 7 < m
  · rw [if_pos h7]
    refine ⟨fun h => by omega, fun h => ?_⟩
    have h3 : (-1 : Int64).toInt = (lN (wvN (dgV v) (wtx v).length)).toInt := congrArg Int64.toInt h
    have h4 := wvN_lt (δ := dgV v) (wtx v).length (fun i hi => (e4 i hi).2.1)
    have h5 := p27 e3
    rw [show lN (wvN (dgV v) (wtx v).length) = Int64.ofNat (wvN (dgV v) (wtx v).length) from rfl, lg_ofNat_toInt (by omega)] at h3
    have h6 : (-1 : Int64).toInt = -1 := by decide
    omega
  · rw [if_neg h7, wv_N m (by omega) hl]
    have h4 := wvN_lt (δ := dgV v) (wtx v).length (fun i hi => (e4 i hi).2.1)
    have h4' := wvN_lt (δ := dgT T b) m (fun i hi => (hd i hi).2.1)
    have h5 := p27 e3
    have h5' := p27 (m := m) (by omega)
    rw [lN_eqB (by omega) (by omega)]
    refine ⟨fun h => ?_, fun h => ?_⟩
    · have hml : m = (wtx v).length := by omega
      subst hml
      refine wvN_c _ (fun i hi => ?_)
      have := h.2 i hi
      rw [(hd i hi).2.2, (e4 i hi).2.2] at this
      have hx := hd i hi
      have hy := e4 i hi
      have := (nI_eq (by omega) (by omega)).mp this
      omega
    · obtain ⟨hml, hi2⟩ := wvN_inj m _ (fun i hi => ⟨(hd i hi).1, (hd i hi).2.1⟩) (fun i hi => ⟨(e4 i hi).1, (e4 i hi).2.1⟩) h
      refine ⟨by omega, fun i hi => ?_⟩
      rw [(hd i (by omega)).2.2, (e4 i hi).2.2, hi2 i (by omega)]
/-- w is the word at b: 19 where there is none -/
def Wi (T : Nat → Int32) (n b w : Nat) : Prop := w < 20 ∧ ∀ v, v < 19 → (wcode T n b = wcd v ↔ v = w)
def kdX (w : Nat) : Nat := [9, 9, 9, 9, 9, 9, 3, 0, 1, 2, 5, 6, 7, 8, 4, 9, 9, 9, 9, 9].getD w 9
def asX (w : Nat) : Nat := [1, 2, 3, 0, 4, 5, 6].getD w 7
theorem wcd_k : ∀ v, v < 19 → kdW (wcd v) = kdX v ∧ hbW (wcd v) = (if v < 3 then v else 3) ∧ asW (wcd v) = asX v := by decide +kernel
theorem Wi.at {T : Nat → Int32} {n b w v : Nat} (h : Wi T n b w) (hv : v < 19) : (wcode T n b = wcd v) = (v = w) := propext (h.2 v hv)
theorem Wi.f {T : Nat → Int32} {n b w : Nat} (h : Wi T n b w) : kdW (wcode T n b) = kdX w ∧ hbW (wcode T n b) = (if w < 3 then w else 3) ∧ asW (wcode T n b) = asX w := by
  have h20 := h.1
  by_cases hw : w < 19
  · rw [(h.2 w hw).mpr rfl]
    exact wcd_k w hw
  · have : w = 19 := by omega
    subst this
    have hn : ∀ v, v < 19 → ¬ wcode T n b = wcd v := fun v hv q => by
      have := (h.2 v hv).mp q
      omega
    have q0 := hn 0 (by decide)
    have q1 := hn 1 (by decide)
    have q2 := hn 2 (by decide)
    have q3 := hn 3 (by decide)
    have q4 := hn 4 (by decide)
    have q5 := hn 5 (by decide)
    have q6 := hn 6 (by decide)
    have q7 := hn 7 (by decide)
    have q8 := hn 8 (by decide)
    have q9 := hn 9 (by decide)
    have q10 := hn 10 (by decide)
    have q11 := hn 11 (by decide)
    have q12 := hn 12 (by decide)
    have q13 := hn 13 (by decide)
    have q14 := hn 14 (by decide)
    have e1 : hbW (wcode T n b) = 3 := by
      unfold hbW
      rw [if_neg (show ¬ wcode T n b = w_mint from q0), if_neg (show ¬ wcode T n b = w_rue from q1), if_neg (show ¬ wcode T n b = w_sage from q2)]
    refine ⟨?_, e1, ?_⟩
    · unfold kdW
      rw [if_neg (show ¬ wcode T n b = w_village from q7), if_neg (show ¬ wcode T n b = w_channel from q8), if_neg (show ¬ wcode T n b = w_tap from q9), if_neg (show ¬ wcode T n b = w_spring from q6), if_neg (show ¬ wcode T n b = w_feast from q14), if_neg (show ¬ wcode T n b = w_leak from q10), if_neg (show ¬ wcode T n b = w_lag from q11), if_neg (show ¬ wcode T n b = w_frog from q12), if_neg (show ¬ wcode T n b = w_filter from q13)]
      rfl
    · unfold asW
      rw [e1, if_neg (by decide), if_neg (show ¬ wcode T n b = w_water from q3), if_neg (show ¬ wcode T n b = w_day from q4), if_neg (show ¬ wcode T n b = w_put from q5), if_neg (show ¬ wcode T n b = w_spring from q6)]
      rfl
