/-! towns, read -/
/-- villages, channels; the tap's village, its parts, the feast; of a village water, spring, leak, lag, frog, filters; of a channel from, to, parts -/
abbrev Tn : Type := (Nat × Nat) × (Option Nat × Nat × Nat) × (Nat → Nat → Nat) × (Nat → Nat → Nat)
def tn0 : Tn := ((0, 0), (none, 0, 20), fun _ _ => 0, fun _ _ => 0)
def ru2 (f : Nat → Nat → Nat) (v i x : Nat) : Nat → Nat → Nat := fun a b => if a = v ∧ b = i then x else f a b
/-- parts of v that channels and the tap take -/
def pfC (S : Tn) (v : Nat) : Nat → Nat
  | 0 => if S.2.1.1 = some v then S.2.1.2.1 else 0
  | c + 1 => pfC S v c + (if S.2.2.2 c 0 = v then S.2.2.2 c 2 else 0)
def pfS (S : Tn) (v : Nat) : Nat := pfC S v S.1.2
def kdW (w : Int64) : Nat := if w = w_village then 0 else if w = w_channel then 1 else if w = w_tap then 2 else if w = w_spring then 3 else if w = w_feast then 4 else if w = w_leak then 5 else if w = w_lag then 6 else if w = w_frog then 7 else if w = w_filter then 8 else 9
/-- a number at a, and where it ends -/
def nuS (T : Nat → Int32) (n : Nat) (lo hi : Int32) (a : Nat) : Rx (Nat × Nat) := if nmF T n a lo hi = 0 then .ok (nmE T n a, (nmV T n a).toNatClampNeg) else .error (nmF T n a lo hi, sk T n a)
/-- so many parts, where some are gone -/
def paS (T : Nat → Int32) (n : Nat) (lo : Int32) (gone a : Nat) : Rx (Nat × Nat) := match nuS T n lo (nI 8) a with
  | .error e => .error e
  | .ok (b, p) => if 8 < gone + p then .error (2, sk T n a) else .ok (b, p)
def addC (S : Tn) (v b p : Nat) : Tn := ((S.1.1, S.1.2 + 1), S.2.1, S.2.2.1, ru2 (ru2 (ru2 S.2.2.2 S.1.2 0 v) S.1.2 1 b) S.1.2 2 p)
def setV (S : Tn) (v i x : Nat) : Tn := (S.1, S.2.1, ru2 S.2.2.1 v i x, S.2.2.2)
/-- what stands behind a clause's word and its village -/
def ovS (T : Nat → Int32) (n k v : Nat) (S : Tn) (a : Nat) : Rx (Nat × Tn) :=
  if k = 1 then (match nuS T n (nI 0) (nI S.1.1 - nI 1) a with
    | .error e => .error e
    | .ok (b, u) => match paS T n (nI 1) (pfS S v + S.2.2.1 v 2) b with
      | .error e => .error e
      | .ok (c, p) => .ok (c, addC S v u p))
  else if k = 2 then (match paS T n (nI 1) (pfS S v + S.2.2.1 v 2) a with
    | .error e => .error e
    | .ok (c, p) => .ok (c, S.1, (some v, p, S.2.1.2.2), S.2.2))
  else if k = 3 then (match nuS T n (nI 0) (nI 99) a with
    | .error e => .error e
    | .ok (c, p) => .ok (c, setV S v 1 p))
  else if k = 5 then (match paS T n (nI 0) (pfS S v) a with
    | .error e => .error e
    | .ok (c, p) => .ok (c, setV S v 2 p))
  else if k = 6 then (match nuS T n (nI 0) (nI 5) a with
    | .error e => .error e
    | .ok (c, p) => .ok (c, setV S v 3 p))
  else if k = 7 then .ok (a, setV S v 4 1)
  else if hbW (wcode T n (sk T n a)) < 3 then (match nuS T n (nI 0) (nI 99) (wEnd T n (sk T n a)) with
    | .error e => .error e
    | .ok (c, p) => .ok (c, setV S v (5 + hbW (wcode T n (sk T n a))) p))
  else .error (1, sk T n a)
/-- a village more -/
def addV (S : Tn) (p : Nat) : Tn := ((S.1.1 + 1, S.1.2), S.2.1, (fun v i => if v = S.1.1 then (if i = 0 then p else 0) else S.2.2.1 v i), S.2.2.2)
def reS (T : Nat → Int32) (n k : Nat) (S : Tn) (a : Nat) : Rx (Nat × Tn) :=
  if k = 0 then (match nuS T n (nI 0) (nI 99) a with
    | .error e => .error e
    | .ok (c, p) => .ok (c, addV S p))
  else if k = 4 then (match nuS T n (nI 0) (nI 60) a with
    | .error e => .error e
    | .ok (c, p) => .ok (c, S.1, (S.2.1.1, S.2.1.2.1, p), S.2.2))
  else match nuS T n (nI 0) (nI S.1.1 - nI 1) a with
    | .error e => .error e
    | .ok (b, v) => ovS T n k v S b
def clS (T : Nat → Int32) (n cl : Nat) (S : Tn) (a : Nat) : Rx (Nat × Tn) :=
  if kdW (wcode T n (sk T n a)) = 9 then .error (1, sk T n a)
  else if cl = 60 ∨ (kdW (wcode T n (sk T n a)) = 0 ∧ S.1.1 = 9) ∨ (kdW (wcode T n (sk T n a)) = 1 ∧ S.1.2 = 20) then .error (3, sk T n a)
  else if kdW (wcode T n (sk T n a)) = 2 ∧ ¬ S.2.1.1 = none then .error (4, sk T n a)
  else match reS T n (kdW (wcode T n (sk T n a))) S (wEnd T n (sk T n a)) with
    | .error e => .error e
    | .ok (b, S') => match sgS T n (nI 59) b with
      | .error e => .error e
      | .ok (c, _) => .ok (c, S')
def twL (T : Nat → Int32) (n : Nat) : Nat → Nat → Tn → Nat → Rx Tn
  | 0, _, S, _ => .ok S
  | g + 1, cl, S, a => if n ≤ sk T n a then .ok S else match clS T n cl S a with
    | .error e => .error e
    | .ok (b, S') => twL T n g (cl + 1) S' b
def twS (T : Nat → Int32) (n : Nat) : Rx Tn := twL T n 61 0 tn0 0
/-- what a town that is read keeps -/
def TnV (S : Tn) : Prop := S.1.1 ≤ 9 ∧ S.1.2 ≤ 20 ∧ (∀ v, S.2.1.1 = some v → v < S.1.1) ∧ S.2.1.2.1 ≤ 8 ∧ S.2.1.2.2 ≤ 60 ∧ (∀ c, c < S.1.2 → S.2.2.2 c 0 < S.1.1 ∧ S.2.2.2 c 1 < S.1.1 ∧ S.2.2.2 c 2 ≤ 8) ∧ (∀ v, v < S.1.1 → pfS S v + S.2.2.1 v 2 ≤ 8) ∧ (∀ v, v < S.1.1 → S.2.2.1 v 0 ≤ 99 ∧ S.2.2.1 v 1 ≤ 99 ∧ S.2.2.1 v 3 ≤ 5 ∧ S.2.2.1 v 4 ≤ 1 ∧ S.2.2.1 v 5 ≤ 99 ∧ S.2.2.1 v 6 ≤ 99 ∧ S.2.2.1 v 7 ≤ 99)
theorem nuS_ok {T : Nat → Int32} {n a b p h : Nat} {lo : Int32} (hT : Tx T n) (ha : a ≤ n) (hh : h < 2 ^ 31) (hlo : lo = nI 0 ∨ lo = nI 1) (hr : nuS T n lo (nI h) a = .ok (b, p)) : a < b ∧ b ≤ n ∧ p ≤ h ∧ nmV T n a = nI p ∧ nmE T n a = b ∧ nmF T n a lo (nI h) = 0 ∧ (lo = nI 1 → 1 ≤ p) := by
  unfold nuS at hr
  by_cases q : nmF T n a lo (nI h) = 0
  · rw [if_pos q] at hr
    have hv := (nmF_0 q).2
    have hlt := nm_lt hT ha q
    rcases hlo with rfl | rfl
    · obtain ⟨m, hm, he⟩ := rng hh hv
      rw [he, nI_clamp (by omega)] at hr
      cases hr
      exact ⟨hlt.1, hlt.2, hm, he, rfl, q, fun c => absurd c n01⟩
    · obtain ⟨m, hm1, hm, he⟩ := rng1 hh hv
      rw [he, nI_clamp (by omega)] at hr
      cases hr
      exact ⟨hlt.1, hlt.2, hm, he, rfl, q, fun _ => hm1⟩
  · rw [if_neg q] at hr; cases hr
theorem nuS_v {T : Nat → Int32} {n a b p : Nat} {nV : Nat} (hT : Tx T n) (ha : a ≤ n) (h9 : nV ≤ 9) (hr : nuS T n (nI 0) (nI nV - nI 1) a = .ok (b, p)) : a < b ∧ b ≤ n ∧ p < nV ∧ nmV T n a = nI p ∧ nmE T n a = b ∧ nmF T n a (nI 0) (nI nV - nI 1) = 0 := by
  by_cases e : nV = 0
  · subst e
    unfold nuS at hr
    by_cases q : nmF T n a (nI 0) (nI 0 - nI 1) = 0
    · have hv := (nmF_0 q).2
      exact absurd (Int32.le_trans hv.1 hv.2) (by decide)
    · rw [if_neg q] at hr; cases hr
  · rw [pk_sub (by omega)] at hr ⊢
    have := nuS_ok hT ha (by omega) (Or.inl rfl) hr
    exact ⟨this.1, this.2.1, by omega, this.2.2.2.1, this.2.2.2.2.1, this.2.2.2.2.2.1⟩
theorem paS_ok {T : Nat → Int32} {n a b p gone : Nat} {lo : Int32} (hT : Tx T n) (ha : a ≤ n) (hlo : lo = nI 0 ∨ lo = nI 1) (hr : paS T n lo gone a = .ok (b, p)) : a < b ∧ b ≤ n ∧ gone + p ≤ 8 := by
  unfold paS at hr
  cases h1 : nuS T n lo (nI 8) a with
  | error e => rw [h1] at hr; cases hr
  | ok r =>
    obtain ⟨b', p'⟩ := r
    rw [h1] at hr
    have := nuS_ok hT ha (by omega) hlo h1
    simp only at hr
    by_cases q : 8 < gone + p'
    · rw [if_pos q] at hr; cases hr
    · rw [if_neg q] at hr
      cases hr
      exact ⟨this.1, this.2.1, by omega⟩
theorem pfC_c {S S' : Tn} {v : Nat} (h1 : S'.2.1.1 = S.2.1.1) (h2 : S'.2.1.2.1 = S.2.1.2.1) : ∀ c, (∀ c', c' < c → S'.2.2.2 c' 0 = S.2.2.2 c' 0 ∧ S'.2.2.2 c' 2 = S.2.2.2 c' 2) → pfC S' v c = pfC S v c
  | 0, _ => by
    unfold pfC
    rw [h1, h2]
  | c + 1, h => by
    unfold pfC
    rw [pfC_c h1 h2 c (fun c' hc => h c' (by omega)), (h c (by omega)).1, (h c (by omega)).2]
theorem ru2_n {f : Nat → Nat → Nat} {v i x a b : Nat} (h : ¬ (a = v ∧ b = i)) : ru2 f v i x a b = f a b := if_neg h
theorem ru2_s {f : Nat → Nat → Nat} {v i x : Nat} : ru2 f v i x v i = x := if_pos ⟨rfl, rfl⟩
theorem setV_v {S : Tn} {v i x : Nat} (h : TnV S) (hv : v < S.1.1) (hx : (i = 1 ∧ x ≤ 99) ∨ (i = 2 ∧ pfS S v + x ≤ 8) ∨ (i = 3 ∧ x ≤ 5) ∨ (i = 4 ∧ x ≤ 1) ∨ (5 ≤ i ∧ i < 8 ∧ x ≤ 99)) : TnV (setV S v i x) := by
  obtain ⟨h1, h2, h3, h4, h5, h6, h7, h8⟩ := h
  have hpf : ∀ w, pfS (setV S v i x) w = pfS S w := fun w => pfC_c (S := S) (S' := setV S v i x) (v := w) rfl rfl S.1.2 (fun _ _ => ⟨rfl, rfl⟩)
  refine ⟨h1, h2, h3, h4, h5, h6, fun w hw => ?_, fun w hw => ?_⟩
  · rw [hpf]
    show pfS S w + ru2 S.2.2.1 v i x w 2 ≤ 8
    by_cases e : w = v ∧ 2 = i
    · obtain ⟨rfl, rfl⟩ := e
      rw [ru2_s]
      omega
    · rw [ru2_n e]
      exact h7 w hw
  · have hh := h8 w hw
    have : ∀ k, ru2 S.2.2.1 v i x w k = if w = v ∧ k = i then x else S.2.2.1 w k := fun k => rfl
    show ru2 S.2.2.1 v i x w 0 ≤ 99 ∧ ru2 S.2.2.1 v i x w 1 ≤ 99 ∧ ru2 S.2.2.1 v i x w 3 ≤ 5 ∧ ru2 S.2.2.1 v i x w 4 ≤ 1 ∧ ru2 S.2.2.1 v i x w 5 ≤ 99 ∧ ru2 S.2.2.1 v i x w 6 ≤ 99 ∧ ru2 S.2.2.1 v i x w 7 ≤ 99
    simp only [this]
    refine ⟨?_, ?_, ?_, ?_, ?_, ?_, ?_⟩ <;> split <;> omega
theorem addC_v {S : Tn} {v b p : Nat} (h : TnV S) (hc : S.1.2 ≠ 20) (hv : v < S.1.1) (hb : b < S.1.1) (hp : pfS S v + S.2.2.1 v 2 + p ≤ 8) : TnV (addC S v b p) := by
  obtain ⟨h1, h2, h3, h4, h5, h6, h7, h8⟩ := h
  refine ⟨h1, by show S.1.2 + 1 ≤ 20; omega, h3, h4, h5, fun c hc' => ?_, fun w hw => ?_, h8⟩
  · show ru2 (ru2 (ru2 S.2.2.2 S.1.2 0 v) S.1.2 1 b) S.1.2 2 p c 0 < S.1.1 ∧ ru2 (ru2 (ru2 S.2.2.2 S.1.2 0 v) S.1.2 1 b) S.1.2 2 p c 1 < S.1.1 ∧ ru2 (ru2 (ru2 S.2.2.2 S.1.2 0 v) S.1.2 1 b) S.1.2 2 p c 2 ≤ 8
    by_cases e : c = S.1.2
    · subst e
      rw [ru2_n (by omega), ru2_n (by omega), ru2_s, ru2_n (by omega), ru2_s, ru2_s]
      exact ⟨hv, hb, by omega⟩
    · rw [ru2_n (by omega), ru2_n (by omega), ru2_n (by omega), ru2_n (by omega), ru2_n (by omega), ru2_n (by omega), ru2_n (by omega), ru2_n (by omega), ru2_n (by omega)]
      have : c < S.1.2 := by
        have : c < S.1.2 + 1 := hc'
        omega
      exact h6 c this
  · have e : pfS (addC S v b p) w = pfS S w + (if v = w then p else 0) := by
      show pfC (addC S v b p) w (S.1.2 + 1) = _
      unfold pfC
      rw [pfC_c (S := S) (S' := addC S v b p) (v := w) rfl rfl S.1.2 (fun c' hc' => ?_)]
      · show pfC S w S.1.2 + (if ru2 (ru2 (ru2 S.2.2.2 S.1.2 0 v) S.1.2 1 b) S.1.2 2 p S.1.2 0 = w then ru2 (ru2 (ru2 S.2.2.2 S.1.2 0 v) S.1.2 1 b) S.1.2 2 p S.1.2 2 else 0) = _
        rw [ru2_n (by omega), ru2_n (by omega), ru2_s, ru2_s]
        rfl
      · show ru2 (ru2 (ru2 S.2.2.2 S.1.2 0 v) S.1.2 1 b) S.1.2 2 p c' 0 = _ ∧ ru2 (ru2 (ru2 S.2.2.2 S.1.2 0 v) S.1.2 1 b) S.1.2 2 p c' 2 = _
        rw [ru2_n (by omega), ru2_n (by omega), ru2_n (by omega), ru2_n (by omega), ru2_n (by omega), ru2_n (by omega)]
        exact ⟨rfl, rfl⟩
    rw [e]
    have := h7 w hw
    show pfS S w + _ + S.2.2.1 w 2 ≤ 8
    by_cases c : v = w
    · rw [if_pos c]; rw [c] at hp; omega
    · rw [if_neg c]; omega
theorem addV_v {S : Tn} {p : Nat} (h : TnV S) (hc : S.1.1 ≠ 9) (hp : p ≤ 99) : TnV (addV S p) := by
  obtain ⟨h1, h2, h3, h4, h5, h6, h7, h8⟩ := h
  have hpf : ∀ w, pfS (addV S p) w = pfS S w := fun w => pfC_c (S := S) (S' := addV S p) (v := w) rfl rfl S.1.2 (fun _ _ => ⟨rfl, rfl⟩)
  have nw : ∀ c, c ≤ S.1.2 → pfC S S.1.1 c = 0 := by
    intro c
    induction c with
    | zero =>
      intro _
      unfold pfC
      rw [if_neg]
      intro q
      have := h3 _ q
      omega
    | succ c ih =>
      intro hc
      unfold pfC
      rw [ih (by omega), if_neg]
      have := (h6 c (by omega)).1
      omega
  refine ⟨by show S.1.1 + 1 ≤ 9; omega, h2, fun v hv => Nat.lt_succ_of_lt (h3 v hv), h4, h5, fun c hc' => ?_, fun w hw => ?_, fun w hw => ?_⟩
  · have := h6 c hc'
    exact ⟨Nat.lt_succ_of_lt this.1, Nat.lt_succ_of_lt this.2.1, this.2.2⟩
  · have hw : w < S.1.1 + 1 := hw
    rw [hpf]
    show pfS S w + (if w = S.1.1 then (if 2 = 0 then p else 0) else S.2.2.1 w 2) ≤ 8
    by_cases e : w = S.1.1
    · rw [if_pos e, if_neg (by decide), e]
      have := nw S.1.2 (Nat.le_refl _)
      unfold pfS
      omega
    · rw [if_neg e]
      exact h7 w (by omega)
  · have hw : w < S.1.1 + 1 := hw
    show (if w = S.1.1 then (if 0 = 0 then p else 0) else S.2.2.1 w 0) ≤ 99 ∧ (if w = S.1.1 then (if 1 = 0 then p else 0) else S.2.2.1 w 1) ≤ 99 ∧ (if w = S.1.1 then (if 3 = 0 then p else 0) else S.2.2.1 w 3) ≤ 5 ∧ (if w = S.1.1 then (if 4 = 0 then p else 0) else S.2.2.1 w 4) ≤ 1 ∧ (if w = S.1.1 then (if 5 = 0 then p else 0) else S.2.2.1 w 5) ≤ 99 ∧ (if w = S.1.1 then (if 6 = 0 then p else 0) else S.2.2.1 w 6) ≤ 99 ∧ (if w = S.1.1 then (if 7 = 0 then p else 0) else S.2.2.1 w 7) ≤ 99
    by_cases e : w = S.1.1
    · simp only [if_pos e]
      simp
      exact hp
    · simp only [if_neg e]
      exact h8 w (by omega)
theorem ovS_v {T : Nat → Int32} {n k v a b : Nat} {S S' : Tn} (hT : Tx T n) (ha : a ≤ n) (h : TnV S) (hk2 : k = 2 → S.2.1.1 = none) (hk1 : k = 1 → S.1.2 ≠ 20) (hv : v < S.1.1) (hr : ovS T n k v S a = .ok (b, S')) : a ≤ b ∧ b ≤ n ∧ TnV S' := by
  have hs := sk_b (t := T) ha
  unfold ovS at hr
  by_cases k1 : k = 1
  · rw [if_pos k1] at hr
    cases q1 : nuS T n (nI 0) (nI S.1.1 - nI 1) a with
    | error e => rw [q1] at hr; cases hr
    | ok r =>
      obtain ⟨b1, u⟩ := r
      rw [q1] at hr
      simp only at hr
      have g1 := nuS_v hT ha h.1 q1
      cases q2 : paS T n (nI 1) (pfS S v + S.2.2.1 v 2) b1 with
      | error e => rw [q2] at hr; cases hr
      | ok r =>
        obtain ⟨c, p⟩ := r
        rw [q2] at hr
        have g2 := paS_ok hT g1.2.1 (Or.inr rfl) q2
        cases hr
        exact ⟨by omega, g2.2.1, addC_v h (hk1 k1) hv g1.2.2.1 g2.2.2⟩
  · rw [if_neg k1] at hr
    by_cases k2 : k = 2
    · rw [if_pos k2] at hr
      cases q2 : paS T n (nI 1) (pfS S v + S.2.2.1 v 2) a with
      | error e => rw [q2] at hr; cases hr
      | ok r =>
        obtain ⟨c, p⟩ := r
        rw [q2] at hr
        have g2 := paS_ok hT ha (Or.inr rfl) q2
        cases hr
        obtain ⟨h1, h2, h3, h4, h5, h6, h7, h8⟩ := h
        refine ⟨by omega, g2.2.1, h1, h2, fun w hw => ?_, by show p ≤ 8; omega, h5, h6, fun w hw => ?_, h8⟩
        · have hw : some v = some w := hw
          cases hw
          exact hv
        · have hpf : ∀ c, pfC (S.1, (some v, p, S.2.1.2.2), S.2.2) w c = pfC S w c + (if v = w then p else 0) := by
            intro c
            induction c with
            | zero =>
              unfold pfC
              show (if some v = some w then p else 0) = (if S.2.1.1 = some w then _ else 0) + _
              rw [hk2 k2]
              simp
            | succ c ih =>
              unfold pfC
              rw [ih]
              show pfC S w c + _ + (if S.2.2.2 c 0 = w then S.2.2.2 c 2 else 0) = _
              omega
          show pfC (S.1, (some v, p, S.2.1.2.2), S.2.2) w S.1.2 + S.2.2.1 w 2 ≤ 8
          rw [hpf]
          have := h7 w hw
          unfold pfS at this g2
          by_cases c : v = w
          · rw [if_pos c]; rw [c] at g2; omega
          · rw [if_neg c]; omega
    · rw [if_neg k2] at hr
      by_cases k3 : k = 3
      · rw [if_pos k3] at hr
        cases q1 : nuS T n (nI 0) (nI 99) a with
        | error e => rw [q1] at hr; cases hr
        | ok r =>
          obtain ⟨c, p⟩ := r
          rw [q1] at hr
          have g1 := nuS_ok hT ha (by omega) (Or.inl rfl) q1
          cases hr
          exact ⟨by omega, g1.2.1, setV_v h hv (Or.inl ⟨rfl, g1.2.2.1⟩)⟩
      · rw [if_neg k3] at hr
        by_cases k5 : k = 5
        · rw [if_pos k5] at hr
          cases q1 : paS T n (nI 0) (pfS S v) a with
          | error e => rw [q1] at hr; cases hr
          | ok r =>
            obtain ⟨c, p⟩ := r
            rw [q1] at hr
            have g1 := paS_ok hT ha (Or.inl rfl) q1
            cases hr
            exact ⟨by omega, g1.2.1, setV_v h hv (Or.inr (Or.inl ⟨rfl, g1.2.2⟩))⟩
        · rw [if_neg k5] at hr
          by_cases k6 : k = 6
          · rw [if_pos k6] at hr
            cases q1 : nuS T n (nI 0) (nI 5) a with
            | error e => rw [q1] at hr; cases hr
            | ok r =>
              obtain ⟨c, p⟩ := r
              rw [q1] at hr
              have g1 := nuS_ok hT ha (by omega) (Or.inl rfl) q1
              cases hr
              exact ⟨by omega, g1.2.1, setV_v h hv (Or.inr (Or.inr (Or.inl ⟨rfl, g1.2.2.1⟩)))⟩
          · rw [if_neg k6] at hr
            by_cases k7 : k = 7
            · rw [if_pos k7] at hr
              cases hr
              exact ⟨Nat.le_refl _, ha, setV_v h hv (Or.inr (Or.inr (Or.inr (Or.inl ⟨rfl, Nat.le_refl _⟩))))⟩
            · rw [if_neg k7] at hr
              by_cases k8 : hbW (wcode T n (sk T n a)) < 3
              · rw [if_pos k8] at hr
                have hw := rn_b (t := T) (lo := nI 97) (hi := nI 122) hs.2
                cases q1 : nuS T n (nI 0) (nI 99) (wEnd T n (sk T n a)) with
                | error e => rw [q1] at hr; cases hr
                | ok r =>
                  obtain ⟨c, p⟩ := r
                  rw [q1] at hr
                  have g1 := nuS_ok hT hw.2 (by omega) (Or.inl rfl) q1
                  have hw1 : sk T n a ≤ wEnd T n (sk T n a) := hw.1
                  cases hr
                  exact ⟨by omega, g1.2.1, setV_v h hv (Or.inr (Or.inr (Or.inr (Or.inr ⟨by omega, by omega, g1.2.2.1⟩))))⟩
              · rw [if_neg k8] at hr; cases hr
theorem reS_v {T : Nat → Int32} {n k a b : Nat} {S S' : Tn} (hT : Tx T n) (ha : a ≤ n) (h : TnV S) (hk2 : k = 2 → S.2.1.1 = none) (hk1 : k = 1 → S.1.2 ≠ 20) (hk0 : k = 0 → S.1.1 ≠ 9) (hr : reS T n k S a = .ok (b, S')) : a ≤ b ∧ b ≤ n ∧ TnV S' := by
  unfold reS at hr
  by_cases k0 : k = 0
  · rw [if_pos k0] at hr
    cases q1 : nuS T n (nI 0) (nI 99) a with
    | error e => rw [q1] at hr; cases hr
    | ok r =>
      obtain ⟨c, p⟩ := r
      rw [q1] at hr
      have g1 := nuS_ok hT ha (by omega) (Or.inl rfl) q1
      cases hr
      exact ⟨by omega, g1.2.1, addV_v h (hk0 k0) g1.2.2.1⟩
  · rw [if_neg k0] at hr
    by_cases k4 : k = 4
    · rw [if_pos k4] at hr
      cases q1 : nuS T n (nI 0) (nI 60) a with
      | error e => rw [q1] at hr; cases hr
      | ok r =>
        obtain ⟨c, p⟩ := r
        rw [q1] at hr
        have g1 := nuS_ok hT ha (by omega) (Or.inl rfl) q1
        cases hr
        obtain ⟨h1, h2, h3, h4, h5, h6, h7, h8⟩ := h
        exact ⟨by omega, g1.2.1, h1, h2, h3, h4, g1.2.2.1, h6, fun w hw => by rw [show pfS (S.1, (S.2.1.1, S.2.1.2.1, p), S.2.2) w = pfS S w from pfC_c (S := S) (S' := (S.1, (S.2.1.1, S.2.1.2.1, p), S.2.2)) (v := w) rfl rfl S.1.2 (fun _ _ => ⟨rfl, rfl⟩)]; exact h7 w hw, h8⟩
    · rw [if_neg k4] at hr
      cases q1 : nuS T n (nI 0) (nI S.1.1 - nI 1) a with
      | error e => rw [q1] at hr; cases hr
      | ok r =>
        obtain ⟨c, p⟩ := r
        rw [q1] at hr
        have g1 := nuS_v hT ha h.1 q1
        have g2 := ovS_v hT g1.2.1 h hk2 hk1 g1.2.2.1 hr
        exact ⟨by omega, g2.2⟩
theorem clS_v {T : Nat → Int32} {n cl a b : Nat} {S S' : Tn} (hT : Tx T n) (ha : a ≤ n) (h : TnV S) (hr : clS T n cl S a = .ok (b, S')) : a ≤ b ∧ b ≤ n ∧ cl ≠ 60 ∧ TnV S' := by
  have hs := sk_b (t := T) ha
  unfold clS at hr
  by_cases q1 : kdW (wcode T n (sk T n a)) = 9
  · rw [if_pos q1] at hr; cases hr
  · rw [if_neg q1] at hr
    by_cases q2 : cl = 60 ∨ (kdW (wcode T n (sk T n a)) = 0 ∧ S.1.1 = 9) ∨ (kdW (wcode T n (sk T n a)) = 1 ∧ S.1.2 = 20)
    · rw [if_pos q2] at hr; cases hr
    · rw [if_neg q2] at hr
      by_cases q3 : kdW (wcode T n (sk T n a)) = 2 ∧ ¬ S.2.1.1 = none
      · rw [if_pos q3] at hr; cases hr
      · rw [if_neg q3] at hr
        have hw := rn_b (t := T) (lo := nI 97) (hi := nI 122) hs.2
        have hw1 : sk T n a ≤ wEnd T n (sk T n a) := hw.1
        cases q4 : reS T n (kdW (wcode T n (sk T n a))) S (wEnd T n (sk T n a)) with
        | error e => rw [q4] at hr; cases hr
        | ok r =>
          obtain ⟨c, S1⟩ := r
          rw [q4] at hr
          have g1 := reS_v hT hw.2 h (fun c => Decidable.byContradiction (fun d => q3 ⟨c, d⟩)) (fun c d => q2 (Or.inr (Or.inr ⟨c, d⟩))) (fun c d => q2 (Or.inr (Or.inl ⟨c, d⟩))) q4
          simp only at hr
          cases q5 : sgS T n (nI 59) c with
          | error e => rw [q5] at hr; cases hr
          | ok r =>
            obtain ⟨z, M⟩ := r
            rw [q5] at hr
            have g2 := sgS_g hT (by decide) _ _ _ g1.2.1 q5
            cases hr
            exact ⟨by omega, g2.2.1, fun c => q2 (Or.inl c), g1.2.2⟩
theorem twL_v {T : Nat → Int32} {n : Nat} (hT : Tx T n) : ∀ (g cl a : Nat) (S S' : Tn), a ≤ n → TnV S → twL T n g cl S a = .ok S' → TnV S'
  | 0, cl, a, S, S', _, h, hr => by
    cases hr
    exact h
  | g + 1, cl, a, S, S', ha, h, hr => by
    unfold twL at hr
    by_cases q : n ≤ sk T n a
    · rw [if_pos q] at hr; cases hr; exact h
    · rw [if_neg q] at hr
      cases q1 : clS T n cl S a with
      | error e => rw [q1] at hr; cases hr
      | ok r =>
        obtain ⟨b, S1⟩ := r
        rw [q1] at hr
        have g1 := clS_v hT ha h q1
        exact twL_v hT g (cl + 1) b S1 S' g1.2.1 g1.2.2.2 hr
theorem tn0_v : TnV tn0 := by
  unfold TnV
  refine ⟨by decide, by decide, fun v h => ?_, by decide, by decide, fun c hc => absurd hc (Nat.not_lt_zero _), fun v hv => absurd hv (Nat.not_lt_zero _), fun v hv => absurd hv (Nat.not_lt_zero _)⟩
  have h : none = some v := h
  cases h
