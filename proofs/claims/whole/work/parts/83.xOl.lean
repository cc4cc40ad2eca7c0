/-! contracts of the class, 14: opinions, read: what waits -/
/-- what stands between: its code, and where the next begins -/
abbrev Sp : Type := Nat → Option (Nat × Nat)
def lpG (T : Nat → Int32) (n : Nat) (sp : Sp) (f : Nat → Rs) : Nat → Nat → Rs
  | 0, a => .ok (a, [])
  | g + 1, a => match sp a with
    | some (k, a') => bnd (f a') (fun b => bnd (say1 (k, 0) b) (lpG T n sp f g))
    | none => .ok (sk T n a, [])
def spL (T : Nat → Int32) (n : Nat) (c1 c2 : Int32) (k1 k2 : Nat) : Sp := fun a => if T (sk T n a) = c1 then some (k1, sk T n a + 1) else if T (sk T n a) = c2 then some (k2, sk T n a + 1) else none
def spW (T : Nat → Int32) (n : Nat) (w : Int64) (k : Nat) : Sp := fun a => if wcode T n (sk T n a) = w then some (k, wEnd T n (sk T n a)) else none
theorem lpG_L {T : Nat → Int32} {n : Nat} {c1 c2 : Int32} {k1 k2 : Nat} {f : Nat → Rs} : ∀ g, lpG T n (spL T n c1 c2 k1 k2) f g = lpL T n c1 c2 k1 k2 f g
  | 0 => rfl
  | g + 1 => by
    funext a
    unfold lpG lpL
    rw [lpG_L g]
    unfold spL
    by_cases e : T (sk T n a) = c1
    · rw [if_pos e, if_pos e]
    · rw [if_neg e, if_neg e]
      by_cases e2 : T (sk T n a) = c2
      · rw [if_pos e2, if_pos e2]
      · rw [if_neg e2, if_neg e2]
theorem lpG_W {T : Nat → Int32} {n : Nat} {w : Int64} {k : Nat} {f : Nat → Rs} : ∀ g, lpG T n (spW T n w k) f g = lpW T n w k f g
  | 0 => rfl
  | g + 1 => by
    funext a
    unfold lpG lpW
    rw [lpG_W g]
    unfold spW
    by_cases e : wcode T n (sk T n a) = w
    · rw [if_pos e, if_pos e]
    · rw [if_neg e, if_neg e]
/-- what stands between is within the text -/
def SpG (T : Nat → Int32) (n : Nat) (sp : Sp) : Prop := (∀ a k a', a ≤ n → sp a = some (k, a') → a < a' ∧ a' ≤ n) ∧ ∀ a, a ≤ n → sp (sk T n a) = sp a
theorem spL_g {T : Nat → Int32} {n : Nat} {c1 c2 : Int32} {k1 k2 : Nat} (hT : Tx T n) (h1 : ¬ c1 = -1) (h2 : ¬ c2 = -1) : SpG T n (spL T n c1 c2 k1 k2) := by
  refine ⟨fun a k a' ha h => ?_, fun a ha => by unfold spL; rw [sk_sk ha]⟩
  have hs := sk_b (t := T) ha
  unfold spL at h
  by_cases e : T (sk T n a) = c1
  · rw [if_pos e] at h
    cases h
    have := hT.lt h1 e
    omega
  · rw [if_neg e] at h
    by_cases e2 : T (sk T n a) = c2
    · rw [if_pos e2] at h
      cases h
      have := hT.lt h2 e2
      omega
    · rw [if_neg e2] at h; cases h
theorem spW_g {T : Nat → Int32} {n : Nat} {w : Int64} {k : Nat} (hw : ¬ w = lN 0) : SpG T n (spW T n w k) := by
  refine ⟨fun a k a' ha h => ?_, fun a ha => by unfold spW; rw [sk_sk ha]⟩
  have hs := sk_b (t := T) ha
  unfold spW at h
  by_cases e : wcode T n (sk T n a) = w
  · rw [if_pos e] at h
    cases h
    have := wEnd_lt hs.2 e hw
    omega
  · rw [if_neg e] at h; cases h
theorem bnd_c {x : Rs} {f g : Nat → Rs} (h : ∀ a M, x = .ok (a, M) → f a = g a) : bnd x f = bnd x g := by
  cases x with
  | error e => rfl
  | ok q =>
    obtain ⟨a, M⟩ := q
    rw [bnd_o, bnd_o, h a M rfl]
theorem lpG_f {T : Nat → Int32} {n : Nat} {sp : Sp} {f : Nat → Rs} (hS : SpG T n sp) (hf : Gd n f) : ∀ (g g' a : Nat), a ≤ n → n < a + g → n < a + g' → lpG T n sp f g a = lpG T n sp f g' a
  | 0, _, a, h, h1, _ => by omega
  | _ + 1, 0, a, h, _, h2 => by omega
  | g + 1, g' + 1, a, h, h1, h2 => by
    unfold lpG
    cases hs : sp a with
    | none => rfl
    | some q =>
      obtain ⟨k, a'⟩ := q
      have hq := hS.1 a k a' h hs
      dsimp only
      refine bnd_c (fun b M hb => ?_)
      have hg := hf _ _ _ hq.2 hb
      refine bnd_c (fun c M' hc => ?_)
      cases hc
      exact lpG_f hS hf g g' b hg.2.1 (by omega) (by omega)
theorem lpG_d {T : Nat → Int32} {n : Nat} {sp : Sp} {f : Nat → Rs} (hS : SpG T n sp) (hf : Gd n f) : ∀ g, Gd n (lpG T n sp f g)
  | 0 => fun a b M ha h => by
    cases h
    exact ⟨Nat.le_refl _, ha, by show 0 + a ≤ a; omega⟩
  | g + 1 => fun a b M ha h => by
    have hs := sk_b (t := T) ha
    unfold lpG at h
    cases hq : sp a with
    | none =>
      rw [hq] at h
      cases h
      exact ⟨hs.1, hs.2, by show 0 + a ≤ _; omega⟩
    | some q =>
      obtain ⟨k, a'⟩ := q
      rw [hq] at h
      have hq' := hS.1 a k a' ha hq
      obtain ⟨a1, L, K, q1, q2, rfl⟩ := bnd_ok h
      obtain ⟨a2, L', K', q3, q4, rfl⟩ := bnd_ok q2
      cases q3
      have g1 := hf _ _ _ hq'.2 q1
      have g2 := lpG_d hS hf g _ _ _ g1.2.1 q4
      refine ⟨by omega, g2.2.1, ?_⟩
      rw [List.length_append, List.length_append]
      show L.length + (1 + K'.length) + a ≤ b
      omega
/-- what waits, said -/
def emS (w c : Nat) : Rs := if w = 0 then .ok (c, []) else say1 (w, 0) c
def prG (T : Nat → Int32) (n : Nat) (sp : Sp) (val : Nat → Rs) (a : Nat) : Rs := bnd (val a) (lpG T n sp val (n + 1))
/-- after a value, w waiting -/
def rwG (T : Nat → Int32) (n : Nat) (sp sp2 : Sp) (val : Nat → Rs) (w b : Nat) : Rs := bnd (lpG T n sp val (n + 1) b) (fun c => bnd (emS w c) (lpG T n sp2 (prG T n sp val) (n + 1)))
section RwG
variable {T : Nat → Int32} {n : Nat} {sp sp2 : Sp} {val : Nat → Rs}
theorem rwG_0 {a : Nat} : bnd (prG T n sp val a) (lpG T n sp2 (prG T n sp val) (n + 1)) = bnd (val a) (rwG T n sp sp2 val 0) := by
  rw [prG, bnd_a]
  refine bnd_c (fun c M hc => ?_)
  unfold rwG
  refine bnd_c (fun c M hc => ?_)
  rw [show emS 0 c = .ok (c, []) from rfl, bnd_n]
theorem rwG_1 {w b k b' : Nat} (hS : SpG T n sp) (hv : Gd n val) (hb : b ≤ n) (h : sp b = some (k, b')) : rwG T n sp sp2 val w b = bnd (val b') (fun c => bnd (say1 (k, 0) c) (rwG T n sp sp2 val w)) := by
  have hq := hS.1 b k b' hb h
  unfold rwG
  rw [show lpG T n sp val (n + 1) b = bnd (val b') (fun b => bnd (say1 (k, 0) b) (lpG T n sp val n)) by rw [lpG, h]]
  rw [bnd_a]
  refine bnd_c (fun c M hc => ?_)
  have hg := hv _ _ _ hq.2 hc
  rw [bnd_a]
  refine bnd_c (fun c' M' hc' => ?_)
  cases hc'
  rw [lpG_f hS hv n (n + 1) c hg.2.1 (by omega) (by omega)]
theorem rwG_2 {w b k b' : Nat} (hS : SpG T n sp) (hS2 : SpG T n sp2) (hv : Gd n val) (hb : b ≤ n) (h0 : sp b = none) (h : sp2 b = some (k, b')) (hk : ¬ k = 0) : rwG T n sp sp2 val w b = bnd (emS w (sk T n b)) (fun _ => bnd (val b') (rwG T n sp sp2 val k)) := by
  have hq := hS2.1 b k b' hb h
  have hp : Gd n (prG T n sp val) := fun a c M ha hm => by
    obtain ⟨a1, L, K, q1, q2, rfl⟩ := bnd_ok hm
    have g1 := hv _ _ _ ha q1
    have g2 := lpG_d hS hv _ _ _ _ g1.2.1 q2
    refine ⟨by omega, g2.2.1, ?_⟩
    rw [List.length_append]
    omega
  unfold rwG
  rw [show lpG T n sp val (n + 1) b = .ok (sk T n b, []) by rw [lpG, h0], bnd_n]
  refine bnd_c (fun c M hc => ?_)
  have hcs : c = sk T n b := by
    unfold emS at hc
    by_cases q : w = 0
    · rw [if_pos q] at hc; cases hc; rfl
    · rw [if_neg q] at hc; cases hc; rfl
  subst hcs
  rw [show lpG T n sp2 (prG T n sp val) (n + 1) (sk T n b) = bnd (prG T n sp val b') (fun b => bnd (say1 (k, 0) b) (lpG T n sp2 (prG T n sp val) n)) by rw [lpG, hS2.2 b hb, h]]
  unfold prG
  rw [bnd_a]
  refine bnd_c (fun c M hc => ?_)
  have hg := hv _ _ _ hq.2 hc
  refine bnd_c (fun c' M' hc' => ?_)
  have hg' := lpG_d hS hv _ _ _ _ hg.2.1 hc'
  rw [show emS k c' = say1 (k, 0) c' from if_neg hk]
  refine bnd_c (fun c2 M2 hc2 => ?_)
  cases hc2
  exact lpG_f hS2 hp n (n + 1) c' hg'.2.1 (by omega) (by omega)
theorem rwG_3 {w b : Nat} (hS2 : SpG T n sp2) (hb : b ≤ n) (h0 : sp b = none) (h : sp2 b = none) : rwG T n sp sp2 val w b = emS w (sk T n b) := by
  unfold rwG
  rw [show lpG T n sp val (n + 1) b = .ok (sk T n b, []) by rw [lpG, h0], bnd_n]
  have e : lpG T n sp2 (prG T n sp val) (n + 1) (sk T n b) = .ok (sk T n b, []) := by rw [lpG, hS2.2 b hb, h]; dsimp only; rw [sk_sk hb]
  unfold emS
  by_cases q : w = 0
  · rw [if_pos q, bnd_n, e]
  · rw [if_neg q]
    unfold say1
    rw [bnd_o, e]
    rfl
end RwG
