/-! contracts of the class, 18: what is read, and what it is worth -/
/-- M is a sum worth u, within D values, by what is known -/
def NV (kn : Nat → Int32) (M : List Cd) (D : Nat) (u : Int32) : Prop := ∀ P : List Cd → Nat → Int32 → Prop, (∀ v D, v ≤ 999 → P [(0, v)] (D + 1) (nI v)) → (∀ k D, k < 7 → P [(1, k)] (D + 1) (kn k)) → (∀ k A B D u w, 2 ≤ k → k ≤ 5 → P A (D + 1) u → P B D w → P (A ++ (B ++ [(k, 0)])) (D + 1) (byF (nI k) u w)) → P M D u
/-- M is a condition -/
def BV (kn : Nat → Int32) (M : List Cd) (D : Nat) (u : Int32) : Prop := ∀ P : List Cd → Nat → Int32 → Prop, (∀ k A B D u w, 6 ≤ k → k ≤ 8 → NV kn A (D + 1) u → NV kn B D w → P (A ++ (B ++ [(k, 0)])) (D + 1) (byF (nI k) u w)) → (∀ A D u, P A D u → P (A ++ [(9, 0)]) D (nI 1 - u)) → (∀ k A B D u w, 10 ≤ k → k ≤ 11 → P A (D + 1) u → P B D w → P (A ++ (B ++ [(k, 0)])) (D + 1) (byF (nI k) u w)) → P M D u
section NB
variable {kn : Nat → Int32} {A B M : List Cd} {D D' k v : Nat} {u w : Int32}
theorem NV.num (h : v ≤ 999) : NV kn [(0, v)] (D + 1) (nI v) := fun _ h1 _ _ => h1 v D h
theorem NV.look (h : k < 7) : NV kn [(1, k)] (D + 1) (kn k) := fun _ _ h2 _ => h2 k D h
theorem NV.bin (h2 : 2 ≤ k) (h5 : k ≤ 5) (ha : NV kn A (D + 1) u) (hb : NV kn B D w) : NV kn (A ++ (B ++ [(k, 0)])) (D + 1) (byF (nI k) u w) := fun P p1 p2 p3 => p3 k A B D u w h2 h5 (ha P p1 p2 p3) (hb P p1 p2 p3)
theorem BV.cmp (h2 : 6 ≤ k) (h5 : k ≤ 8) (ha : NV kn A (D + 1) u) (hb : NV kn B D w) : BV kn (A ++ (B ++ [(k, 0)])) (D + 1) (byF (nI k) u w) := fun _ p1 _ _ => p1 k A B D u w h2 h5 ha hb
theorem BV.neg (ha : BV kn A D u) : BV kn (A ++ [(9, 0)]) D (nI 1 - u) := fun P p1 p2 p3 => p2 A D u (ha P p1 p2 p3)
theorem BV.bin (h2 : 10 ≤ k) (h5 : k ≤ 11) (ha : BV kn A (D + 1) u) (hb : BV kn B D w) : BV kn (A ++ (B ++ [(k, 0)])) (D + 1) (byF (nI k) u w) := fun P p1 p2 p3 => p3 k A B D u w h2 h5 (ha P p1 p2 p3) (hb P p1 p2 p3)
theorem NV.mono (h : NV kn M D u) : ∀ D', D ≤ D' → NV kn M D' u := by
  refine h (fun M D u => ∀ D', D ≤ D' → NV kn M D' u) ?_ ?_ ?_
  · intro v D hv D' hD
    obtain ⟨x, rfl⟩ : ∃ x, D' = x + 1 := ⟨D' - 1, by omega⟩
    exact NV.num hv
  · intro k D hk D' hD
    obtain ⟨x, rfl⟩ : ∃ x, D' = x + 1 := ⟨D' - 1, by omega⟩
    exact NV.look hk
  · intro k A B D u w h2 h5 ha hb D' hD
    obtain ⟨x, rfl⟩ : ∃ x, D' = x + 1 := ⟨D' - 1, by omega⟩
    exact NV.bin h2 h5 (ha _ (by omega)) (hb _ (by omega))
theorem BV.mono (h : BV kn M D u) : ∀ D', D ≤ D' → BV kn M D' u := by
  refine h (fun M D u => ∀ D', D ≤ D' → BV kn M D' u) ?_ ?_ ?_
  · intro k A B D u w h2 h5 ha hb D' hD
    obtain ⟨x, rfl⟩ : ∃ x, D' = x + 1 := ⟨D' - 1, by omega⟩
    exact BV.cmp h2 h5 (ha.mono _ (by omega)) (hb.mono _ (by omega))
  · intro A D u ha D' hD
    exact BV.neg (ha _ hD)
  · intro k A B D u w h2 h5 ha hb D' hD
    obtain ⟨x, rfl⟩ : ∃ x, D' = x + 1 := ⟨D' - 1, by omega⟩
    exact BV.bin h2 h5 (ha _ (by omega)) (hb _ (by omega))
/-- and it has a worth whatever is known -/
def TN (M : List Cd) (D : Nat) : Prop := ∀ kn, ∃ u, NV kn M D u
def TB (M : List Cd) (D : Nat) : Prop := ∀ kn, ∃ u, BV kn M D u
theorem TN.mono (h : TN M D) (hd : D ≤ D') : TN M D' := fun kn => (h kn).imp (fun _ q => q.mono _ hd)
theorem TB.mono (h : TB M D) (hd : D ≤ D') : TB M D' := fun kn => (h kn).imp (fun _ q => q.mono _ hd)
theorem TN.bin (h2 : 2 ≤ k) (h5 : k ≤ 5) (ha : TN A (D + 1)) (hb : TN B D) : TN (A ++ (B ++ [(k, 0)])) (D + 1) := fun kn => by
  obtain ⟨u, hu⟩ := ha kn
  obtain ⟨w, hw⟩ := hb kn
  exact ⟨_, NV.bin h2 h5 hu hw⟩
theorem TB.bin (h2 : 10 ≤ k) (h5 : k ≤ 11) (ha : TB A (D + 1)) (hb : TB B D) : TB (A ++ (B ++ [(k, 0)])) (D + 1) := fun kn => by
  obtain ⟨u, hu⟩ := ha kn
  obtain ⟨w, hw⟩ := hb kn
  exact ⟨_, BV.bin h2 h5 hu hw⟩
end NB
/-- f reads what Q says -/
def RdE (f : Nat → Rs) (Q : List Cd → Nat → Prop) (D : Nat) : Prop := ∀ a b M, f a = .ok (b, M) → Q M D
theorem lpG_e {T : Nat → Int32} {n : Nat} {sp : Sp} {f : Nat → Rs} {Q : List Cd → Nat → Prop} {D : Nat} {P : Nat → Prop} (hP : ∀ a k a', sp a = some (k, a') → P k) (hQ : ∀ k A B, P k → Q A (D + 1) → Q B D → Q (A ++ (B ++ [(k, 0)])) (D + 1)) (hf : RdE f Q D) : ∀ (g b c : Nat) (M : List Cd) (A : List Cd), Q A (D + 1) → lpG T n sp f g b = .ok (c, M) → Q (A ++ M) (D + 1)
  | 0, b, c, M, A, hq, h => by
    cases h
    rw [List.append_nil]
    exact hq
  | g + 1, b, c, M, A, hq, h => by
    unfold lpG at h
    cases hs : sp b with
    | none =>
      rw [hs] at h
      cases h
      rw [List.append_nil]
      exact hq
    | some q =>
      obtain ⟨k, b'⟩ := q
      rw [hs] at h
      obtain ⟨a1, L, K, q1, q2, rfl⟩ := bnd_ok h
      obtain ⟨a2, L', K', q3, q4, rfl⟩ := bnd_ok q2
      cases q3
      have h1 := hf _ _ _ q1
      have := lpG_e hP hQ hf g a1 c K' (A ++ (L ++ [(k, 0)])) (hQ _ _ _ (hP _ _ _ hs) hq h1) q4
      simpa only [List.append_assoc] using this
theorem prG_e {T : Nat → Int32} {n : Nat} {sp : Sp} {f : Nat → Rs} {Q : List Cd → Nat → Prop} {D : Nat} {P : Nat → Prop} (hP : ∀ a k a', sp a = some (k, a') → P k) (hQ : ∀ k A B, P k → Q A (D + 1) → Q B D → Q (A ++ (B ++ [(k, 0)])) (D + 1)) (hm : ∀ A, Q A D → Q A (D + 1)) (hf : RdE f Q D) : RdE (fun a => bnd (f a) (lpG T n sp f (n + 1))) Q (D + 1) := by
  intro a b M h
  obtain ⟨a1, L, K, q1, q2, rfl⟩ := bnd_ok h
  exact lpG_e hP hQ hf _ _ _ _ L (hm _ (hf _ _ _ q1)) q2
section Tre
variable {T : Nat → Int32} {n : Nat}
theorem spL_k {c1 c2 : Int32} {k1 k2 : Nat} : ∀ a k a', spL T n c1 c2 k1 k2 a = some (k, a') → k = k1 ∨ k = k2 := by
  intro a k a' h
  unfold spL at h
  by_cases e : T (sk T n a) = c1
  · rw [if_pos e] at h; cases h; exact Or.inl rfl
  · rw [if_neg e] at h
    by_cases e2 : T (sk T n a) = c2
    · rw [if_pos e2] at h; cases h; exact Or.inr rfl
    · rw [if_neg e2] at h; cases h
theorem spW_k {w : Int64} {k0 : Nat} : ∀ a k a', spW T n w k0 a = some (k, a') → k = k0 := by
  intro a k a' h
  unfold spW at h
  by_cases e : wcode T n (sk T n a) = w
  · rw [if_pos e] at h; cases h; rfl
  · rw [if_neg e] at h; cases h
theorem sgS_0 {c : Int32} {a b : Nat} {M : List Cd} (h : sgS T n c a = .ok (b, M)) : M = [] := by
  unfold sgS at h
  by_cases e : T (sk T n a) = c
  · rw [if_pos e] at h; cases h; rfl
  · rw [if_neg e] at h; cases h
theorem valW_e {rec : Option (Nat → Rs)} {D : Nat} (hD : 1 ≤ D) (hr : ∀ s, rec = some s → RdE s TN D) : RdE (valW T n rec) TN D := by
  intro a b M h
  unfold valW at h
  by_cases e : T (sk T n a) = nI 40
  · rw [if_pos e] at h
    cases hrec : rec with
    | none => rw [hrec] at h; cases h
    | some s =>
      rw [hrec] at h
      obtain ⟨a', L, K, h1, h2, rfl⟩ := bnd_ok h
      rw [sgS_0 h2, List.append_nil]
      exact hr s hrec _ _ _ h1
  · rw [if_neg e] at h
    by_cases e1 : asW (wcode T n (sk T n a)) < 7
    · rw [if_pos e1] at h
      cases h
      obtain ⟨x, rfl⟩ : ∃ x, D = x + 1 := ⟨D - 1, by omega⟩
      exact fun kn => ⟨_, NV.look e1⟩
    · rw [if_neg e1] at h
      by_cases e2 : nmF T n (sk T n a) (nI 0) (nI 999) = 0
      · rw [if_pos e2] at h
        cases h
        obtain ⟨-, h1, h2⟩ := nmF_0 e2
        obtain ⟨p, hp, e⟩ := rng (by decide) ⟨h1, h2⟩
        obtain ⟨x, rfl⟩ : ∃ x, D = x + 1 := ⟨D - 1, by omega⟩
        exact fun kn => ⟨_, NV.num (by rw [e, nI_clamp (by omega)]; exact hp)⟩
      · rw [if_neg e2] at h; cases h
theorem sumD_e : ∀ f, RdE (sumD T n f) TN (3 + 2 * f) := by
  have key : ∀ rec D, RdE (valW T n rec) TN D → RdE (sumW T n (proW T n (valW T n rec))) TN (D + 2) := by
    intro rec D h
    have h1 : RdE (proW T n (valW T n rec)) TN (D + 1) := by
      have := prG_e (T := T) (n := n) (sp := spL T n (nI 42) (nI 47) 4 5) spL_k (fun k a b hk ha hb => TN.bin (by omega) (by omega) ha hb) (fun A q => q.mono (by omega)) h
      rw [lpG_L] at this
      exact this
    have := prG_e (T := T) (n := n) (sp := spL T n (nI 43) (nI 45) 2 3) spL_k (fun k a b hk ha hb => TN.bin (by omega) (by omega) ha hb) (fun A q => q.mono (by omega)) h1
    rw [lpG_L] at this
    exact this
  intro f
  induction f with
  | zero => exact key none 1 (valW_e (by decide) (fun s c => by cases c))
  | succ f ih => exact key _ (3 + 2 * f) (valW_e (by omega) (fun s c => by cases c; exact ih))
theorem anyW_e {one : Nat → Rs} {D : Nat} (h : RdE one TB D) : RdE (anyW T n one) TB (D + 2) := by
  have h1 : RdE (eachW T n one) TB (D + 1) := by
    have := prG_e (T := T) (n := n) (sp := spW T n w_and 10) spW_k (fun k a b hk ha hb => TB.bin (by omega) (by omega) ha hb) (fun A q => q.mono (by omega)) h
    rw [lpG_W] at this
    exact this
  have := prG_e (T := T) (n := n) (sp := spW T n w_or 11) spW_k (fun k a b hk ha hb => TB.bin (by omega) (by omega) ha hb) (fun A q => q.mono (by omega)) h1
  rw [lpG_W] at this
  exact this
theorem cmC_6 {x : Int32} : 6 ≤ cmC x := by
  unfold cmC
  repeat' split
  all_goals decide
theorem oneW_e {sum : Nat → Rs} {rec : Option ((Nat → Rs) × (Nat → Rs))} {D : Nat} (hs : RdE sum TN D) (hr : ∀ r, rec = some r → RdE r.1 TB (D + 1) ∧ RdE r.2 TB (D + 1)) : RdE (oneW T n sum rec) TB (D + 1) := by
  intro a b M h
  unfold oneW at h
  by_cases e : wcode T n (sk T n a) = w_not
  · rw [if_pos e] at h
    cases hrec : rec with
    | none => rw [hrec] at h; cases h
    | some r =>
      rw [hrec] at h
      obtain ⟨a', L, K, q1, q2, rfl⟩ := bnd_ok h
      cases q2
      intro kn
      obtain ⟨u, hu⟩ := (hr r hrec).1 _ _ _ q1 kn
      exact ⟨_, BV.neg hu⟩
  · rw [if_neg e] at h
    by_cases e1 : T (sk T n a) = nI 91
    · rw [if_pos e1] at h
      cases hrec : rec with
      | none => rw [hrec] at h; cases h
      | some r =>
        rw [hrec] at h
        obtain ⟨a', L, K, q1, q2, rfl⟩ := bnd_ok h
        rw [sgS_0 q2, List.append_nil]
        exact (hr r hrec).2 _ _ _ q1
    · rw [if_neg e1] at h
      obtain ⟨a', L, K, q1, q2, rfl⟩ := bnd_ok h
      by_cases e2 : cmC (T (sk T n a')) < 9
      · rw [if_pos e2] at q2
        obtain ⟨a'', L', K', q3, q4, rfl⟩ := bnd_ok q2
        cases q4
        intro kn
        obtain ⟨x, h1⟩ := hs _ _ _ q1 kn
        obtain ⟨y, h2⟩ := hs _ _ _ q3 kn
        exact ⟨_, BV.cmp cmC_6 (by omega) (h1.mono _ (by omega)) h2⟩
      · rw [if_neg e2] at q2; cases q2
theorem oneD_e : ∀ f, RdE (oneD T n f) TB (4 + 2 * f)
  | 0 => fun a b M h => (oneW_e (sumD_e 0) (fun r c => by cases c) a b M h).mono (by omega)
  | f + 1 => fun a b M h => (oneW_e (sumD_e (f + 1)) (fun r c => by cases c; exact ⟨fun a b M h => (oneD_e f a b M h).mono (by omega), fun a b M h => (anyW_e (oneD_e f) a b M h).mono (by omega)⟩) a b M h).mono (by omega)
end Tre
