/-! the texts, read: T the text, n its length -/
abbrev Cd : Type := Nat × Nat
abbrev Rs : Type := Except (Nat × Nat) (Nat × List Cd)
def bnd (x : Rs) (f : Nat → Rs) : Rs := match x with
  | .error e => .error e
  | .ok (a, l) => match f a with
    | .error e => .error e
    | .ok (b, m) => .ok (b, l ++ m)
theorem bnd_e {e : Nat × Nat} {f : Nat → Rs} : bnd (.error e) f = .error e := rfl
theorem bnd_o {a : Nat} {l : List Cd} {f : Nat → Rs} : bnd (.ok (a, l)) f = match f a with
    | .error e => .error e
    | .ok (b, m) => .ok (b, l ++ m) := rfl
theorem bnd_n {a : Nat} {f : Nat → Rs} : bnd (.ok (a, [])) f = f a := by
  rw [bnd_o]
  cases h : f a with
  | error e => rfl
  | ok q => rfl
theorem bnd_a {x : Rs} {f g : Nat → Rs} : bnd (bnd x f) g = bnd x (fun a => bnd (f a) g) := by
  cases x with
  | error e => rfl
  | ok q =>
    obtain ⟨a, l⟩ := q
    rw [bnd_o, bnd_o]
    cases h : f a with
    | error e => rfl
    | ok q =>
      obtain ⟨b, m⟩ := q
      simp only [bnd_o]
      cases h : g b with
      | error e => rfl
      | ok q =>
        simp only [List.append_assoc]
/-- one code said -/
def say1 (c : Cd) (a : Nat) : Rs := .ok (a, [c])
def wEnd (T : Nat → Int32) (n b : Nat) : Nat := rn T (nI 97) (nI 122) n b
def w_mint : Int64 := sevenL (nI 13) (nI 9) (nI 14) (nI 20) (nI 0) (nI 0) (nI 0)
def w_rue : Int64 := sevenL (nI 18) (nI 21) (nI 5) (nI 0) (nI 0) (nI 0) (nI 0)
def w_sage : Int64 := sevenL (nI 19) (nI 1) (nI 7) (nI 5) (nI 0) (nI 0) (nI 0)
def w_water : Int64 := sevenL (nI 23) (nI 1) (nI 20) (nI 5) (nI 18) (nI 0) (nI 0)
def w_day : Int64 := sevenL (nI 4) (nI 1) (nI 25) (nI 0) (nI 0) (nI 0) (nI 0)
def w_put : Int64 := sevenL (nI 16) (nI 21) (nI 20) (nI 0) (nI 0) (nI 0) (nI 0)
def w_spring : Int64 := sevenL (nI 19) (nI 16) (nI 18) (nI 9) (nI 14) (nI 7) (nI 0)
def w_village : Int64 := sevenL (nI 22) (nI 9) (nI 12) (nI 12) (nI 1) (nI 7) (nI 5)
def w_channel : Int64 := sevenL (nI 3) (nI 8) (nI 1) (nI 14) (nI 14) (nI 5) (nI 12)
def w_tap : Int64 := sevenL (nI 20) (nI 1) (nI 16) (nI 0) (nI 0) (nI 0) (nI 0)
def w_feast : Int64 := sevenL (nI 6) (nI 5) (nI 1) (nI 19) (nI 20) (nI 0) (nI 0)
def w_leak : Int64 := sevenL (nI 12) (nI 5) (nI 1) (nI 11) (nI 0) (nI 0) (nI 0)
def w_lag : Int64 := sevenL (nI 12) (nI 1) (nI 7) (nI 0) (nI 0) (nI 0) (nI 0)
def w_frog : Int64 := sevenL (nI 6) (nI 18) (nI 15) (nI 7) (nI 0) (nI 0) (nI 0)
def w_filter : Int64 := sevenL (nI 6) (nI 9) (nI 12) (nI 20) (nI 5) (nI 18) (nI 0)
def w_if : Int64 := sevenL (nI 9) (nI 6) (nI 0) (nI 0) (nI 0) (nI 0) (nI 0)
def w_or : Int64 := sevenL (nI 15) (nI 18) (nI 0) (nI 0) (nI 0) (nI 0) (nI 0)
def w_and : Int64 := sevenL (nI 1) (nI 14) (nI 4) (nI 0) (nI 0) (nI 0) (nI 0)
def w_not : Int64 := sevenL (nI 14) (nI 15) (nI 20) (nI 0) (nI 0) (nI 0) (nI 0)
/-- a sign that is due -/
def sgS (T : Nat → Int32) (n : Nat) (c : Int32) (a : Nat) : Rs := if T (sk T n a) = c then .ok (sk T n a + 1, []) else .error (1, sk T n a)
/-- the herb of a word: 0, 1, 2, or 3 for none -/
def hbW (w : Int64) : Nat := if w = w_mint then 0 else if w = w_rue then 1 else if w = w_sage then 2 else 3
/-- what a word asks for: water 0, herbs 1 to 3, day 4, put 5, spring 6, or 7 for none -/
def asW (w : Int64) : Nat := if hbW w < 3 then 1 + hbW w else if w = w_water then 0 else if w = w_day then 4 else if w = w_put then 5 else if w = w_spring then 6 else 7
def valW (T : Nat → Int32) (n : Nat) (rec : Option (Nat → Rs)) (a : Nat) : Rs :=
  if T (sk T n a) = nI 40 then (match rec with
    | none => .error (3, sk T n a)
    | some s => bnd (s (sk T n a + 1)) (sgS T n (nI 41)))
  else if asW (wcode T n (sk T n a)) < 7 then .ok (wEnd T n (sk T n a), [(1, asW (wcode T n (sk T n a)))])
  else if nmF T n (sk T n a) (nI 0) (nI 999) = 0 then .ok (nmE T n (sk T n a), [(0, (nmV T n (sk T n a)).toNatClampNeg)])
  else .error (nmF T n (sk T n a) (nI 0) (nI 999), sk T n a)
/-- signs c1, c2 between what f reads, the codes k1, k2 behind it -/
def lpL (T : Nat → Int32) (n : Nat) (c1 c2 : Int32) (k1 k2 : Nat) (f : Nat → Rs) : Nat → Nat → Rs
  | 0, a => .ok (a, [])
  | g + 1, a => if T (sk T n a) = c1 then bnd (f (sk T n a + 1)) (fun b => bnd (say1 (k1, 0) b) (lpL T n c1 c2 k1 k2 f g))
    else if T (sk T n a) = c2 then bnd (f (sk T n a + 1)) (fun b => bnd (say1 (k2, 0) b) (lpL T n c1 c2 k1 k2 f g))
    else .ok (sk T n a, [])
def proW (T : Nat → Int32) (n : Nat) (val : Nat → Rs) (a : Nat) : Rs := bnd (val a) (lpL T n (nI 42) (nI 47) 4 5 val (n + 1))
def sumW (T : Nat → Int32) (n : Nat) (pro : Nat → Rs) (a : Nat) : Rs := bnd (pro a) (lpL T n (nI 43) (nI 45) 2 3 pro (n + 1))
/-- sums, so many brackets left to open -/
def sumD (T : Nat → Int32) (n : Nat) : Nat → Nat → Rs
  | 0 => sumW T n (proW T n (valW T n none))
  | f + 1 => sumW T n (proW T n (valW T n (some (sumD T n f))))
def recS (T : Nat → Int32) (n : Nat) : Nat → Option (Nat → Rs)
  | 0 => none
  | f + 1 => some (sumD T n f)
theorem sumD_is (T : Nat → Int32) (n : Nat) : ∀ f, sumD T n f = sumW T n (proW T n (valW T n (recS T n f)))
  | 0 => rfl
  | _ + 1 => rfl
/-- a word w between what f reads, the code k behind it -/
def lpW (T : Nat → Int32) (n : Nat) (w : Int64) (k : Nat) (f : Nat → Rs) : Nat → Nat → Rs
  | 0, a => .ok (a, [])
  | g + 1, a => if wcode T n (sk T n a) = w then bnd (f (wEnd T n (sk T n a))) (fun b => bnd (say1 (k, 0) b) (lpW T n w k f g))
    else .ok (sk T n a, [])
def eachW (T : Nat → Int32) (n : Nat) (one : Nat → Rs) (a : Nat) : Rs := bnd (one a) (lpW T n w_and 10 one (n + 1))
def anyW (T : Nat → Int32) (n : Nat) (one : Nat → Rs) (a : Nat) : Rs := bnd (eachW T n one a) (lpW T n w_or 11 (eachW T n one) (n + 1))
/-- less, more, same: 6, 7, 8, or 9 for none -/
def cmC (c : Int32) : Nat := if c = nI 60 then 6 else if c = nI 62 then 7 else if c = nI 61 then 8 else 9
def oneW (T : Nat → Int32) (n : Nat) (sum : Nat → Rs) (rec : Option ((Nat → Rs) × (Nat → Rs))) (a : Nat) : Rs :=
  if wcode T n (sk T n a) = w_not then (match rec with
    | none => .error (3, sk T n a)
    | some r => bnd (r.1 (wEnd T n (sk T n a))) (say1 (9, 0)))
  else if T (sk T n a) = nI 91 then (match rec with
    | none => .error (3, sk T n a)
    | some r => bnd (r.2 (sk T n a + 1)) (sgS T n (nI 93)))
  else bnd (sum (sk T n a)) (fun b => if cmC (T (sk T n b)) < 9 then bnd (sum (sk T n b + 1)) (say1 (cmC (T (sk T n b)), 0)) else .error (1, sk T n b))
def oneD (T : Nat → Int32) (n : Nat) : Nat → Nat → Rs
  | 0 => oneW T n (sumD T n 0) none
  | f + 1 => oneW T n (sumD T n (f + 1)) (some (oneD T n f, anyW T n (oneD T n f)))
def recC (T : Nat → Int32) (n : Nat) : Nat → Option ((Nat → Rs) × (Nat → Rs))
  | 0 => none
  | f + 1 => some (oneD T n f, anyW T n (oneD T n f))
theorem oneD_is (T : Nat → Int32) (n : Nat) : ∀ f, oneD T n f = oneW T n (sumD T n f) (recC T n f)
  | 0 => rfl
  | _ + 1 => rfl
/-- reading goes on, and every code has a byte of its own -/
def Gd (n : Nat) (f : Nat → Rs) : Prop := ∀ a b M, a ≤ n → f a = .ok (b, M) → a ≤ b ∧ b ≤ n ∧ M.length + a ≤ b
/-- and something is read -/
def Gs (n : Nat) (f : Nat → Rs) : Prop := ∀ a b M, a ≤ n → f a = .ok (b, M) → a < b ∧ b ≤ n ∧ M.length + a ≤ b
theorem Gs.gd {n : Nat} {f : Nat → Rs} (h : Gs n f) : Gd n f := fun a b M ha hf => ⟨Nat.le_of_lt (h a b M ha hf).1, (h a b M ha hf).2⟩
theorem bnd_ok {x : Rs} {f : Nat → Rs} {b : Nat} {M : List Cd} (h : bnd x f = .ok (b, M)) : ∃ a L K, x = .ok (a, L) ∧ f a = .ok (b, K) ∧ M = L ++ K := by
  cases x with
  | error e => rw [bnd_e] at h; cases h
  | ok q =>
    obtain ⟨a, L⟩ := q
    rw [bnd_o] at h
    cases hf : f a with
    | error e => rw [hf] at h; cases h
    | ok q =>
      obtain ⟨b', K⟩ := q
      rw [hf] at h
      cases h
      exact ⟨a, L, K, rfl, hf, rfl⟩
/-- T has no sign at its end -/
def Tx (T : Nat → Int32) (n : Nat) : Prop := ∀ k, n ≤ k → T k = -1
theorem Tx.lt {T : Nat → Int32} {n k : Nat} {c : Int32} (h : Tx T n) (hc : ¬ c = -1) (hk : T k = c) : k < n := by
  by_cases e : k < n
  · exact e
  · exact absurd ((h k (by omega)).symm.trans hk).symm hc
theorem sgS_g {T : Nat → Int32} {n : Nat} {c : Int32} (hT : Tx T n) (hc : ¬ c = -1) : Gs n (sgS T n c) := by
  intro a b M ha h
  unfold sgS at h
  have := sk_b (t := T) ha
  by_cases e : T (sk T n a) = c
  · rw [if_pos e] at h
    cases h
    have := hT.lt hc e
    refine ⟨by omega, by omega, ?_⟩
    show 0 + a ≤ _
    omega
  · rw [if_neg e] at h; cases h
theorem wEnd_lt {T : Nat → Int32} {n b : Nat} {w : Int64} (hb : b ≤ n) (h : wcode T n b = w) (hw : ¬ w = lN 0) : b < wEnd T n b ∧ wEnd T n b ≤ n := by
  have := rn_b (t := T) (lo := nI 97) (hi := nI 122) hb
  unfold wEnd
  refine ⟨?_, this.2⟩
  by_cases e : rn T (nI 97) (nI 122) n b = b
  · exfalso
    unfold wcode at h
    rw [e, Nat.sub_self, if_neg (by omega)] at h
    exact hw h.symm
  · omega
theorem asW_0 : ¬ asW (lN 0) < 7 := by decide
theorem valW_g {T : Nat → Int32} {n : Nat} {rec : Option (Nat → Rs)} (hT : Tx T n) (hr : ∀ s, rec = some s → Gd n s) : Gs n (valW T n rec) := by
  intro a b M ha h
  have hs := sk_b (t := T) ha
  unfold valW at h
  by_cases e : T (sk T n a) = nI 40
  · rw [if_pos e] at h
    have hlt := hT.lt (by decide) e
    cases hrec : rec with
    | none => rw [hrec] at h; cases h
    | some s =>
      rw [hrec] at h
      obtain ⟨a', L, K, h1, h2, rfl⟩ := bnd_ok h
      have g1 := hr s hrec _ _ _ (by omega) h1
      have g2 := sgS_g hT (by decide) _ _ _ g1.2.1 h2
      refine ⟨by omega, g2.2.1, ?_⟩
      rw [List.length_append]
      omega
  · rw [if_neg e] at h
    by_cases e1 : asW (wcode T n (sk T n a)) < 7
    · rw [if_pos e1] at h
      cases h
      have := wEnd_lt (T := T) hs.2 rfl (fun c => asW_0 (c ▸ e1))
      refine ⟨by omega, by omega, ?_⟩
      show 1 + a ≤ _
      omega
    · rw [if_neg e1] at h
      by_cases e2 : nmF T n (sk T n a) (nI 0) (nI 999) = 0
      · rw [if_pos e2] at h
        cases h
        have hd : nI 48 ≤ T (sk T n (sk T n a)) ∧ T (sk T n (sk T n a)) ≤ nI 57 := by
          apply Decidable.byContradiction
          intro c
          unfold nmF at e2
          rw [if_pos c] at e2
          exact absurd e2 (by decide)
        have hs2 := sk_b (t := T) hs.2
        have hlt : sk T n (sk T n a) < n := by
          by_cases c : sk T n (sk T n a) < n
          · exact c
          · rw [hT _ (by omega)] at hd
            exact absurd hd (by decide)
        unfold nmE
        rw [rn_step hlt hd]
        have := rn_b (t := T) (lo := nI 48) (hi := nI 57) (show sk T n (sk T n a) + 1 ≤ n by omega)
        refine ⟨by omega, by omega, ?_⟩
        show 1 + a ≤ _
        omega
      · rw [if_neg e2] at h; cases h
theorem lpL_g {T : Nat → Int32} {n : Nat} {c1 c2 : Int32} {k1 k2 : Nat} {f : Nat → Rs} (hT : Tx T n) (h1 : ¬ c1 = -1) (h2 : ¬ c2 = -1) (hf : Gd n f) : ∀ g, Gd n (lpL T n c1 c2 k1 k2 f g)
  | 0 => fun a b M ha h => by
    cases h
    exact ⟨Nat.le_refl _, ha, by show 0 + a ≤ a; omega⟩
  | g + 1 => fun a b M ha h => by
    have hs := sk_b (t := T) ha
    have two : ∀ (c : Int32) (k : Nat), ¬ c = -1 → T (sk T n a) = c → bnd (f (sk T n a + 1)) (fun b => bnd (say1 (k, 0) b) (lpL T n c1 c2 k1 k2 f g)) = .ok (b, M) → a ≤ b ∧ b ≤ n ∧ M.length + a ≤ b := by
      intro c k hc e h
      have hlt := hT.lt hc e
      obtain ⟨a', L, K, q1, q2, rfl⟩ := bnd_ok h
      obtain ⟨a'', L', K', q3, q4, rfl⟩ := bnd_ok q2
      cases q3
      have g1 := hf _ _ _ (by omega) q1
      have g2 := lpL_g hT h1 h2 hf g _ _ _ g1.2.1 q4
      refine ⟨by omega, g2.2.1, ?_⟩
      rw [List.length_append, List.length_append]
      show L.length + (1 + K'.length) + a ≤ b
      omega
    unfold lpL at h
    by_cases e : T (sk T n a) = c1
    · rw [if_pos e] at h
      exact two c1 k1 h1 e h
    · rw [if_neg e] at h
      by_cases e2 : T (sk T n a) = c2
      · rw [if_pos e2] at h
        exact two c2 k2 h2 e2 h
      · rw [if_neg e2] at h
        cases h
        exact ⟨hs.1, hs.2, by show 0 + a ≤ _; omega⟩
theorem bnd_gs {n : Nat} {f g : Nat → Rs} (hf : Gs n f) (hg : Gd n g) : Gs n (fun a => bnd (f a) g) := fun a b M ha h => by
  obtain ⟨a', L, K, q1, q2, rfl⟩ := bnd_ok h
  have g1 := hf _ _ _ ha q1
  have g2 := hg _ _ _ g1.2.1 q2
  refine ⟨by omega, g2.2.1, ?_⟩
  rw [List.length_append]
  omega
theorem sumD_g {T : Nat → Int32} {n : Nat} (hT : Tx T n) : ∀ f, Gs n (sumD T n f)
  | 0 => bnd_gs (bnd_gs (valW_g hT (fun s c => by cases c)) (lpL_g hT (by decide) (by decide) (valW_g hT (fun s c => by cases c)).gd _)) (lpL_g hT (by decide) (by decide) (bnd_gs (valW_g hT (fun s c => by cases c)) (lpL_g hT (by decide) (by decide) (valW_g hT (fun s c => by cases c)).gd _)).gd _)
  | f + 1 => by
    have hv : Gs n (valW T n (some (sumD T n f))) := valW_g hT (fun s c => by cases c; exact (sumD_g hT f).gd)
    have hp : Gs n (proW T n (valW T n (some (sumD T n f)))) := bnd_gs hv (lpL_g hT (by decide) (by decide) hv.gd _)
    exact bnd_gs hp (lpL_g hT (by decide) (by decide) hp.gd _)
theorem recS_g {T : Nat → Int32} {n : Nat} (hT : Tx T n) : ∀ f s, recS T n f = some s → Gd n s
  | 0, s, h => by cases h
  | f + 1, s, h => by cases h; exact (sumD_g hT f).gd
theorem lpW_g {T : Nat → Int32} {n : Nat} {w : Int64} {k : Nat} {f : Nat → Rs} (hw : ¬ w = lN 0) (hf : Gd n f) : ∀ g, Gd n (lpW T n w k f g)
  | 0 => fun a b M ha h => by
    cases h
    exact ⟨Nat.le_refl _, ha, by show 0 + a ≤ a; omega⟩
  | g + 1 => fun a b M ha h => by
    have hs := sk_b (t := T) ha
    unfold lpW at h
    by_cases e : wcode T n (sk T n a) = w
    · rw [if_pos e] at h
      have hlt := wEnd_lt hs.2 e hw
      obtain ⟨a', L, K, q1, q2, rfl⟩ := bnd_ok h
      obtain ⟨a'', L', K', q3, q4, rfl⟩ := bnd_ok q2
      cases q3
      have g1 := hf _ _ _ hlt.2 q1
      have g2 := lpW_g hw hf g _ _ _ g1.2.1 q4
      refine ⟨by omega, g2.2.1, ?_⟩
      rw [List.length_append, List.length_append]
      show L.length + (1 + K'.length) + a ≤ b
      omega
    · rw [if_neg e] at h
      cases h
      exact ⟨hs.1, hs.2, by show 0 + a ≤ _; omega⟩
theorem anyW_g {T : Nat → Int32} {n : Nat} {one : Nat → Rs} (h : Gs n one) : Gs n (anyW T n one) := by
  have he : Gs n (eachW T n one) := bnd_gs h (lpW_g (by decide) h.gd _)
  exact bnd_gs he (lpW_g (by decide) he.gd _)
theorem oneW_g {T : Nat → Int32} {n : Nat} {sum : Nat → Rs} {rec : Option ((Nat → Rs) × (Nat → Rs))} (hT : Tx T n) (hs : Gs n sum) (hr : ∀ r, rec = some r → Gd n r.1 ∧ Gd n r.2) : Gs n (oneW T n sum rec) := by
  intro a b M ha h
  have hsk := sk_b (t := T) ha
  unfold oneW at h
  by_cases e : wcode T n (sk T n a) = w_not
  · rw [if_pos e] at h
    have hlt := wEnd_lt hsk.2 e (by decide)
    cases hrec : rec with
    | none => rw [hrec] at h; cases h
    | some r =>
      rw [hrec] at h
      obtain ⟨a', L, K, q1, q2, rfl⟩ := bnd_ok h
      cases q2
      have g1 := (hr r hrec).1 _ _ _ hlt.2 q1
      refine ⟨by omega, by omega, ?_⟩
      rw [List.length_append]
      show L.length + 1 + a ≤ _
      omega
  · rw [if_neg e] at h
    by_cases e1 : T (sk T n a) = nI 91
    · rw [if_pos e1] at h
      have hlt := hT.lt (by decide) e1
      cases hrec : rec with
      | none => rw [hrec] at h; cases h
      | some r =>
        rw [hrec] at h
        obtain ⟨a', L, K, q1, q2, rfl⟩ := bnd_ok h
        have g1 := (hr r hrec).2 _ _ _ (by omega) q1
        have g2 := sgS_g hT (by decide) _ _ _ g1.2.1 q2
        refine ⟨by omega, g2.2.1, ?_⟩
        rw [List.length_append]
        omega
    · rw [if_neg e1] at h
      obtain ⟨a', L, K, q1, q2, rfl⟩ := bnd_ok h
      have g1 := hs _ _ _ hsk.2 q1
      have hs2 := sk_b (t := T) g1.2.1
      by_cases e2 : cmC (T (sk T n a')) < 9
      · rw [if_pos e2] at q2
        obtain ⟨a'', L', K', q3, q4, rfl⟩ := bnd_ok q2
        cases q4
        have hlt : sk T n a' < n := by
          by_cases c : sk T n a' < n
          · exact c
          · rw [hT _ (by omega)] at e2
            exact absurd e2 (by decide)
        have g3 := hs _ _ _ (by omega) q3
        refine ⟨by omega, by omega, ?_⟩
        rw [List.length_append, List.length_append]
        show L.length + (L'.length + 1) + a ≤ _
        omega
      · rw [if_neg e2] at q2; cases q2
theorem oneD_g {T : Nat → Int32} {n : Nat} (hT : Tx T n) : ∀ f, Gs n (oneD T n f)
  | 0 => oneW_g hT (sumD_g hT 0) (fun r c => by cases c)
  | f + 1 => oneW_g hT (sumD_g hT (f + 1)) (fun r c => by cases c; exact ⟨(oneD_g hT f).gd, (anyW_g (oneD_g hT f)).gd⟩)
