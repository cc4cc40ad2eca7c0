/-! constructors, 7: the model made -/
/-- k cells of the model are made, with these references; the rest is G's -/
def CM (G : Ev) (B k : Nat) (rs : List (Nat × Nat × Nat)) : Ev := (fun i j => if 500000 ≤ i ∧ i < 600000 then (if i < 500000 + k ∧ mTl.getD (i - 500000) 0 = 107 then (if j < mNl.getD (i - 500000) 0 then i + 1 + j + 1 else 0) else match rlk rs i j with | some b => b + 1 | none => 0) else G.1 i j, fun i => if 500000 ≤ i ∧ i < 600000 then (if i < 500000 + k then mTl.getD (i - 500000) 0 else 0) else G.2.1 i, fun i => if i = 999999 then B + k + 1 else if 500000 ≤ i ∧ i < 600000 then (if i < 500000 + k then mNl.getD (i - 500000) 0 else 0) else G.2.2 i)
theorem ad_m {B : Nat × Nat} {k : Nat} (h : k < 500000) : ad B (500000 + k) = B.2 + k := by
  unfold ad
  rw [if_neg (by omega), if_pos (by omega)]
  omega
section CMs
variable {G : Ev} {B k i j b : Nat} {rs : List (Nat × Nat × Nat)}
theorem CM_mk {t n k' : Nat} (hi : i = 500000 + k) (hk' : k' = k + 1) (hk : k < 1000) (ht : mTl.getD k 0 = t) (h7 : t ≠ 107) (hn : mNl.getD k 0 = n) (hr : ∀ j, rlk rs i j = none) : mkE (CM G B k rs) i t n (B + k + 2) = CM G B k' rs := by
  subst hk' hi
  unfold mkE CM
  refine Prod.ext ?_ (Prod.ext ?_ ?_)
  · funext a c
    dsimp only
    by_cases e : a = 500000 + k
    · subst e
      rw [if_pos rfl, if_pos (by omega), if_neg (fun q => h7 (by rw [← ht]; have := q.2; rwa [Nat.add_sub_cancel_left] at this)), hr c]
    · rw [if_neg e]
      by_cases h : 500000 ≤ a ∧ a < 600000
      · rw [if_pos h, if_pos h]
        by_cases h2 : a < 500000 + k
        · simp only [h2, show a < 500000 + (k + 1) by omega]
        · simp only [h2, show ¬ a < 500000 + (k + 1) by omega]
      · rw [if_neg h, if_neg h]
  · funext a
    dsimp only
    by_cases e : a = 500000 + k
    · subst e
      rw [if_pos rfl, if_pos (by omega), if_pos (by omega), Nat.add_sub_cancel_left, ht]
    · rw [if_neg e]
      by_cases h : 500000 ≤ a ∧ a < 600000
      · rw [if_pos h, if_pos h]
        by_cases h2 : a < 500000 + k
        · rw [if_pos h2, if_pos (by omega)]
        · rw [if_neg h2, if_neg (by omega)]
      · rw [if_neg h, if_neg h]
  · funext a
    dsimp only
    by_cases e9 : a = 999999
    · rw [if_pos e9, if_pos e9]
      omega
    · simp only [if_neg e9]
      by_cases e : a = 500000 + k
      · subst e
        rw [if_pos rfl, if_pos (by omega), if_pos (by omega), Nat.add_sub_cancel_left, hn]
      · rw [if_neg e]
        by_cases h : 500000 ≤ a ∧ a < 600000
        · rw [if_pos h, if_pos h]
          by_cases h2 : a < 500000 + k
          · rw [if_pos h2, if_pos (by omega)]
          · rw [if_neg h2, if_neg (by omega)]
        · rw [if_neg h, if_neg h]
theorem CM_mk2 {N K k' : Nat} (hi : i = 500000 + k) (hk' : k' = k + 1 + N) (hk : k + N < 1000) (ht : mTl.getD k 0 = 107) (hn : mNl.getD k 0 = N) (hr : ∀ q, q < N → mTl.getD (k + 1 + q) 0 = 101 ∧ mNl.getD (k + 1 + q) 0 = K) (hrs : ∀ a c, i < a → rlk rs a c = none) : mk2 (CM G B k rs) i N K (B + k + N + 2) = CM G B k' rs := by
  subst hk' hi
  have hq : ∀ a, 500000 + k < a → a ≤ 500000 + k + N → mTl.getD (a - 500000) 0 = 101 ∧ mNl.getD (a - 500000) 0 = K := fun a h1 h2 => by
    have := hr (a - 500000 - k - 1) (by omega)
    rw [show k + 1 + (a - 500000 - k - 1) = a - 500000 by omega] at this
    exact this
  unfold mk2 CM
  refine Prod.ext ?_ (Prod.ext ?_ ?_)
  · funext a c
    dsimp only
    by_cases e : a = 500000 + k
    · subst e
      rw [if_pos rfl, if_pos (show 500000 ≤ 500000 + k ∧ 500000 + k < 600000 by omega), if_pos (show 500000 + k < 500000 + (k + 1 + N) ∧ mTl.getD (500000 + k - 500000) 0 = 107 from ⟨by omega, by rw [Nat.add_sub_cancel_left]; exact ht⟩), Nat.add_sub_cancel_left, hn]
    · rw [if_neg e]
      by_cases e2 : 500000 + k < a ∧ a ≤ 500000 + k + N
      · rw [if_pos e2, if_pos (by omega), if_neg (fun q => by rw [(hq a e2.1 e2.2).1] at q; exact absurd q.2 (by decide)), hrs a c e2.1]
      · rw [if_neg e2]
        by_cases h : 500000 ≤ a ∧ a < 600000
        · rw [if_pos h, if_pos h]
          by_cases h2 : a < 500000 + k
          · simp only [h2, show a < 500000 + (k + 1 + N) by omega]
          · simp only [h2, show ¬ a < 500000 + (k + 1 + N) by omega]
        · rw [if_neg h, if_neg h]
  · funext a
    dsimp only
    by_cases e : a = 500000 + k
    · subst e
      rw [if_pos rfl, if_pos (by omega), if_pos (by omega), Nat.add_sub_cancel_left, ht]
    · rw [if_neg e]
      by_cases e2 : 500000 + k < a ∧ a ≤ 500000 + k + N
      · rw [if_pos e2, if_pos (by omega), if_pos (by omega), (hq a e2.1 e2.2).1]
      · rw [if_neg e2]
        by_cases h : 500000 ≤ a ∧ a < 600000
        · rw [if_pos h, if_pos h]
          by_cases h2 : a < 500000 + k
          · rw [if_pos h2, if_pos (by omega)]
          · rw [if_neg h2, if_neg (by omega)]
        · rw [if_neg h, if_neg h]
  · funext a
    dsimp only
    by_cases e9 : a = 999999
    · rw [if_pos e9, if_pos e9]
      omega
    · simp only [if_neg e9]
      by_cases e : a = 500000 + k
      · subst e
        rw [if_pos rfl, if_pos (by omega), if_pos (by omega), Nat.add_sub_cancel_left, hn]
      · rw [if_neg e]
        by_cases e2 : 500000 + k < a ∧ a ≤ 500000 + k + N
        · rw [if_pos e2, if_pos (by omega), if_pos (by omega), (hq a e2.1 e2.2).2]
        · rw [if_neg e2]
          by_cases h : 500000 ≤ a ∧ a < 600000
          · rw [if_pos h, if_pos h]
            by_cases h2 : a < 500000 + k
            · rw [if_pos h2, if_pos (by omega)]
            · rw [if_neg h2, if_neg (by omega)]
          · rw [if_neg h, if_neg h]
theorem mT0 : mTl.getD 0 0 = 12 := by decide +kernel
theorem CM_up : (upR (CM G B k rs).1 500000 j (b + 1), (CM G B k rs).2) = CM G B k ((500000, j, b) :: rs) := by
  unfold CM upR
  refine Prod.ext ?_ rfl
  funext a c
  dsimp only
  by_cases ea : a = 500000
  · subst ea
    have n7 : ¬ (500000 < 500000 + k ∧ mTl.getD (500000 - 500000) 0 = 107) := fun q => by
      have := q.2
      rw [show 500000 - 500000 = 0 from rfl, mT0] at this
      exact absurd this (by decide)
    rw [if_pos (show 500000 ≤ 500000 ∧ 500000 < 600000 by omega), if_pos (show 500000 ≤ 500000 ∧ 500000 < 600000 by omega), if_neg n7, if_neg n7]
    show (if 500000 = 500000 ∧ c = j then b + 1 else match rlk rs 500000 c with | some b => b + 1 | none => 0) = match (if 500000 = 500000 ∧ j = c then some b else rlk rs 500000 c) with | some b => b + 1 | none => 0
    by_cases e : c = j
    · rw [if_pos ⟨rfl, e⟩, if_pos ⟨rfl, e.symm⟩]
    · rw [if_neg (fun q => e q.2), if_neg (fun q => e q.2.symm)]
  · rw [if_neg (fun q => ea q.1)]
    have : rlk ((500000, j, b) :: rs) a c = rlk rs a c := rl_c ea
    rw [this]
theorem CM_t (h : 1 ≤ k) : tyc sh0 (CM G B k rs) 500000 = 12 := by
  unfold tyc sh0 CM
  dsimp only
  rw [if_pos rfl, if_pos (by omega), if_pos (by omega)]
  exact mT0
theorem CM_sz : (CM G B k rs).2.2 999999 = B + k + 1 := by
  unfold CM
  dsimp only
  rw [if_pos rfl]
end CMs
/-- rows of zeros, and the model's own fields -/
def MZ (J I : Iv) (k : Nat) (w : Nat → Int32) : Prop := (∀ i, i < 500000 ∨ 600000 ≤ i → I i = J i) ∧ (∀ i, 500000 < i → i < 500000 + k → I i = fun _ => nI 0) ∧ ∀ f, I 500000 f = w f
theorem MZ.b {J : Iv} : MZ J (zr J 500000) 1 (fun _ => nI 0) := ⟨fun i hi => zr_n (by omega), fun i h1 h2 => by omega, fun f => zr_s⟩
theorem MZ.up {J I : Iv} {k : Nat} {w : Nat → Int32} (f : Nat) (v : Int32) (h : MZ J I k w) : MZ J (up I 500000 f v) k (fun a => if a = f then v else w a) := ⟨fun i hi => by rw [← h.1 i hi]; funext j; exact up_n (by omega), fun i h1 h2 => by rw [← h.2.1 i h1 h2]; funext j; exact up_n (by omega), fun a => by
  show _ = if a = f then v else w a
  by_cases e : a = f
  · rw [e, up_s, if_pos rfl]
  · rw [up_n (by omega), if_neg e, h.2.2 a]⟩
theorem MZ.z {J I : Iv} {k : Nat} {w : Nat → Int32} (i k' : Nat) (hi : i = 500000 + k) (hk' : k' = k + 1) (hk : 1 ≤ k ∧ k < 1000) (h : MZ J I k w) : MZ J (zr I i) k' w := by
  subst hi hk'
  refine ⟨fun a ha => by rw [zr_n (by omega)]; exact h.1 a ha, fun a h1 h2 => ?_, fun f => by rw [zr_n (by omega)]; exact h.2.2 f⟩
  by_cases e : a = 500000 + k
  · rw [e]; funext j; exact zr_s
  · rw [zr_n e]; exact h.2.1 a h1 (by omega)
theorem MZ.z2 {J I : Iv} {k : Nat} {w : Nat → Int32} (i N k' : Nat) (hi : i = 500000 + k) (hk' : k' = k + 1 + N) (hk : 1 ≤ k ∧ k + N < 1000) (h : MZ J I k w) : MZ J (zr2 I i N) k' w := by
  subst hi hk'
  have hn : ∀ a, ¬ (500000 + k ≤ a ∧ a ≤ 500000 + k + N) → zr2 I (500000 + k) N a = I a := fun a ha => by funext j; exact if_neg ha
  refine ⟨fun a ha => by rw [hn a (by omega)]; exact h.1 a ha, fun a h1 h2 => ?_, fun f => by rw [hn _ (by omega)]; exact h.2.2 f⟩
  by_cases e : 500000 + k ≤ a ∧ a ≤ 500000 + k + N
  · funext j; exact if_pos e
  · rw [hn a e]; exact h.2.1 a h1 (by omega)

def rsF : List (Nat × Nat × Nat) := [(500000, 55, 500334), (500000, 54, 500132), (500000, 53, 500131), (500000, 52, 500130), (500000, 51, 500129), (500000, 50, 500128), (500000, 35, 500127), (500000, 34, 500126), (500000, 33, 500125), (500000, 32, 500124), (500000, 31, 500123), (500000, 30, 500119), (500000, 29, 500106), (500000, 28, 500093), (500000, 24, 500092), (500000, 23, 500091), (500000, 22, 500090), (500000, 21, 500089), (500000, 20, 500079), (500000, 19, 500069), (500000, 18, 500068), (500000, 17, 500067), (500000, 16, 500046), (500000, 15, 500025), (500000, 14, 500015), (500000, 13, 500005), (500000, 12, 500004), (500000, 11, 500003), (500000, 10, 500002), (500000, 9, 500001)]

theorem rsF_ok : (rTl.all (fun q => decide (q.1 < 500000) || (rlk rsF q.1 q.2.1 == some q.2.2))) = true := by decide +kernel
theorem rsF_ok2 : (rsF.all (fun q => rlk rTl q.1 q.2.1 == some q.2.2)) = true := by decide +kernel
theorem rsF_r {i j : Nat} (hi : 500000 ≤ i) : rlk rsF i j = rlk rTl i j := by
  cases h : rlk rTl i j with
  | some r =>
    have := List.all_eq_true.mp rsF_ok _ (rl_mem rTl h)
    rw [Bool.or_eq_true] at this
    rcases this with c | c
    · exact absurd (of_decide_eq_true c) (by omega)
    · exact eq_of_beq c
  | none =>
    cases h2 : rlk rsF i j with
    | none => rfl
    | some r =>
      have := eq_of_beq (List.all_eq_true.mp rsF_ok2 _ (rl_mem rsF h2))
      dsimp only at this
      rw [h] at this
      cases this
/-- class and model are made -/
def xE2 (F : Ev) (s : Nat) : Ev := (fun i j => if 500000 ≤ i ∧ i < 1000000 then 0 else F.1 i j, fun i => if 1000000 ≤ i then F.2.1 i else 0, fun i => if i = 999999 then s else F.2.2 i)
section X2
variable {F : Ev} {s i j : Nat}
theorem tSt (h : i < 500000) : tS true i = tS false i := by
  unfold tS
  rw [if_pos h, if_pos h]
theorem pSt (h : i < 500000) : pS true i j = pS false i j := by
  unfold pS
  rw [tSt h]
theorem x2_rg (h : i < 500000 ∨ 1000000 ≤ i) : rget shN (xE2 F s) i j = rget (shB false) F i j := by
  have e : (shB true).2.2 i j = (shB false).2.2 i j := by
    show pS true i j = pS false i j
    rcases h with h | h
    · exact pSt h
    · rw [pS_d h, pS_d h]
  unfold rget
  rw [e]
  have : (xE2 F s).1 i j = F.1 i j := if_neg (by omega)
  rw [this]
theorem x2_ty (h : 1000000 ≤ i) : tyc shN (xE2 F s) i = tyc (shB false) F i := by
  show (if tS true i = 0 then (if 1000000 ≤ i then F.2.1 i else 0) else tS true i) = if tS false i = 0 then F.2.1 i else tS false i
  rw [tS_d h, tS_d h, if_pos rfl, if_pos rfl, if_pos h]
theorem x2_ln (h : 1000000 ≤ i) : len shN (xE2 F s) i = len (shB false) F i := by
  show (if tS true i = 0 then (if i = 999999 then s else F.2.2 i) else nS i) = if tS false i = 0 then F.2.2 i else nS i
  rw [tS_d h, tS_d h, if_pos rfl, if_pos rfl, if_neg (by omega)]
theorem mTl_n (h : 356 ≤ i) : mTl.getD i 0 = 0 := by
  have hl : mTl.length = 356 := by decide +kernel
  rw [List.getD_eq_getElem?_getD, List.getElem?_eq_none (by omega)]
  rfl
theorem x2_9 : tyc shN (xE2 F s) 999999 = 0 := by
  show (if tS true 999999 = 0 then (if 1000000 ≤ 999999 then F.2.1 999999 else 0) else tS true 999999) = 0
  have : tS true 999999 = 0 := by
    unfold tS
    rw [if_neg (by omega), if_pos rfl]
    exact mTl_n (by omega)
  rw [if_pos this, if_neg (by omega)]
theorem Wd.m0 {Γ : Gm} {I : Iv} {H : Heap} {G : Ev} {B sz : Nat} (hs : sz = B + 2) (h : Wd Γ sh0 I (mkE G 500000 12 0 sz) H) : Wd Γ sh0 I (CM G B 1 []) H := by
  have h9 := h.1.2.1
  have ty : ∀ i, tyc sh0 (CM G B 1 []) i = if 500000 ≤ i ∧ i < 600000 then (if i < 500001 then mTl.getD (i - 500000) 0 else 0) else G.2.1 i := fun i => by
    unfold tyc sh0 CM
    dsimp only
    rw [if_pos rfl]
  have g9 : G.2.1 999999 = 0 := by
    have : tyc sh0 (mkE G 500000 12 0 sz) 999999 = G.2.1 999999 := by
      unfold tyc sh0 mkE
      dsimp only
      rw [if_pos rfl, if_neg (by omega)]
    rw [← this]
    exact h9
  refine h.view (by rw [ty, if_neg (by omega)]; exact g9) (Or.inr (Or.inl (by rw [CM_sz, sz_mk, hs]))) (fun i hi => ?_)
  rw [ty] at hi ⊢
  by_cases c : 500000 ≤ i ∧ i < 600000
  · rw [if_pos c] at hi ⊢
    by_cases c2 : i < 500001
    · have : i = 500000 := by omega
      subst this
      rw [if_pos c2, show 500000 - 500000 = 0 from rfl, mT0]
      refine ⟨?_, fun q => absurd q (by omega), fun j _ => ?_⟩
      · unfold tyc sh0 mkE
        dsimp only
        rw [if_pos rfl, if_pos rfl]
      · have e1 : (mkE G 500000 12 0 sz).1 500000 j = 0 := by
          unfold mkE
          dsimp only
          rw [if_pos rfl]
        have e2 : (CM G B 1 []).1 500000 j = 0 := by
          unfold CM
          dsimp only
          rw [if_pos (by omega), if_neg (fun q => by have := q.2; rw [show 500000 - 500000 = 0 from rfl, mT0] at this; exact absurd this (by decide))]
          rfl
        unfold rget sh0
        dsimp only
        rw [e1, e2]
    · rw [if_neg c2] at hi
      exact absurd rfl hi
  · rw [if_neg c] at hi ⊢
    have i9 : i ≠ 999999 := fun e => hi (e ▸ g9)
    refine ⟨?_, fun _ => ?_, fun j _ => ?_⟩
    · unfold tyc sh0 mkE
      dsimp only
      rw [if_pos rfl, if_neg (by omega)]
    · unfold len sh0 mkE CM
      dsimp only
      rw [if_pos rfl, if_pos rfl, if_neg i9, if_neg (by omega), if_neg i9, if_neg c]
    · have e1 : (mkE G 500000 12 0 sz).1 i j = G.1 i j := if_neg (by omega)
      have e2 : (CM G B 1 []).1 i j = G.1 i j := if_neg c
      unfold rget sh0
      dsimp only
      rw [e1, e2]
theorem mNl_d (h : ¬ i < 500000) : nS i = mNl.getD (i - 500000) 0 := by
  unfold nS
  rw [if_neg h]
theorem Wd.m9 {Γ : Gm} {I : Iv} {H : Heap} {B : Nat} (h : Wd Γ sh0 I (CM (flE (shB false) F) B 356 rsF) H) : Wd Γ shN I (xE2 F (B + 357)) H := by
  have cty : ∀ i, tyc sh0 (CM (flE (shB false) F) B 356 rsF) i = if 500000 ≤ i ∧ i < 600000 then (if i < 500356 then mTl.getD (i - 500000) 0 else 0) else tyc (shB false) F i := fun i => by
    unfold tyc sh0 CM
    dsimp only
    rw [if_pos rfl]
    rfl
  have cln : ∀ i, i ≠ 999999 → len sh0 (CM (flE (shB false) F) B 356 rsF) i = if 500000 ≤ i ∧ i < 600000 then (if i < 500356 then mNl.getD (i - 500000) 0 else 0) else len (shB false) F i := fun i h9 => by
    have : (flE (shB false) F).2.2 i = len (shB false) F i := if_neg h9
    unfold len sh0 CM
    dsimp only
    rw [if_pos rfl, if_neg h9, this]
    rfl
  have nty : ∀ i, tyc shN (xE2 F (B + 357)) i = if tS true i = 0 then (if 1000000 ≤ i then F.2.1 i else 0) else tS true i := fun i => rfl
  refine h.view x2_9 (Or.inr (Or.inl ?_)) (fun i hi => ?_)
  · rw [CM_sz]
    unfold xE2
    dsimp only
    rw [if_pos rfl]
  have i9 : i ≠ 999999 := fun e => hi (by rw [e]; exact x2_9)
  rcases (show i < 500000 ∨ (500000 ≤ i ∧ i < 1000000) ∨ 1000000 ≤ i by omega) with c | c | c
  · have t0 : tS true i ≠ 0 := fun e => hi (by rw [nty, if_pos e, if_neg (by omega)])
    have t0' : tS false i ≠ 0 := by rw [← tSt c]; exact t0
    have e1 : tyc (shB false) F i = tS false i := if_neg t0'
    refine ⟨?_, fun _ => ?_, fun j _ => ?_⟩
    · rw [cty, if_neg (by omega), e1, nty, if_neg t0, tSt c]
    · rw [cln i i9, if_neg (by omega)]
      show (if tS false i = 0 then _ else nS i) = if tS true i = 0 then _ else nS i
      rw [if_neg t0, if_neg t0']
    · rw [x2_rg (Or.inl c)]
      refine Eq.trans ?_ (fl_rg (sh := shB false) (F := F))
      unfold rget sh0
      dsimp only
      have : (CM (flE (shB false) F) B 356 rsF).1 i j = (flE (shB false) F).1 i j := if_neg (by omega)
      rw [this]
  · have t0 : tS true i ≠ 0 := fun e => hi (by rw [nty, if_pos e, if_neg (by omega)])
    have tm : tS true i = mTl.getD (i - 500000) 0 := by
      unfold tS
      rw [if_neg (by omega), if_pos rfl]
    have hl : i < 500356 := by
      by_cases q : i < 500356
      · exact q
      · exact absurd (by rw [tm]; exact mTl_n (by omega)) t0
    refine ⟨?_, fun _ => ?_, fun j _ => ?_⟩
    · rw [cty, if_pos (by omega), if_pos hl, nty, if_neg t0, tm]
    · rw [cln i i9, if_pos (by omega), if_pos hl]
      show _ = if tS true i = 0 then _ else nS i
      rw [if_neg t0, mNl_d (by omega)]
    · unfold rget sh0
      dsimp only
      have e2 : (xE2 F (B + 357)).1 i j = 0 := if_pos c
      rw [e2]
      show rid ((CM (flE (shB false) F) B 356 rsF).1 i j) = match pS true i j with | some b => .ref b | none => rid 0
      unfold CM pS
      dsimp only
      rw [if_pos (by omega), tm]
      by_cases c7 : mTl.getD (i - 500000) 0 = 107
      · rw [if_pos ⟨hl, c7⟩, if_pos c7, mNl_d (by omega)]
        by_cases cj : j < mNl.getD (i - 500000) 0
        · rw [if_pos cj, if_pos cj]
          rfl
        · rw [if_neg cj, if_neg cj]
      · rw [if_neg (fun q => c7 q.2), if_neg c7, rsF_r c.1]
        cases rlk rTl i j with
        | none => rfl
        | some r => rfl
  · refine ⟨?_, fun _ => ?_, fun j _ => ?_⟩
    · rw [cty, if_neg (by omega), x2_ty c]
    · rw [cln i i9, if_neg (by omega), x2_ln c]
    · rw [x2_rg (Or.inr c)]
      refine Eq.trans ?_ (fl_rg (sh := shB false) (F := F))
      unfold rget sh0
      dsimp only
      have : (CM (flE (shB false) F) B 356 rsF).1 i j = (flE (shB false) F).1 i j := if_neg (by omega)
      rw [this]
end X2

theorem y_M0 {Γ : Gm} {l : Launch} {d : Nat} {J : Iv} {F : Ev} {kr : Kr} {kx : Kxx} (hG : GW Γ) (hk : ∀ L J1 K, MZ J L 356 (fun a => if a = 49 then nI 1 else if a = 46 then -1 else if a = 43 then -1 else if a = 3 then -1 else nI 0) → TRt J1 tn0 → (∀ i, i ≠ 500003 → J1 i = L i) → StJ J1 tn0 K → kr none K (flE shN (xE2 F (Γ.1.2 + 357)))) : Ex Γ l sh0 (d + 4) (355, 97648) mM_init [.ref 500000] (zr J 500000) (CM (flE (shB false) F) Γ.1.2 1 []) kr kx := by
  refine ex_ofI (ls0 := [some (.ref 500000)]) tM_init (by decide +kernel) rfl kM_init rfl (Nat.le_of_ble_eq_true rfl) rfl ?_
  intro go hgo
  have hV0 : TnV tn0 := ⟨by decide, by decide, fun v hv => (by cases hv), by decide, by decide, fun c hc => absurd hc (Nat.not_lt_zero c), fun v hv => absurd hv (Nat.not_lt_zero v), fun v hv => absurd hv (Nat.not_lt_zero v)⟩
  have s312 : ∀ I, MZ J I 356 (fun a => if a = 49 then nI 1 else if a = 46 then -1 else if a = 43 then -1 else if a = 3 then -1 else nI 0) → go 312 [some (.ref 500000)] [] I (CM (flE (shB false) F) Γ.1.2 356 [(500000, 55, 500334), (500000, 54, 500132), (500000, 53, 500131), (500000, 52, 500130), (500000, 51, 500129), (500000, 50, 500128), (500000, 35, 500127), (500000, 34, 500126), (500000, 33, 500125), (500000, 32, 500124), (500000, 31, 500123), (500000, 30, 500119), (500000, 29, 500106), (500000, 28, 500093), (500000, 24, 500092), (500000, 23, 500091), (500000, 22, 500090), (500000, 21, 500089), (500000, 20, 500079), (500000, 19, 500069), (500000, 18, 500068), (500000, 17, 500067), (500000, 16, 500046), (500000, 15, 500025), (500000, 14, 500015), (500000, 13, 500005), (500000, 12, 500004), (500000, 11, 500003), (500000, 10, 500002), (500000, 9, 500001)]) (355, 97648) := by
    intro I hI
    rw [show [(500000, 55, 500334), (500000, 54, 500132), (500000, 53, 500131), (500000, 52, 500130), (500000, 51, 500129), (500000, 50, 500128), (500000, 35, 500127), (500000, 34, 500126), (500000, 33, 500125), (500000, 32, 500124), (500000, 31, 500123), (500000, 30, 500119), (500000, 29, 500106), (500000, 28, 500093), (500000, 24, 500092), (500000, 23, 500091), (500000, 22, 500090), (500000, 21, 500089), (500000, 20, 500079), (500000, 19, 500069), (500000, 18, 500068), (500000, 17, 500067), (500000, 16, 500046), (500000, 15, 500025), (500000, 14, 500015), (500000, 13, 500005), (500000, 12, 500004), (500000, 11, 500003), (500000, 10, 500002), (500000, 9, 500001)] = rsF from rfl]
    refine hgo 20 [316] 312 _ _ _ _ _ ?_
    simp only [ixr_of, run_s, run_0, rM_init, rok_i, rok_z, bx_cons, bx_nil, eBP, eC1, eC2, eC3, eC5, eCV0, eCm1, eLA0, eMNA, eNAI, eNAZ, eOI, ePI, ePRF, ePZ, eRV, eSP, fM_init_0, fM_init_4, fM_init_9, fM_init_18, fM_init_25, fM_init_32, fM_init_39, fM_init_51, fM_init_63, fM_init_74, fM_init_85, fM_init_93, fM_init_101, fM_init_113, fM_init_126, fM_init_134, fM_init_143, fM_init_152, fM_init_160, fM_init_171, fM_init_182, fM_init_194, fM_init_202, fM_init_211, fM_init_220, fM_init_229, fM_init_238, fM_init_243, fM_init_248, fM_init_253, fM_init_262, fM_init_270, fM_init_278, fM_init_286, fM_init_300, fM_init_312, fM_init_316, bM_init_0, bM_init_4, bM_init_9, bM_init_18, bM_init_25, bM_init_32, bM_init_39, bM_init_51, bM_init_63, bM_init_74, bM_init_85, bM_init_93, bM_init_101, bM_init_113, bM_init_126, bM_init_134, bM_init_143, bM_init_152, bM_init_160, bM_init_171, bM_init_182, bM_init_194, bM_init_202, bM_init_211, bM_init_220, bM_init_229, bM_init_238, bM_init_243, bM_init_248, bM_init_253, bM_init_262, bM_init_270, bM_init_278, bM_init_286, bM_init_300, bM_init_312, bM_init_316, ty_m, Option.toList_some, Option.toList_none, List.cons_append, List.nil_append, List.length_cons, List.length_nil, List.mem_cons, List.not_mem_nil, or_false, false_or, or_true, true_or, ↓reduceIte, true_and, and_true, Nat.reduceEqDiff, Nat.reduceAdd, Nat.reduceLeDiff, Nat.reduceLT, dl_i, dl_r, dl_n, dl_u, eq_self, not_true_eq_false, not_false_eq_true, n10, n01, nm0, n0m, imp_t, imp_f]
    refine ⟨CM_t (by omega), call0 (ex_vw (sh' := shN) (E' := xE2 F (Γ.1.2 + 357)) (fun H h => h.m9) (c_tellsNothing (fun J1 t1 t2 => ⟨flE shN (xE2 F (Γ.1.2 + 357)), fun H h => h.fl, ?_⟩)))⟩
    have t9 : tyc sh0 (flE shN (xE2 F (Γ.1.2 + 357))) 500000 = 12 := by rw [fl_ty]; exact ty_m
    simp only [ixr_of, run_s, run_0, rM_init, rok_i, rok_z, bx_cons, bx_nil, eBP, eC1, eC2, eC3, eC5, eCV0, eCm1, eLA0, eMNA, eNAI, eNAZ, eOI, ePI, ePRF, ePZ, eRV, eSP, fM_init_0, fM_init_4, fM_init_9, fM_init_18, fM_init_25, fM_init_32, fM_init_39, fM_init_51, fM_init_63, fM_init_74, fM_init_85, fM_init_93, fM_init_101, fM_init_113, fM_init_126, fM_init_134, fM_init_143, fM_init_152, fM_init_160, fM_init_171, fM_init_182, fM_init_194, fM_init_202, fM_init_211, fM_init_220, fM_init_229, fM_init_238, fM_init_243, fM_init_248, fM_init_253, fM_init_262, fM_init_270, fM_init_278, fM_init_286, fM_init_300, fM_init_312, fM_init_316, bM_init_0, bM_init_4, bM_init_9, bM_init_18, bM_init_25, bM_init_32, bM_init_39, bM_init_51, bM_init_63, bM_init_74, bM_init_85, bM_init_93, bM_init_101, bM_init_113, bM_init_126, bM_init_134, bM_init_143, bM_init_152, bM_init_160, bM_init_171, bM_init_182, bM_init_194, bM_init_202, bM_init_211, bM_init_220, bM_init_229, bM_init_238, bM_init_243, bM_init_248, bM_init_253, bM_init_262, bM_init_270, bM_init_278, bM_init_286, bM_init_300, bM_init_312, bM_init_316, ty_m, Option.toList_some, Option.toList_none, List.cons_append, List.nil_append, List.length_cons, List.length_nil, List.mem_cons, List.not_mem_nil, or_false, false_or, or_true, true_or, ↓reduceIte, true_and, and_true, Nat.reduceEqDiff, Nat.reduceAdd, Nat.reduceLeDiff, Nat.reduceLT, dl_i, dl_r, dl_n, dl_u, eq_self, not_true_eq_false, not_false_eq_true, n10, n01, nm0, n0m, t9, imp_t, imp_f]
    refine hgo 20 [] 316 _ _ _ _ _ ?_
    simp only [ixr_of, run_s, run_0, rM_init, rok_i, rok_z, bx_cons, bx_nil, eBP, eC1, eC2, eC3, eC5, eCV0, eCm1, eLA0, eMNA, eNAI, eNAZ, eOI, ePI, ePRF, ePZ, eRV, eSP, fM_init_0, fM_init_4, fM_init_9, fM_init_18, fM_init_25, fM_init_32, fM_init_39, fM_init_51, fM_init_63, fM_init_74, fM_init_85, fM_init_93, fM_init_101, fM_init_113, fM_init_126, fM_init_134, fM_init_143, fM_init_152, fM_init_160, fM_init_171, fM_init_182, fM_init_194, fM_init_202, fM_init_211, fM_init_220, fM_init_229, fM_init_238, fM_init_243, fM_init_248, fM_init_253, fM_init_262, fM_init_270, fM_init_278, fM_init_286, fM_init_300, fM_init_312, fM_init_316, bM_init_0, bM_init_4, bM_init_9, bM_init_18, bM_init_25, bM_init_32, bM_init_39, bM_init_51, bM_init_63, bM_init_74, bM_init_85, bM_init_93, bM_init_101, bM_init_113, bM_init_126, bM_init_134, bM_init_143, bM_init_152, bM_init_160, bM_init_171, bM_init_182, bM_init_194, bM_init_202, bM_init_211, bM_init_220, bM_init_229, bM_init_238, bM_init_243, bM_init_248, bM_init_253, bM_init_262, bM_init_270, bM_init_278, bM_init_286, bM_init_300, bM_init_312, bM_init_316, ty_m, Option.toList_some, Option.toList_none, List.cons_append, List.nil_append, List.length_cons, List.length_nil, List.mem_cons, List.not_mem_nil, or_false, false_or, or_true, true_or, ↓reduceIte, true_and, and_true, Nat.reduceEqDiff, Nat.reduceAdd, Nat.reduceLeDiff, Nat.reduceLT, dl_i, dl_r, dl_n, dl_u, eq_self, not_true_eq_false, not_false_eq_true, n10, n01, nm0, n0m, t9, imp_t, imp_f]
    refine call0 (ex_vw (sh' := shN) (E' := xE2 F (Γ.1.2 + 357)) (fun H h => h.unf) (c_stands hV0 t1 (fun K hK => ⟨flE shN (xE2 F (Γ.1.2 + 357)), fun H h => h.fl, ?_⟩)))
    simp only [ixr_of, run_s, run_0, rM_init, rok_i, rok_z, bx_cons, bx_nil, eBP, eC1, eC2, eC3, eC5, eCV0, eCm1, eLA0, eMNA, eNAI, eNAZ, eOI, ePI, ePRF, ePZ, eRV, eSP, fM_init_0, fM_init_4, fM_init_9, fM_init_18, fM_init_25, fM_init_32, fM_init_39, fM_init_51, fM_init_63, fM_init_74, fM_init_85, fM_init_93, fM_init_101, fM_init_113, fM_init_126, fM_init_134, fM_init_143, fM_init_152, fM_init_160, fM_init_171, fM_init_182, fM_init_194, fM_init_202, fM_init_211, fM_init_220, fM_init_229, fM_init_238, fM_init_243, fM_init_248, fM_init_253, fM_init_262, fM_init_270, fM_init_278, fM_init_286, fM_init_300, fM_init_312, fM_init_316, bM_init_0, bM_init_4, bM_init_9, bM_init_18, bM_init_25, bM_init_32, bM_init_39, bM_init_51, bM_init_63, bM_init_74, bM_init_85, bM_init_93, bM_init_101, bM_init_113, bM_init_126, bM_init_134, bM_init_143, bM_init_152, bM_init_160, bM_init_171, bM_init_182, bM_init_194, bM_init_202, bM_init_211, bM_init_220, bM_init_229, bM_init_238, bM_init_243, bM_init_248, bM_init_253, bM_init_262, bM_init_270, bM_init_278, bM_init_286, bM_init_300, bM_init_312, bM_init_316, ty_m, Option.toList_some, Option.toList_none, List.cons_append, List.nil_append, List.length_cons, List.length_nil, List.mem_cons, List.not_mem_nil, or_false, false_or, or_true, true_or, ↓reduceIte, true_and, and_true, Nat.reduceEqDiff, Nat.reduceAdd, Nat.reduceLeDiff, Nat.reduceLT, dl_i, dl_r, dl_n, dl_u, eq_self, not_true_eq_false, not_false_eq_true, n10, n01, nm0, n0m, imp_t, imp_f]
    exact hk I J1 K hI t1 t2 hK
  have s300 : ∀ I, MZ J I 334 (fun a => if a = 49 then nI 1 else if a = 46 then -1 else if a = 43 then -1 else if a = 3 then -1 else nI 0) → go 300 [some (.ref 500000)] [] I (CM (flE (shB false) F) Γ.1.2 334 [(500000, 54, 500132), (500000, 53, 500131), (500000, 52, 500130), (500000, 51, 500129), (500000, 50, 500128), (500000, 35, 500127), (500000, 34, 500126), (500000, 33, 500125), (500000, 32, 500124), (500000, 31, 500123), (500000, 30, 500119), (500000, 29, 500106), (500000, 28, 500093), (500000, 24, 500092), (500000, 23, 500091), (500000, 22, 500090), (500000, 21, 500089), (500000, 20, 500079), (500000, 19, 500069), (500000, 18, 500068), (500000, 17, 500067), (500000, 16, 500046), (500000, 15, 500025), (500000, 14, 500015), (500000, 13, 500005), (500000, 12, 500004), (500000, 11, 500003), (500000, 10, 500002), (500000, 9, 500001)]) (333, 97438) := by
    intro I hI
    refine hgo 20 [312] 300 _ _ _ _ _ ?_
    simp only [ixr_of, run_s, run_0, rM_init, rok_i, rok_z, bx_cons, bx_nil, eBP, eC1, eC2, eC3, eC5, eCV0, eCm1, eLA0, eMNA, eNAI, eNAZ, eOI, ePI, ePRF, ePZ, eRV, eSP, fM_init_0, fM_init_4, fM_init_9, fM_init_18, fM_init_25, fM_init_32, fM_init_39, fM_init_51, fM_init_63, fM_init_74, fM_init_85, fM_init_93, fM_init_101, fM_init_113, fM_init_126, fM_init_134, fM_init_143, fM_init_152, fM_init_160, fM_init_171, fM_init_182, fM_init_194, fM_init_202, fM_init_211, fM_init_220, fM_init_229, fM_init_238, fM_init_243, fM_init_248, fM_init_253, fM_init_262, fM_init_270, fM_init_278, fM_init_286, fM_init_300, fM_init_312, fM_init_316, bM_init_0, bM_init_4, bM_init_9, bM_init_18, bM_init_25, bM_init_32, bM_init_39, bM_init_51, bM_init_63, bM_init_74, bM_init_85, bM_init_93, bM_init_101, bM_init_113, bM_init_126, bM_init_134, bM_init_143, bM_init_152, bM_init_160, bM_init_171, bM_init_182, bM_init_194, bM_init_202, bM_init_211, bM_init_220, bM_init_229, bM_init_238, bM_init_243, bM_init_248, bM_init_253, bM_init_262, bM_init_270, bM_init_278, bM_init_286, bM_init_300, bM_init_312, bM_init_316, ty_m, Option.toList_some, Option.toList_none, List.cons_append, List.nil_append, List.length_cons, List.length_nil, List.mem_cons, List.not_mem_nil, or_false, false_or, or_true, true_or, ↓reduceIte, true_and, and_true, Nat.reduceEqDiff, Nat.reduceAdd, Nat.reduceLeDiff, Nat.reduceLT, dl_i, dl_r, dl_n, dl_u, eq_self, not_true_eq_false, not_false_eq_true, n10, n01, nm0, n0m, imp_t, imp_f]
    refine ⟨hG, 21, 9, rfl, rfl, ?_⟩
    repeat (refine ⟨by decide, ?_⟩)
    intro b hs _
    rw [CM_sz] at hs
    have hb : b = Γ.1.2 + 334 := by omega
    subst hb
    refine ⟨500334, by omega, fun j hj => (by rw [show 500334 + j = 500000 + (334 + j) by omega, ad_m (by omega)]; omega), fun _ => rfl, fun _ => ?_⟩
    rw [CM_mk2 (k := 334) (k' := 356) rfl rfl (by omega) (by decide +kernel) (by decide +kernel) (by decide +kernel) (fun a c h => rl_f (y := 500001) (by decide +kernel) (by omega))]
    refine ⟨CM_t (by omega), rfl, ?_⟩
    rw [CM_up]
    exact s312 _ ((hI).z2 500334 21 356 rfl rfl (by omega))
  have s286 : ∀ I, MZ J I 132 (fun a => if a = 49 then nI 1 else if a = 46 then -1 else if a = 43 then -1 else if a = 3 then -1 else nI 0) → go 286 [some (.ref 500000)] [] I (CM (flE (shB false) F) Γ.1.2 132 [(500000, 53, 500131), (500000, 52, 500130), (500000, 51, 500129), (500000, 50, 500128), (500000, 35, 500127), (500000, 34, 500126), (500000, 33, 500125), (500000, 32, 500124), (500000, 31, 500123), (500000, 30, 500119), (500000, 29, 500106), (500000, 28, 500093), (500000, 24, 500092), (500000, 23, 500091), (500000, 22, 500090), (500000, 21, 500089), (500000, 20, 500079), (500000, 19, 500069), (500000, 18, 500068), (500000, 17, 500067), (500000, 16, 500046), (500000, 15, 500025), (500000, 14, 500015), (500000, 13, 500005), (500000, 12, 500004), (500000, 11, 500003), (500000, 10, 500002), (500000, 9, 500001)]) (131, 8596) := by
    intro I hI
    refine hgo 20 [300] 286 _ _ _ _ _ ?_
    simp only [ixr_of, run_s, run_0, rM_init, rok_i, rok_z, bx_cons, bx_nil, eBP, eC1, eC2, eC3, eC5, eCV0, eCm1, eLA0, eMNA, eNAI, eNAZ, eOI, ePI, ePRF, ePZ, eRV, eSP, fM_init_0, fM_init_4, fM_init_9, fM_init_18, fM_init_25, fM_init_32, fM_init_39, fM_init_51, fM_init_63, fM_init_74, fM_init_85, fM_init_93, fM_init_101, fM_init_113, fM_init_126, fM_init_134, fM_init_143, fM_init_152, fM_init_160, fM_init_171, fM_init_182, fM_init_194, fM_init_202, fM_init_211, fM_init_220, fM_init_229, fM_init_238, fM_init_243, fM_init_248, fM_init_253, fM_init_262, fM_init_270, fM_init_278, fM_init_286, fM_init_300, fM_init_312, fM_init_316, bM_init_0, bM_init_4, bM_init_9, bM_init_18, bM_init_25, bM_init_32, bM_init_39, bM_init_51, bM_init_63, bM_init_74, bM_init_85, bM_init_93, bM_init_101, bM_init_113, bM_init_126, bM_init_134, bM_init_143, bM_init_152, bM_init_160, bM_init_171, bM_init_182, bM_init_194, bM_init_202, bM_init_211, bM_init_220, bM_init_229, bM_init_238, bM_init_243, bM_init_248, bM_init_253, bM_init_262, bM_init_270, bM_init_278, bM_init_286, bM_init_300, bM_init_312, bM_init_316, ty_m, Option.toList_some, Option.toList_none, List.cons_append, List.nil_append, List.length_cons, List.length_nil, List.mem_cons, List.not_mem_nil, or_false, false_or, or_true, true_or, ↓reduceIte, true_and, and_true, Nat.reduceEqDiff, Nat.reduceAdd, Nat.reduceLeDiff, Nat.reduceLT, dl_i, dl_r, dl_n, dl_u, eq_self, not_true_eq_false, not_false_eq_true, n10, n01, nm0, n0m, imp_t, imp_f]
    refine ⟨hG, 201, 441, rfl, rfl, ?_⟩
    repeat (refine ⟨by decide, ?_⟩)
    intro b hs _
    rw [CM_sz] at hs
    have hb : b = Γ.1.2 + 132 := by omega
    subst hb
    refine ⟨500132, by omega, fun j hj => (by rw [show 500132 + j = 500000 + (132 + j) by omega, ad_m (by omega)]; omega), fun _ => rfl, fun _ => ?_⟩
    rw [CM_mk2 (k := 132) (k' := 334) rfl rfl (by omega) (by decide +kernel) (by decide +kernel) (by decide +kernel) (fun a c h => rl_f (y := 500001) (by decide +kernel) (by omega))]
    refine ⟨CM_t (by omega), rfl, ?_⟩
    rw [CM_up]
    exact s300 _ ((hI).z2 500132 201 334 rfl rfl (by omega))
  have s278 : ∀ I, MZ J I 131 (fun a => if a = 49 then nI 1 else if a = 46 then -1 else if a = 43 then -1 else if a = 3 then -1 else nI 0) → go 278 [some (.ref 500000)] [] I (CM (flE (shB false) F) Γ.1.2 131 [(500000, 52, 500130), (500000, 51, 500129), (500000, 50, 500128), (500000, 35, 500127), (500000, 34, 500126), (500000, 33, 500125), (500000, 32, 500124), (500000, 31, 500123), (500000, 30, 500119), (500000, 29, 500106), (500000, 28, 500093), (500000, 24, 500092), (500000, 23, 500091), (500000, 22, 500090), (500000, 21, 500089), (500000, 20, 500079), (500000, 19, 500069), (500000, 18, 500068), (500000, 17, 500067), (500000, 16, 500046), (500000, 15, 500025), (500000, 14, 500015), (500000, 13, 500005), (500000, 12, 500004), (500000, 11, 500003), (500000, 10, 500002), (500000, 9, 500001)]) (130, 8587) := by
    intro I hI
    refine hgo 20 [286] 278 _ _ _ _ _ ?_
    simp only [ixr_of, run_s, run_0, rM_init, rok_i, rok_z, bx_cons, bx_nil, eBP, eC1, eC2, eC3, eC5, eCV0, eCm1, eLA0, eMNA, eNAI, eNAZ, eOI, ePI, ePRF, ePZ, eRV, eSP, fM_init_0, fM_init_4, fM_init_9, fM_init_18, fM_init_25, fM_init_32, fM_init_39, fM_init_51, fM_init_63, fM_init_74, fM_init_85, fM_init_93, fM_init_101, fM_init_113, fM_init_126, fM_init_134, fM_init_143, fM_init_152, fM_init_160, fM_init_171, fM_init_182, fM_init_194, fM_init_202, fM_init_211, fM_init_220, fM_init_229, fM_init_238, fM_init_243, fM_init_248, fM_init_253, fM_init_262, fM_init_270, fM_init_278, fM_init_286, fM_init_300, fM_init_312, fM_init_316, bM_init_0, bM_init_4, bM_init_9, bM_init_18, bM_init_25, bM_init_32, bM_init_39, bM_init_51, bM_init_63, bM_init_74, bM_init_85, bM_init_93, bM_init_101, bM_init_113, bM_init_126, bM_init_134, bM_init_143, bM_init_152, bM_init_160, bM_init_171, bM_init_182, bM_init_194, bM_init_202, bM_init_211, bM_init_220, bM_init_229, bM_init_238, bM_init_243, bM_init_248, bM_init_253, bM_init_262, bM_init_270, bM_init_278, bM_init_286, bM_init_300, bM_init_312, bM_init_316, ty_m, Option.toList_some, Option.toList_none, List.cons_append, List.nil_append, List.length_cons, List.length_nil, List.mem_cons, List.not_mem_nil, or_false, false_or, or_true, true_or, ↓reduceIte, true_and, and_true, Nat.reduceEqDiff, Nat.reduceAdd, Nat.reduceLeDiff, Nat.reduceLT, dl_i, dl_r, dl_n, dl_u, eq_self, not_true_eq_false, not_false_eq_true, n10, n01, nm0, n0m, imp_t, imp_f]
    refine ⟨9, rfl, ?_⟩
    repeat (refine ⟨by decide, ?_⟩)
    intro b hs _
    rw [CM_sz] at hs
    have hb : b = Γ.1.2 + 131 := by omega
    subst hb
    refine ⟨500131, by omega, ad_m (k := 131) (by omega), fun _ => ?_⟩
    rw [CM_mk (k := 131) (k' := 132) rfl rfl (by omega) (by decide +kernel) (by decide) (by decide +kernel) (fun j => rl_f (y := 500001) (by decide +kernel) (by omega))]
    refine ⟨CM_t (by omega), rfl, ?_⟩
    rw [CM_up]
    exact s286 _ ((hI).z 500131 132 rfl rfl (by omega))
  have s270 : ∀ I, MZ J I 130 (fun a => if a = 49 then nI 1 else if a = 46 then -1 else if a = 43 then -1 else if a = 3 then -1 else nI 0) → go 270 [some (.ref 500000)] [] I (CM (flE (shB false) F) Γ.1.2 130 [(500000, 51, 500129), (500000, 50, 500128), (500000, 35, 500127), (500000, 34, 500126), (500000, 33, 500125), (500000, 32, 500124), (500000, 31, 500123), (500000, 30, 500119), (500000, 29, 500106), (500000, 28, 500093), (500000, 24, 500092), (500000, 23, 500091), (500000, 22, 500090), (500000, 21, 500089), (500000, 20, 500079), (500000, 19, 500069), (500000, 18, 500068), (500000, 17, 500067), (500000, 16, 500046), (500000, 15, 500025), (500000, 14, 500015), (500000, 13, 500005), (500000, 12, 500004), (500000, 11, 500003), (500000, 10, 500002), (500000, 9, 500001)]) (129, 8487) := by
    intro I hI
    refine hgo 20 [278] 270 _ _ _ _ _ ?_
    simp only [ixr_of, run_s, run_0, rM_init, rok_i, rok_z, bx_cons, bx_nil, eBP, eC1, eC2, eC3, eC5, eCV0, eCm1, eLA0, eMNA, eNAI, eNAZ, eOI, ePI, ePRF, ePZ, eRV, eSP, fM_init_0, fM_init_4, fM_init_9, fM_init_18, fM_init_25, fM_init_32, fM_init_39, fM_init_51, fM_init_63, fM_init_74, fM_init_85, fM_init_93, fM_init_101, fM_init_113, fM_init_126, fM_init_134, fM_init_143, fM_init_152, fM_init_160, fM_init_171, fM_init_182, fM_init_194, fM_init_202, fM_init_211, fM_init_220, fM_init_229, fM_init_238, fM_init_243, fM_init_248, fM_init_253, fM_init_262, fM_init_270, fM_init_278, fM_init_286, fM_init_300, fM_init_312, fM_init_316, bM_init_0, bM_init_4, bM_init_9, bM_init_18, bM_init_25, bM_init_32, bM_init_39, bM_init_51, bM_init_63, bM_init_74, bM_init_85, bM_init_93, bM_init_101, bM_init_113, bM_init_126, bM_init_134, bM_init_143, bM_init_152, bM_init_160, bM_init_171, bM_init_182, bM_init_194, bM_init_202, bM_init_211, bM_init_220, bM_init_229, bM_init_238, bM_init_243, bM_init_248, bM_init_253, bM_init_262, bM_init_270, bM_init_278, bM_init_286, bM_init_300, bM_init_312, bM_init_316, ty_m, Option.toList_some, Option.toList_none, List.cons_append, List.nil_append, List.length_cons, List.length_nil, List.mem_cons, List.not_mem_nil, or_false, false_or, or_true, true_or, ↓reduceIte, true_and, and_true, Nat.reduceEqDiff, Nat.reduceAdd, Nat.reduceLeDiff, Nat.reduceLT, dl_i, dl_r, dl_n, dl_u, eq_self, not_true_eq_false, not_false_eq_true, n10, n01, nm0, n0m, imp_t, imp_f]
    refine ⟨100, rfl, ?_⟩
    repeat (refine ⟨by decide, ?_⟩)
    intro b hs _
    rw [CM_sz] at hs
    have hb : b = Γ.1.2 + 130 := by omega
    subst hb
    refine ⟨500130, by omega, ad_m (k := 130) (by omega), fun _ => ?_⟩
    rw [CM_mk (k := 130) (k' := 131) rfl rfl (by omega) (by decide +kernel) (by decide) (by decide +kernel) (fun j => rl_f (y := 500001) (by decide +kernel) (by omega))]
    refine ⟨CM_t (by omega), rfl, ?_⟩
    rw [CM_up]
    exact s278 _ ((hI).z 500130 131 rfl rfl (by omega))
  have s262 : ∀ I, MZ J I 129 (fun a => if a = 49 then nI 1 else if a = 46 then -1 else if a = 43 then -1 else if a = 3 then -1 else nI 0) → go 262 [some (.ref 500000)] [] I (CM (flE (shB false) F) Γ.1.2 129 [(500000, 50, 500128), (500000, 35, 500127), (500000, 34, 500126), (500000, 33, 500125), (500000, 32, 500124), (500000, 31, 500123), (500000, 30, 500119), (500000, 29, 500106), (500000, 28, 500093), (500000, 24, 500092), (500000, 23, 500091), (500000, 22, 500090), (500000, 21, 500089), (500000, 20, 500079), (500000, 19, 500069), (500000, 18, 500068), (500000, 17, 500067), (500000, 16, 500046), (500000, 15, 500025), (500000, 14, 500015), (500000, 13, 500005), (500000, 12, 500004), (500000, 11, 500003), (500000, 10, 500002), (500000, 9, 500001)]) (128, 8460) := by
    intro I hI
    refine hgo 20 [270] 262 _ _ _ _ _ ?_
    simp only [ixr_of, run_s, run_0, rM_init, rok_i, rok_z, bx_cons, bx_nil, eBP, eC1, eC2, eC3, eC5, eCV0, eCm1, eLA0, eMNA, eNAI, eNAZ, eOI, ePI, ePRF, ePZ, eRV, eSP, fM_init_0, fM_init_4, fM_init_9, fM_init_18, fM_init_25, fM_init_32, fM_init_39, fM_init_51, fM_init_63, fM_init_74, fM_init_85, fM_init_93, fM_init_101, fM_init_113, fM_init_126, fM_init_134, fM_init_143, fM_init_152, fM_init_160, fM_init_171, fM_init_182, fM_init_194, fM_init_202, fM_init_211, fM_init_220, fM_init_229, fM_init_238, fM_init_243, fM_init_248, fM_init_253, fM_init_262, fM_init_270, fM_init_278, fM_init_286, fM_init_300, fM_init_312, fM_init_316, bM_init_0, bM_init_4, bM_init_9, bM_init_18, bM_init_25, bM_init_32, bM_init_39, bM_init_51, bM_init_63, bM_init_74, bM_init_85, bM_init_93, bM_init_101, bM_init_113, bM_init_126, bM_init_134, bM_init_143, bM_init_152, bM_init_160, bM_init_171, bM_init_182, bM_init_194, bM_init_202, bM_init_211, bM_init_220, bM_init_229, bM_init_238, bM_init_243, bM_init_248, bM_init_253, bM_init_262, bM_init_270, bM_init_278, bM_init_286, bM_init_300, bM_init_312, bM_init_316, ty_m, Option.toList_some, Option.toList_none, List.cons_append, List.nil_append, List.length_cons, List.length_nil, List.mem_cons, List.not_mem_nil, or_false, false_or, or_true, true_or, ↓reduceIte, true_and, and_true, Nat.reduceEqDiff, Nat.reduceAdd, Nat.reduceLeDiff, Nat.reduceLT, dl_i, dl_r, dl_n, dl_u, eq_self, not_true_eq_false, not_false_eq_true, n10, n01, nm0, n0m, imp_t, imp_f]
    refine ⟨27, rfl, ?_⟩
    repeat (refine ⟨by decide, ?_⟩)
    intro b hs _
    rw [CM_sz] at hs
    have hb : b = Γ.1.2 + 129 := by omega
    subst hb
    refine ⟨500129, by omega, ad_m (k := 129) (by omega), fun _ => ?_⟩
    rw [CM_mk (k := 129) (k' := 130) rfl rfl (by omega) (by decide +kernel) (by decide) (by decide +kernel) (fun j => rl_f (y := 500001) (by decide +kernel) (by omega))]
    refine ⟨CM_t (by omega), rfl, ?_⟩
    rw [CM_up]
    exact s270 _ ((hI).z 500129 130 rfl rfl (by omega))
  have s253 : ∀ I, MZ J I 128 (fun a => if a = 49 then nI 1 else if a = 46 then -1 else if a = 43 then -1 else if a = 3 then -1 else nI 0) → go 253 [some (.ref 500000)] [] I (CM (flE (shB false) F) Γ.1.2 128 [(500000, 35, 500127), (500000, 34, 500126), (500000, 33, 500125), (500000, 32, 500124), (500000, 31, 500123), (500000, 30, 500119), (500000, 29, 500106), (500000, 28, 500093), (500000, 24, 500092), (500000, 23, 500091), (500000, 22, 500090), (500000, 21, 500089), (500000, 20, 500079), (500000, 19, 500069), (500000, 18, 500068), (500000, 17, 500067), (500000, 16, 500046), (500000, 15, 500025), (500000, 14, 500015), (500000, 13, 500005), (500000, 12, 500004), (500000, 11, 500003), (500000, 10, 500002), (500000, 9, 500001)]) (127, 8208) := by
    intro I hI
    refine hgo 20 [262] 253 _ _ _ _ _ ?_
    simp only [ixr_of, run_s, run_0, rM_init, rok_i, rok_z, bx_cons, bx_nil, eBP, eC1, eC2, eC3, eC5, eCV0, eCm1, eLA0, eMNA, eNAI, eNAZ, eOI, ePI, ePRF, ePZ, eRV, eSP, fM_init_0, fM_init_4, fM_init_9, fM_init_18, fM_init_25, fM_init_32, fM_init_39, fM_init_51, fM_init_63, fM_init_74, fM_init_85, fM_init_93, fM_init_101, fM_init_113, fM_init_126, fM_init_134, fM_init_143, fM_init_152, fM_init_160, fM_init_171, fM_init_182, fM_init_194, fM_init_202, fM_init_211, fM_init_220, fM_init_229, fM_init_238, fM_init_243, fM_init_248, fM_init_253, fM_init_262, fM_init_270, fM_init_278, fM_init_286, fM_init_300, fM_init_312, fM_init_316, bM_init_0, bM_init_4, bM_init_9, bM_init_18, bM_init_25, bM_init_32, bM_init_39, bM_init_51, bM_init_63, bM_init_74, bM_init_85, bM_init_93, bM_init_101, bM_init_113, bM_init_126, bM_init_134, bM_init_143, bM_init_152, bM_init_160, bM_init_171, bM_init_182, bM_init_194, bM_init_202, bM_init_211, bM_init_220, bM_init_229, bM_init_238, bM_init_243, bM_init_248, bM_init_253, bM_init_262, bM_init_270, bM_init_278, bM_init_286, bM_init_300, bM_init_312, bM_init_316, ty_m, Option.toList_some, Option.toList_none, List.cons_append, List.nil_append, List.length_cons, List.length_nil, List.mem_cons, List.not_mem_nil, or_false, false_or, or_true, true_or, ↓reduceIte, true_and, and_true, Nat.reduceEqDiff, Nat.reduceAdd, Nat.reduceLeDiff, Nat.reduceLT, dl_i, dl_r, dl_n, dl_u, eq_self, not_true_eq_false, not_false_eq_true, n10, n01, nm0, n0m, imp_t, imp_f]
    refine ⟨252, rfl, ?_⟩
    repeat (refine ⟨by decide, ?_⟩)
    intro b hs _
    rw [CM_sz] at hs
    have hb : b = Γ.1.2 + 128 := by omega
    subst hb
    refine ⟨500128, by omega, ad_m (k := 128) (by omega), fun _ => ?_⟩
    rw [CM_mk (k := 128) (k' := 129) rfl rfl (by omega) (by decide +kernel) (by decide) (by decide +kernel) (fun j => rl_f (y := 500001) (by decide +kernel) (by omega))]
    refine ⟨CM_t (by omega), rfl, ?_⟩
    rw [CM_up]
    exact s262 _ ((hI).z 500128 129 rfl rfl (by omega))
  have s248 : ∀ I, MZ J I 128 (fun a => if a = 46 then -1 else if a = 43 then -1 else if a = 3 then -1 else nI 0) → go 248 [some (.ref 500000)] [] I (CM (flE (shB false) F) Γ.1.2 128 [(500000, 35, 500127), (500000, 34, 500126), (500000, 33, 500125), (500000, 32, 500124), (500000, 31, 500123), (500000, 30, 500119), (500000, 29, 500106), (500000, 28, 500093), (500000, 24, 500092), (500000, 23, 500091), (500000, 22, 500090), (500000, 21, 500089), (500000, 20, 500079), (500000, 19, 500069), (500000, 18, 500068), (500000, 17, 500067), (500000, 16, 500046), (500000, 15, 500025), (500000, 14, 500015), (500000, 13, 500005), (500000, 12, 500004), (500000, 11, 500003), (500000, 10, 500002), (500000, 9, 500001)]) (127, 8208) := by
    intro I hI
    have tY : tyc sh0 (CM (flE (shB false) F) Γ.1.2 128 [(500000, 35, 500127), (500000, 34, 500126), (500000, 33, 500125), (500000, 32, 500124), (500000, 31, 500123), (500000, 30, 500119), (500000, 29, 500106), (500000, 28, 500093), (500000, 24, 500092), (500000, 23, 500091), (500000, 22, 500090), (500000, 21, 500089), (500000, 20, 500079), (500000, 19, 500069), (500000, 18, 500068), (500000, 17, 500067), (500000, 16, 500046), (500000, 15, 500025), (500000, 14, 500015), (500000, 13, 500005), (500000, 12, 500004), (500000, 11, 500003), (500000, 10, 500002), (500000, 9, 500001)]) 500000 = 12 := CM_t (by omega)
    refine hgo 20 [253] 248 _ _ _ _ _ ?_
    simp only [ixr_of, run_s, run_0, rM_init, rok_i, rok_z, bx_cons, bx_nil, eBP, eC1, eC2, eC3, eC5, eCV0, eCm1, eLA0, eMNA, eNAI, eNAZ, eOI, ePI, ePRF, ePZ, eRV, eSP, fM_init_0, fM_init_4, fM_init_9, fM_init_18, fM_init_25, fM_init_32, fM_init_39, fM_init_51, fM_init_63, fM_init_74, fM_init_85, fM_init_93, fM_init_101, fM_init_113, fM_init_126, fM_init_134, fM_init_143, fM_init_152, fM_init_160, fM_init_171, fM_init_182, fM_init_194, fM_init_202, fM_init_211, fM_init_220, fM_init_229, fM_init_238, fM_init_243, fM_init_248, fM_init_253, fM_init_262, fM_init_270, fM_init_278, fM_init_286, fM_init_300, fM_init_312, fM_init_316, bM_init_0, bM_init_4, bM_init_9, bM_init_18, bM_init_25, bM_init_32, bM_init_39, bM_init_51, bM_init_63, bM_init_74, bM_init_85, bM_init_93, bM_init_101, bM_init_113, bM_init_126, bM_init_134, bM_init_143, bM_init_152, bM_init_160, bM_init_171, bM_init_182, bM_init_194, bM_init_202, bM_init_211, bM_init_220, bM_init_229, bM_init_238, bM_init_243, bM_init_248, bM_init_253, bM_init_262, bM_init_270, bM_init_278, bM_init_286, bM_init_300, bM_init_312, bM_init_316, ty_m, Option.toList_some, Option.toList_none, List.cons_append, List.nil_append, List.length_cons, List.length_nil, List.mem_cons, List.not_mem_nil, or_false, false_or, or_true, true_or, ↓reduceIte, true_and, and_true, Nat.reduceEqDiff, Nat.reduceAdd, Nat.reduceLeDiff, Nat.reduceLT, dl_i, dl_r, dl_n, dl_u, eq_self, not_true_eq_false, not_false_eq_true, n10, n01, nm0, n0m, tY, imp_t, imp_f]
    exact s253 _ ((hI).up 49 (nI 1))
  have s243 : ∀ I, MZ J I 128 (fun a => if a = 43 then -1 else if a = 3 then -1 else nI 0) → go 243 [some (.ref 500000)] [] I (CM (flE (shB false) F) Γ.1.2 128 [(500000, 35, 500127), (500000, 34, 500126), (500000, 33, 500125), (500000, 32, 500124), (500000, 31, 500123), (500000, 30, 500119), (500000, 29, 500106), (500000, 28, 500093), (500000, 24, 500092), (500000, 23, 500091), (500000, 22, 500090), (500000, 21, 500089), (500000, 20, 500079), (500000, 19, 500069), (500000, 18, 500068), (500000, 17, 500067), (500000, 16, 500046), (500000, 15, 500025), (500000, 14, 500015), (500000, 13, 500005), (500000, 12, 500004), (500000, 11, 500003), (500000, 10, 500002), (500000, 9, 500001)]) (127, 8208) := by
    intro I hI
    have tY : tyc sh0 (CM (flE (shB false) F) Γ.1.2 128 [(500000, 35, 500127), (500000, 34, 500126), (500000, 33, 500125), (500000, 32, 500124), (500000, 31, 500123), (500000, 30, 500119), (500000, 29, 500106), (500000, 28, 500093), (500000, 24, 500092), (500000, 23, 500091), (500000, 22, 500090), (500000, 21, 500089), (500000, 20, 500079), (500000, 19, 500069), (500000, 18, 500068), (500000, 17, 500067), (500000, 16, 500046), (500000, 15, 500025), (500000, 14, 500015), (500000, 13, 500005), (500000, 12, 500004), (500000, 11, 500003), (500000, 10, 500002), (500000, 9, 500001)]) 500000 = 12 := CM_t (by omega)
    refine hgo 20 [248] 243 _ _ _ _ _ ?_
    simp only [ixr_of, run_s, run_0, rM_init, rok_i, rok_z, bx_cons, bx_nil, eBP, eC1, eC2, eC3, eC5, eCV0, eCm1, eLA0, eMNA, eNAI, eNAZ, eOI, ePI, ePRF, ePZ, eRV, eSP, fM_init_0, fM_init_4, fM_init_9, fM_init_18, fM_init_25, fM_init_32, fM_init_39, fM_init_51, fM_init_63, fM_init_74, fM_init_85, fM_init_93, fM_init_101, fM_init_113, fM_init_126, fM_init_134, fM_init_143, fM_init_152, fM_init_160, fM_init_171, fM_init_182, fM_init_194, fM_init_202, fM_init_211, fM_init_220, fM_init_229, fM_init_238, fM_init_243, fM_init_248, fM_init_253, fM_init_262, fM_init_270, fM_init_278, fM_init_286, fM_init_300, fM_init_312, fM_init_316, bM_init_0, bM_init_4, bM_init_9, bM_init_18, bM_init_25, bM_init_32, bM_init_39, bM_init_51, bM_init_63, bM_init_74, bM_init_85, bM_init_93, bM_init_101, bM_init_113, bM_init_126, bM_init_134, bM_init_143, bM_init_152, bM_init_160, bM_init_171, bM_init_182, bM_init_194, bM_init_202, bM_init_211, bM_init_220, bM_init_229, bM_init_238, bM_init_243, bM_init_248, bM_init_253, bM_init_262, bM_init_270, bM_init_278, bM_init_286, bM_init_300, bM_init_312, bM_init_316, ty_m, Option.toList_some, Option.toList_none, List.cons_append, List.nil_append, List.length_cons, List.length_nil, List.mem_cons, List.not_mem_nil, or_false, false_or, or_true, true_or, ↓reduceIte, true_and, and_true, Nat.reduceEqDiff, Nat.reduceAdd, Nat.reduceLeDiff, Nat.reduceLT, dl_i, dl_r, dl_n, dl_u, eq_self, not_true_eq_false, not_false_eq_true, n10, n01, nm0, n0m, tY, imp_t, imp_f]
    exact s248 _ ((hI).up 46 (-1))
  have s238 : ∀ I, MZ J I 128 (fun a => if a = 3 then -1 else nI 0) → go 238 [some (.ref 500000)] [] I (CM (flE (shB false) F) Γ.1.2 128 [(500000, 35, 500127), (500000, 34, 500126), (500000, 33, 500125), (500000, 32, 500124), (500000, 31, 500123), (500000, 30, 500119), (500000, 29, 500106), (500000, 28, 500093), (500000, 24, 500092), (500000, 23, 500091), (500000, 22, 500090), (500000, 21, 500089), (500000, 20, 500079), (500000, 19, 500069), (500000, 18, 500068), (500000, 17, 500067), (500000, 16, 500046), (500000, 15, 500025), (500000, 14, 500015), (500000, 13, 500005), (500000, 12, 500004), (500000, 11, 500003), (500000, 10, 500002), (500000, 9, 500001)]) (127, 8208) := by
    intro I hI
    have tY : tyc sh0 (CM (flE (shB false) F) Γ.1.2 128 [(500000, 35, 500127), (500000, 34, 500126), (500000, 33, 500125), (500000, 32, 500124), (500000, 31, 500123), (500000, 30, 500119), (500000, 29, 500106), (500000, 28, 500093), (500000, 24, 500092), (500000, 23, 500091), (500000, 22, 500090), (500000, 21, 500089), (500000, 20, 500079), (500000, 19, 500069), (500000, 18, 500068), (500000, 17, 500067), (500000, 16, 500046), (500000, 15, 500025), (500000, 14, 500015), (500000, 13, 500005), (500000, 12, 500004), (500000, 11, 500003), (500000, 10, 500002), (500000, 9, 500001)]) 500000 = 12 := CM_t (by omega)
    refine hgo 20 [243] 238 _ _ _ _ _ ?_
    simp only [ixr_of, run_s, run_0, rM_init, rok_i, rok_z, bx_cons, bx_nil, eBP, eC1, eC2, eC3, eC5, eCV0, eCm1, eLA0, eMNA, eNAI, eNAZ, eOI, ePI, ePRF, ePZ, eRV, eSP, fM_init_0, fM_init_4, fM_init_9, fM_init_18, fM_init_25, fM_init_32, fM_init_39, fM_init_51, fM_init_63, fM_init_74, fM_init_85, fM_init_93, fM_init_101, fM_init_113, fM_init_126, fM_init_134, fM_init_143, fM_init_152, fM_init_160, fM_init_171, fM_init_182, fM_init_194, fM_init_202, fM_init_211, fM_init_220, fM_init_229, fM_init_238, fM_init_243, fM_init_248, fM_init_253, fM_init_262, fM_init_270, fM_init_278, fM_init_286, fM_init_300, fM_init_312, fM_init_316, bM_init_0, bM_init_4, bM_init_9, bM_init_18, bM_init_25, bM_init_32, bM_init_39, bM_init_51, bM_init_63, bM_init_74, bM_init_85, bM_init_93, bM_init_101, bM_init_113, bM_init_126, bM_init_134, bM_init_143, bM_init_152, bM_init_160, bM_init_171, bM_init_182, bM_init_194, bM_init_202, bM_init_211, bM_init_220, bM_init_229, bM_init_238, bM_init_243, bM_init_248, bM_init_253, bM_init_262, bM_init_270, bM_init_278, bM_init_286, bM_init_300, bM_init_312, bM_init_316, ty_m, Option.toList_some, Option.toList_none, List.cons_append, List.nil_append, List.length_cons, List.length_nil, List.mem_cons, List.not_mem_nil, or_false, false_or, or_true, true_or, ↓reduceIte, true_and, and_true, Nat.reduceEqDiff, Nat.reduceAdd, Nat.reduceLeDiff, Nat.reduceLT, dl_i, dl_r, dl_n, dl_u, eq_self, not_true_eq_false, not_false_eq_true, n10, n01, nm0, n0m, tY, imp_t, imp_f]
    exact s243 _ ((hI).up 43 (-1))
  have s229 : ∀ I, MZ J I 127 (fun a => if a = 3 then -1 else nI 0) → go 229 [some (.ref 500000)] [] I (CM (flE (shB false) F) Γ.1.2 127 [(500000, 34, 500126), (500000, 33, 500125), (500000, 32, 500124), (500000, 31, 500123), (500000, 30, 500119), (500000, 29, 500106), (500000, 28, 500093), (500000, 24, 500092), (500000, 23, 500091), (500000, 22, 500090), (500000, 21, 500089), (500000, 20, 500079), (500000, 19, 500069), (500000, 18, 500068), (500000, 17, 500067), (500000, 16, 500046), (500000, 15, 500025), (500000, 14, 500015), (500000, 13, 500005), (500000, 12, 500004), (500000, 11, 500003), (500000, 10, 500002), (500000, 9, 500001)]) (126, 7706) := by
    intro I hI
    refine hgo 20 [238] 229 _ _ _ _ _ ?_
    simp only [ixr_of, run_s, run_0, rM_init, rok_i, rok_z, bx_cons, bx_nil, eBP, eC1, eC2, eC3, eC5, eCV0, eCm1, eLA0, eMNA, eNAI, eNAZ, eOI, ePI, ePRF, ePZ, eRV, eSP, fM_init_0, fM_init_4, fM_init_9, fM_init_18, fM_init_25, fM_init_32, fM_init_39, fM_init_51, fM_init_63, fM_init_74, fM_init_85, fM_init_93, fM_init_101, fM_init_113, fM_init_126, fM_init_134, fM_init_143, fM_init_152, fM_init_160, fM_init_171, fM_init_182, fM_init_194, fM_init_202, fM_init_211, fM_init_220, fM_init_229, fM_init_238, fM_init_243, fM_init_248, fM_init_253, fM_init_262, fM_init_270, fM_init_278, fM_init_286, fM_init_300, fM_init_312, fM_init_316, bM_init_0, bM_init_4, bM_init_9, bM_init_18, bM_init_25, bM_init_32, bM_init_39, bM_init_51, bM_init_63, bM_init_74, bM_init_85, bM_init_93, bM_init_101, bM_init_113, bM_init_126, bM_init_134, bM_init_143, bM_init_152, bM_init_160, bM_init_171, bM_init_182, bM_init_194, bM_init_202, bM_init_211, bM_init_220, bM_init_229, bM_init_238, bM_init_243, bM_init_248, bM_init_253, bM_init_262, bM_init_270, bM_init_278, bM_init_286, bM_init_300, bM_init_312, bM_init_316, ty_m, Option.toList_some, Option.toList_none, List.cons_append, List.nil_append, List.length_cons, List.length_nil, List.mem_cons, List.not_mem_nil, or_false, false_or, or_true, true_or, ↓reduceIte, true_and, and_true, Nat.reduceEqDiff, Nat.reduceAdd, Nat.reduceLeDiff, Nat.reduceLT, dl_i, dl_r, dl_n, dl_u, eq_self, not_true_eq_false, not_false_eq_true, n10, n01, nm0, n0m, imp_t, imp_f]
    refine ⟨502, rfl, ?_⟩
    repeat (refine ⟨by decide, ?_⟩)
    intro b hs _
    rw [CM_sz] at hs
    have hb : b = Γ.1.2 + 127 := by omega
    subst hb
    refine ⟨500127, by omega, ad_m (k := 127) (by omega), fun _ => ?_⟩
    rw [CM_mk (k := 127) (k' := 128) rfl rfl (by omega) (by decide +kernel) (by decide) (by decide +kernel) (fun j => rl_f (y := 500001) (by decide +kernel) (by omega))]
    refine ⟨CM_t (by omega), rfl, ?_⟩
    rw [CM_up]
    exact s238 _ ((hI).z 500127 128 rfl rfl (by omega))
  have s220 : ∀ I, MZ J I 126 (fun a => if a = 3 then -1 else nI 0) → go 220 [some (.ref 500000)] [] I (CM (flE (shB false) F) Γ.1.2 126 [(500000, 33, 500125), (500000, 32, 500124), (500000, 31, 500123), (500000, 30, 500119), (500000, 29, 500106), (500000, 28, 500093), (500000, 24, 500092), (500000, 23, 500091), (500000, 22, 500090), (500000, 21, 500089), (500000, 20, 500079), (500000, 19, 500069), (500000, 18, 500068), (500000, 17, 500067), (500000, 16, 500046), (500000, 15, 500025), (500000, 14, 500015), (500000, 13, 500005), (500000, 12, 500004), (500000, 11, 500003), (500000, 10, 500002), (500000, 9, 500001)]) (125, 7204) := by
    intro I hI
    refine hgo 20 [229] 220 _ _ _ _ _ ?_
    simp only [ixr_of, run_s, run_0, rM_init, rok_i, rok_z, bx_cons, bx_nil, eBP, eC1, eC2, eC3, eC5, eCV0, eCm1, eLA0, eMNA, eNAI, eNAZ, eOI, ePI, ePRF, ePZ, eRV, eSP, fM_init_0, fM_init_4, fM_init_9, fM_init_18, fM_init_25, fM_init_32, fM_init_39, fM_init_51, fM_init_63, fM_init_74, fM_init_85, fM_init_93, fM_init_101, fM_init_113, fM_init_126, fM_init_134, fM_init_143, fM_init_152, fM_init_160, fM_init_171, fM_init_182, fM_init_194, fM_init_202, fM_init_211, fM_init_220, fM_init_229, fM_init_238, fM_init_243, fM_init_248, fM_init_253, fM_init_262, fM_init_270, fM_init_278, fM_init_286, fM_init_300, fM_init_312, fM_init_316, bM_init_0, bM_init_4, bM_init_9, bM_init_18, bM_init_25, bM_init_32, bM_init_39, bM_init_51, bM_init_63, bM_init_74, bM_init_85, bM_init_93, bM_init_101, bM_init_113, bM_init_126, bM_init_134, bM_init_143, bM_init_152, bM_init_160, bM_init_171, bM_init_182, bM_init_194, bM_init_202, bM_init_211, bM_init_220, bM_init_229, bM_init_238, bM_init_243, bM_init_248, bM_init_253, bM_init_262, bM_init_270, bM_init_278, bM_init_286, bM_init_300, bM_init_312, bM_init_316, ty_m, Option.toList_some, Option.toList_none, List.cons_append, List.nil_append, List.length_cons, List.length_nil, List.mem_cons, List.not_mem_nil, or_false, false_or, or_true, true_or, ↓reduceIte, true_and, and_true, Nat.reduceEqDiff, Nat.reduceAdd, Nat.reduceLeDiff, Nat.reduceLT, dl_i, dl_r, dl_n, dl_u, eq_self, not_true_eq_false, not_false_eq_true, n10, n01, nm0, n0m, imp_t, imp_f]
    refine ⟨502, rfl, ?_⟩
    repeat (refine ⟨by decide, ?_⟩)
    intro b hs _
    rw [CM_sz] at hs
    have hb : b = Γ.1.2 + 126 := by omega
    subst hb
    refine ⟨500126, by omega, ad_m (k := 126) (by omega), fun _ => ?_⟩
    rw [CM_mk (k := 126) (k' := 127) rfl rfl (by omega) (by decide +kernel) (by decide) (by decide +kernel) (fun j => rl_f (y := 500001) (by decide +kernel) (by omega))]
    refine ⟨CM_t (by omega), rfl, ?_⟩
    rw [CM_up]
    exact s229 _ ((hI).z 500126 127 rfl rfl (by omega))
  have s211 : ∀ I, MZ J I 125 (fun a => if a = 3 then -1 else nI 0) → go 211 [some (.ref 500000)] [] I (CM (flE (shB false) F) Γ.1.2 125 [(500000, 32, 500124), (500000, 31, 500123), (500000, 30, 500119), (500000, 29, 500106), (500000, 28, 500093), (500000, 24, 500092), (500000, 23, 500091), (500000, 22, 500090), (500000, 21, 500089), (500000, 20, 500079), (500000, 19, 500069), (500000, 18, 500068), (500000, 17, 500067), (500000, 16, 500046), (500000, 15, 500025), (500000, 14, 500015), (500000, 13, 500005), (500000, 12, 500004), (500000, 11, 500003), (500000, 10, 500002), (500000, 9, 500001)]) (124, 6702) := by
    intro I hI
    refine hgo 20 [220] 211 _ _ _ _ _ ?_
    simp only [ixr_of, run_s, run_0, rM_init, rok_i, rok_z, bx_cons, bx_nil, eBP, eC1, eC2, eC3, eC5, eCV0, eCm1, eLA0, eMNA, eNAI, eNAZ, eOI, ePI, ePRF, ePZ, eRV, eSP, fM_init_0, fM_init_4, fM_init_9, fM_init_18, fM_init_25, fM_init_32, fM_init_39, fM_init_51, fM_init_63, fM_init_74, fM_init_85, fM_init_93, fM_init_101, fM_init_113, fM_init_126, fM_init_134, fM_init_143, fM_init_152, fM_init_160, fM_init_171, fM_init_182, fM_init_194, fM_init_202, fM_init_211, fM_init_220, fM_init_229, fM_init_238, fM_init_243, fM_init_248, fM_init_253, fM_init_262, fM_init_270, fM_init_278, fM_init_286, fM_init_300, fM_init_312, fM_init_316, bM_init_0, bM_init_4, bM_init_9, bM_init_18, bM_init_25, bM_init_32, bM_init_39, bM_init_51, bM_init_63, bM_init_74, bM_init_85, bM_init_93, bM_init_101, bM_init_113, bM_init_126, bM_init_134, bM_init_143, bM_init_152, bM_init_160, bM_init_171, bM_init_182, bM_init_194, bM_init_202, bM_init_211, bM_init_220, bM_init_229, bM_init_238, bM_init_243, bM_init_248, bM_init_253, bM_init_262, bM_init_270, bM_init_278, bM_init_286, bM_init_300, bM_init_312, bM_init_316, ty_m, Option.toList_some, Option.toList_none, List.cons_append, List.nil_append, List.length_cons, List.length_nil, List.mem_cons, List.not_mem_nil, or_false, false_or, or_true, true_or, ↓reduceIte, true_and, and_true, Nat.reduceEqDiff, Nat.reduceAdd, Nat.reduceLeDiff, Nat.reduceLT, dl_i, dl_r, dl_n, dl_u, eq_self, not_true_eq_false, not_false_eq_true, n10, n01, nm0, n0m, imp_t, imp_f]
    refine ⟨502, rfl, ?_⟩
    repeat (refine ⟨by decide, ?_⟩)
    intro b hs _
    rw [CM_sz] at hs
    have hb : b = Γ.1.2 + 125 := by omega
    subst hb
    refine ⟨500125, by omega, ad_m (k := 125) (by omega), fun _ => ?_⟩
    rw [CM_mk (k := 125) (k' := 126) rfl rfl (by omega) (by decide +kernel) (by decide) (by decide +kernel) (fun j => rl_f (y := 500001) (by decide +kernel) (by omega))]
    refine ⟨CM_t (by omega), rfl, ?_⟩
    rw [CM_up]
    exact s220 _ ((hI).z 500125 126 rfl rfl (by omega))
  have s202 : ∀ I, MZ J I 124 (fun a => if a = 3 then -1 else nI 0) → go 202 [some (.ref 500000)] [] I (CM (flE (shB false) F) Γ.1.2 124 [(500000, 31, 500123), (500000, 30, 500119), (500000, 29, 500106), (500000, 28, 500093), (500000, 24, 500092), (500000, 23, 500091), (500000, 22, 500090), (500000, 21, 500089), (500000, 20, 500079), (500000, 19, 500069), (500000, 18, 500068), (500000, 17, 500067), (500000, 16, 500046), (500000, 15, 500025), (500000, 14, 500015), (500000, 13, 500005), (500000, 12, 500004), (500000, 11, 500003), (500000, 10, 500002), (500000, 9, 500001)]) (123, 6200) := by
    intro I hI
    refine hgo 20 [211] 202 _ _ _ _ _ ?_
    simp only [ixr_of, run_s, run_0, rM_init, rok_i, rok_z, bx_cons, bx_nil, eBP, eC1, eC2, eC3, eC5, eCV0, eCm1, eLA0, eMNA, eNAI, eNAZ, eOI, ePI, ePRF, ePZ, eRV, eSP, fM_init_0, fM_init_4, fM_init_9, fM_init_18, fM_init_25, fM_init_32, fM_init_39, fM_init_51, fM_init_63, fM_init_74, fM_init_85, fM_init_93, fM_init_101, fM_init_113, fM_init_126, fM_init_134, fM_init_143, fM_init_152, fM_init_160, fM_init_171, fM_init_182, fM_init_194, fM_init_202, fM_init_211, fM_init_220, fM_init_229, fM_init_238, fM_init_243, fM_init_248, fM_init_253, fM_init_262, fM_init_270, fM_init_278, fM_init_286, fM_init_300, fM_init_312, fM_init_316, bM_init_0, bM_init_4, bM_init_9, bM_init_18, bM_init_25, bM_init_32, bM_init_39, bM_init_51, bM_init_63, bM_init_74, bM_init_85, bM_init_93, bM_init_101, bM_init_113, bM_init_126, bM_init_134, bM_init_143, bM_init_152, bM_init_160, bM_init_171, bM_init_182, bM_init_194, bM_init_202, bM_init_211, bM_init_220, bM_init_229, bM_init_238, bM_init_243, bM_init_248, bM_init_253, bM_init_262, bM_init_270, bM_init_278, bM_init_286, bM_init_300, bM_init_312, bM_init_316, ty_m, Option.toList_some, Option.toList_none, List.cons_append, List.nil_append, List.length_cons, List.length_nil, List.mem_cons, List.not_mem_nil, or_false, false_or, or_true, true_or, ↓reduceIte, true_and, and_true, Nat.reduceEqDiff, Nat.reduceAdd, Nat.reduceLeDiff, Nat.reduceLT, dl_i, dl_r, dl_n, dl_u, eq_self, not_true_eq_false, not_false_eq_true, n10, n01, nm0, n0m, imp_t, imp_f]
    refine ⟨502, rfl, ?_⟩
    repeat (refine ⟨by decide, ?_⟩)
    intro b hs _
    rw [CM_sz] at hs
    have hb : b = Γ.1.2 + 124 := by omega
    subst hb
    refine ⟨500124, by omega, ad_m (k := 124) (by omega), fun _ => ?_⟩
    rw [CM_mk (k := 124) (k' := 125) rfl rfl (by omega) (by decide +kernel) (by decide) (by decide +kernel) (fun j => rl_f (y := 500001) (by decide +kernel) (by omega))]
    refine ⟨CM_t (by omega), rfl, ?_⟩
    rw [CM_up]
    exact s211 _ ((hI).z 500124 125 rfl rfl (by omega))
  have s194 : ∀ I, MZ J I 123 (fun a => if a = 3 then -1 else nI 0) → go 194 [some (.ref 500000)] [] I (CM (flE (shB false) F) Γ.1.2 123 [(500000, 30, 500119), (500000, 29, 500106), (500000, 28, 500093), (500000, 24, 500092), (500000, 23, 500091), (500000, 22, 500090), (500000, 21, 500089), (500000, 20, 500079), (500000, 19, 500069), (500000, 18, 500068), (500000, 17, 500067), (500000, 16, 500046), (500000, 15, 500025), (500000, 14, 500015), (500000, 13, 500005), (500000, 12, 500004), (500000, 11, 500003), (500000, 10, 500002), (500000, 9, 500001)]) (122, 6191) := by
    intro I hI
    refine hgo 20 [202] 194 _ _ _ _ _ ?_
    simp only [ixr_of, run_s, run_0, rM_init, rok_i, rok_z, bx_cons, bx_nil, eBP, eC1, eC2, eC3, eC5, eCV0, eCm1, eLA0, eMNA, eNAI, eNAZ, eOI, ePI, ePRF, ePZ, eRV, eSP, fM_init_0, fM_init_4, fM_init_9, fM_init_18, fM_init_25, fM_init_32, fM_init_39, fM_init_51, fM_init_63, fM_init_74, fM_init_85, fM_init_93, fM_init_101, fM_init_113, fM_init_126, fM_init_134, fM_init_143, fM_init_152, fM_init_160, fM_init_171, fM_init_182, fM_init_194, fM_init_202, fM_init_211, fM_init_220, fM_init_229, fM_init_238, fM_init_243, fM_init_248, fM_init_253, fM_init_262, fM_init_270, fM_init_278, fM_init_286, fM_init_300, fM_init_312, fM_init_316, bM_init_0, bM_init_4, bM_init_9, bM_init_18, bM_init_25, bM_init_32, bM_init_39, bM_init_51, bM_init_63, bM_init_74, bM_init_85, bM_init_93, bM_init_101, bM_init_113, bM_init_126, bM_init_134, bM_init_143, bM_init_152, bM_init_160, bM_init_171, bM_init_182, bM_init_194, bM_init_202, bM_init_211, bM_init_220, bM_init_229, bM_init_238, bM_init_243, bM_init_248, bM_init_253, bM_init_262, bM_init_270, bM_init_278, bM_init_286, bM_init_300, bM_init_312, bM_init_316, ty_m, Option.toList_some, Option.toList_none, List.cons_append, List.nil_append, List.length_cons, List.length_nil, List.mem_cons, List.not_mem_nil, or_false, false_or, or_true, true_or, ↓reduceIte, true_and, and_true, Nat.reduceEqDiff, Nat.reduceAdd, Nat.reduceLeDiff, Nat.reduceLT, dl_i, dl_r, dl_n, dl_u, eq_self, not_true_eq_false, not_false_eq_true, n10, n01, nm0, n0m, imp_t, imp_f]
    refine ⟨9, rfl, ?_⟩
    repeat (refine ⟨by decide, ?_⟩)
    intro b hs _
    rw [CM_sz] at hs
    have hb : b = Γ.1.2 + 123 := by omega
    subst hb
    refine ⟨500123, by omega, ad_m (k := 123) (by omega), fun _ => ?_⟩
    rw [CM_mk (k := 123) (k' := 124) rfl rfl (by omega) (by decide +kernel) (by decide) (by decide +kernel) (fun j => rl_f (y := 500001) (by decide +kernel) (by omega))]
    refine ⟨CM_t (by omega), rfl, ?_⟩
    rw [CM_up]
    exact s202 _ ((hI).z 500123 124 rfl rfl (by omega))
  have s182 : ∀ I, MZ J I 119 (fun a => if a = 3 then -1 else nI 0) → go 182 [some (.ref 500000)] [] I (CM (flE (shB false) F) Γ.1.2 119 [(500000, 29, 500106), (500000, 28, 500093), (500000, 24, 500092), (500000, 23, 500091), (500000, 22, 500090), (500000, 21, 500089), (500000, 20, 500079), (500000, 19, 500069), (500000, 18, 500068), (500000, 17, 500067), (500000, 16, 500046), (500000, 15, 500025), (500000, 14, 500015), (500000, 13, 500005), (500000, 12, 500004), (500000, 11, 500003), (500000, 10, 500002), (500000, 9, 500001)]) (118, 4649) := by
    intro I hI
    refine hgo 20 [194] 182 _ _ _ _ _ ?_
    simp only [ixr_of, run_s, run_0, rM_init, rok_i, rok_z, bx_cons, bx_nil, eBP, eC1, eC2, eC3, eC5, eCV0, eCm1, eLA0, eMNA, eNAI, eNAZ, eOI, ePI, ePRF, ePZ, eRV, eSP, fM_init_0, fM_init_4, fM_init_9, fM_init_18, fM_init_25, fM_init_32, fM_init_39, fM_init_51, fM_init_63, fM_init_74, fM_init_85, fM_init_93, fM_init_101, fM_init_113, fM_init_126, fM_init_134, fM_init_143, fM_init_152, fM_init_160, fM_init_171, fM_init_182, fM_init_194, fM_init_202, fM_init_211, fM_init_220, fM_init_229, fM_init_238, fM_init_243, fM_init_248, fM_init_253, fM_init_262, fM_init_270, fM_init_278, fM_init_286, fM_init_300, fM_init_312, fM_init_316, bM_init_0, bM_init_4, bM_init_9, bM_init_18, bM_init_25, bM_init_32, bM_init_39, bM_init_51, bM_init_63, bM_init_74, bM_init_85, bM_init_93, bM_init_101, bM_init_113, bM_init_126, bM_init_134, bM_init_143, bM_init_152, bM_init_160, bM_init_171, bM_init_182, bM_init_194, bM_init_202, bM_init_211, bM_init_220, bM_init_229, bM_init_238, bM_init_243, bM_init_248, bM_init_253, bM_init_262, bM_init_270, bM_init_278, bM_init_286, bM_init_300, bM_init_312, bM_init_316, ty_m, Option.toList_some, Option.toList_none, List.cons_append, List.nil_append, List.length_cons, List.length_nil, List.mem_cons, List.not_mem_nil, or_false, false_or, or_true, true_or, ↓reduceIte, true_and, and_true, Nat.reduceEqDiff, Nat.reduceAdd, Nat.reduceLeDiff, Nat.reduceLT, dl_i, dl_r, dl_n, dl_u, eq_self, not_true_eq_false, not_false_eq_true, n10, n01, nm0, n0m, imp_t, imp_f]
    refine ⟨hG, 3, 513, rfl, rfl, ?_⟩
    repeat (refine ⟨by decide, ?_⟩)
    intro b hs _
    rw [CM_sz] at hs
    have hb : b = Γ.1.2 + 119 := by omega
    subst hb
    refine ⟨500119, by omega, fun j hj => (by rw [show 500119 + j = 500000 + (119 + j) by omega, ad_m (by omega)]; omega), fun _ => rfl, fun _ => ?_⟩
    rw [CM_mk2 (k := 119) (k' := 123) rfl rfl (by omega) (by decide +kernel) (by decide +kernel) (by decide +kernel) (fun a c h => rl_f (y := 500001) (by decide +kernel) (by omega))]
    refine ⟨CM_t (by omega), rfl, ?_⟩
    rw [CM_up]
    exact s194 _ ((hI).z2 500119 3 123 rfl rfl (by omega))
  have s171 : ∀ I, MZ J I 106 (fun a => if a = 3 then -1 else nI 0) → go 171 [some (.ref 500000)] [] I (CM (flE (shB false) F) Γ.1.2 106 [(500000, 28, 500093), (500000, 24, 500092), (500000, 23, 500091), (500000, 22, 500090), (500000, 21, 500089), (500000, 20, 500079), (500000, 19, 500069), (500000, 18, 500068), (500000, 17, 500067), (500000, 16, 500046), (500000, 15, 500025), (500000, 14, 500015), (500000, 13, 500005), (500000, 12, 500004), (500000, 11, 500003), (500000, 10, 500002), (500000, 9, 500001)]) (105, 4613) := by
    intro I hI
    refine hgo 20 [182] 171 _ _ _ _ _ ?_
    simp only [ixr_of, run_s, run_0, rM_init, rok_i, rok_z, bx_cons, bx_nil, eBP, eC1, eC2, eC3, eC5, eCV0, eCm1, eLA0, eMNA, eNAI, eNAZ, eOI, ePI, ePRF, ePZ, eRV, eSP, fM_init_0, fM_init_4, fM_init_9, fM_init_18, fM_init_25, fM_init_32, fM_init_39, fM_init_51, fM_init_63, fM_init_74, fM_init_85, fM_init_93, fM_init_101, fM_init_113, fM_init_126, fM_init_134, fM_init_143, fM_init_152, fM_init_160, fM_init_171, fM_init_182, fM_init_194, fM_init_202, fM_init_211, fM_init_220, fM_init_229, fM_init_238, fM_init_243, fM_init_248, fM_init_253, fM_init_262, fM_init_270, fM_init_278, fM_init_286, fM_init_300, fM_init_312, fM_init_316, bM_init_0, bM_init_4, bM_init_9, bM_init_18, bM_init_25, bM_init_32, bM_init_39, bM_init_51, bM_init_63, bM_init_74, bM_init_85, bM_init_93, bM_init_101, bM_init_113, bM_init_126, bM_init_134, bM_init_143, bM_init_152, bM_init_160, bM_init_171, bM_init_182, bM_init_194, bM_init_202, bM_init_211, bM_init_220, bM_init_229, bM_init_238, bM_init_243, bM_init_248, bM_init_253, bM_init_262, bM_init_270, bM_init_278, bM_init_286, bM_init_300, bM_init_312, bM_init_316, ty_m, Option.toList_some, Option.toList_none, List.cons_append, List.nil_append, List.length_cons, List.length_nil, List.mem_cons, List.not_mem_nil, or_false, false_or, or_true, true_or, ↓reduceIte, true_and, and_true, Nat.reduceEqDiff, Nat.reduceAdd, Nat.reduceLeDiff, Nat.reduceLT, dl_i, dl_r, dl_n, dl_u, eq_self, not_true_eq_false, not_false_eq_true, n10, n01, nm0, n0m, imp_t, imp_f]
    refine ⟨hG, 12, 2, rfl, rfl, ?_⟩
    repeat (refine ⟨by decide, ?_⟩)
    intro b hs _
    rw [CM_sz] at hs
    have hb : b = Γ.1.2 + 106 := by omega
    subst hb
    refine ⟨500106, by omega, fun j hj => (by rw [show 500106 + j = 500000 + (106 + j) by omega, ad_m (by omega)]; omega), fun _ => rfl, fun _ => ?_⟩
    rw [CM_mk2 (k := 106) (k' := 119) rfl rfl (by omega) (by decide +kernel) (by decide +kernel) (by decide +kernel) (fun a c h => rl_f (y := 500001) (by decide +kernel) (by omega))]
    refine ⟨CM_t (by omega), rfl, ?_⟩
    rw [CM_up]
    exact s182 _ ((hI).z2 500106 12 119 rfl rfl (by omega))
  have s160 : ∀ I, MZ J I 93 (fun a => if a = 3 then -1 else nI 0) → go 160 [some (.ref 500000)] [] I (CM (flE (shB false) F) Γ.1.2 93 [(500000, 24, 500092), (500000, 23, 500091), (500000, 22, 500090), (500000, 21, 500089), (500000, 20, 500079), (500000, 19, 500069), (500000, 18, 500068), (500000, 17, 500067), (500000, 16, 500046), (500000, 15, 500025), (500000, 14, 500015), (500000, 13, 500005), (500000, 12, 500004), (500000, 11, 500003), (500000, 10, 500002), (500000, 9, 500001)]) (92, 4577) := by
    intro I hI
    refine hgo 20 [171] 160 _ _ _ _ _ ?_
    simp only [ixr_of, run_s, run_0, rM_init, rok_i, rok_z, bx_cons, bx_nil, eBP, eC1, eC2, eC3, eC5, eCV0, eCm1, eLA0, eMNA, eNAI, eNAZ, eOI, ePI, ePRF, ePZ, eRV, eSP, fM_init_0, fM_init_4, fM_init_9, fM_init_18, fM_init_25, fM_init_32, fM_init_39, fM_init_51, fM_init_63, fM_init_74, fM_init_85, fM_init_93, fM_init_101, fM_init_113, fM_init_126, fM_init_134, fM_init_143, fM_init_152, fM_init_160, fM_init_171, fM_init_182, fM_init_194, fM_init_202, fM_init_211, fM_init_220, fM_init_229, fM_init_238, fM_init_243, fM_init_248, fM_init_253, fM_init_262, fM_init_270, fM_init_278, fM_init_286, fM_init_300, fM_init_312, fM_init_316, bM_init_0, bM_init_4, bM_init_9, bM_init_18, bM_init_25, bM_init_32, bM_init_39, bM_init_51, bM_init_63, bM_init_74, bM_init_85, bM_init_93, bM_init_101, bM_init_113, bM_init_126, bM_init_134, bM_init_143, bM_init_152, bM_init_160, bM_init_171, bM_init_182, bM_init_194, bM_init_202, bM_init_211, bM_init_220, bM_init_229, bM_init_238, bM_init_243, bM_init_248, bM_init_253, bM_init_262, bM_init_270, bM_init_278, bM_init_286, bM_init_300, bM_init_312, bM_init_316, ty_m, Option.toList_some, Option.toList_none, List.cons_append, List.nil_append, List.length_cons, List.length_nil, List.mem_cons, List.not_mem_nil, or_false, false_or, or_true, true_or, ↓reduceIte, true_and, and_true, Nat.reduceEqDiff, Nat.reduceAdd, Nat.reduceLeDiff, Nat.reduceLT, dl_i, dl_r, dl_n, dl_u, eq_self, not_true_eq_false, not_false_eq_true, n10, n01, nm0, n0m, imp_t, imp_f]
    refine ⟨hG, 12, 2, rfl, rfl, ?_⟩
    repeat (refine ⟨by decide, ?_⟩)
    intro b hs _
    rw [CM_sz] at hs
    have hb : b = Γ.1.2 + 93 := by omega
    subst hb
    refine ⟨500093, by omega, fun j hj => (by rw [show 500093 + j = 500000 + (93 + j) by omega, ad_m (by omega)]; omega), fun _ => rfl, fun _ => ?_⟩
    rw [CM_mk2 (k := 93) (k' := 106) rfl rfl (by omega) (by decide +kernel) (by decide +kernel) (by decide +kernel) (fun a c h => rl_f (y := 500001) (by decide +kernel) (by omega))]
    refine ⟨CM_t (by omega), rfl, ?_⟩
    rw [CM_up]
    exact s171 _ ((hI).z2 500093 12 106 rfl rfl (by omega))
  have s152 : ∀ I, MZ J I 92 (fun a => if a = 3 then -1 else nI 0) → go 152 [some (.ref 500000)] [] I (CM (flE (shB false) F) Γ.1.2 92 [(500000, 23, 500091), (500000, 22, 500090), (500000, 21, 500089), (500000, 20, 500079), (500000, 19, 500069), (500000, 18, 500068), (500000, 17, 500067), (500000, 16, 500046), (500000, 15, 500025), (500000, 14, 500015), (500000, 13, 500005), (500000, 12, 500004), (500000, 11, 500003), (500000, 10, 500002), (500000, 9, 500001)]) (91, 4570) := by
    intro I hI
    refine hgo 20 [160] 152 _ _ _ _ _ ?_
    simp only [ixr_of, run_s, run_0, rM_init, rok_i, rok_z, bx_cons, bx_nil, eBP, eC1, eC2, eC3, eC5, eCV0, eCm1, eLA0, eMNA, eNAI, eNAZ, eOI, ePI, ePRF, ePZ, eRV, eSP, fM_init_0, fM_init_4, fM_init_9, fM_init_18, fM_init_25, fM_init_32, fM_init_39, fM_init_51, fM_init_63, fM_init_74, fM_init_85, fM_init_93, fM_init_101, fM_init_113, fM_init_126, fM_init_134, fM_init_143, fM_init_152, fM_init_160, fM_init_171, fM_init_182, fM_init_194, fM_init_202, fM_init_211, fM_init_220, fM_init_229, fM_init_238, fM_init_243, fM_init_248, fM_init_253, fM_init_262, fM_init_270, fM_init_278, fM_init_286, fM_init_300, fM_init_312, fM_init_316, bM_init_0, bM_init_4, bM_init_9, bM_init_18, bM_init_25, bM_init_32, bM_init_39, bM_init_51, bM_init_63, bM_init_74, bM_init_85, bM_init_93, bM_init_101, bM_init_113, bM_init_126, bM_init_134, bM_init_143, bM_init_152, bM_init_160, bM_init_171, bM_init_182, bM_init_194, bM_init_202, bM_init_211, bM_init_220, bM_init_229, bM_init_238, bM_init_243, bM_init_248, bM_init_253, bM_init_262, bM_init_270, bM_init_278, bM_init_286, bM_init_300, bM_init_312, bM_init_316, ty_m, Option.toList_some, Option.toList_none, List.cons_append, List.nil_append, List.length_cons, List.length_nil, List.mem_cons, List.not_mem_nil, or_false, false_or, or_true, true_or, ↓reduceIte, true_and, and_true, Nat.reduceEqDiff, Nat.reduceAdd, Nat.reduceLeDiff, Nat.reduceLT, dl_i, dl_r, dl_n, dl_u, eq_self, not_true_eq_false, not_false_eq_true, n10, n01, nm0, n0m, imp_t, imp_f]
    refine ⟨7, rfl, ?_⟩
    repeat (refine ⟨by decide, ?_⟩)
    intro b hs _
    rw [CM_sz] at hs
    have hb : b = Γ.1.2 + 92 := by omega
    subst hb
    refine ⟨500092, by omega, ad_m (k := 92) (by omega), fun _ => ?_⟩
    rw [CM_mk (k := 92) (k' := 93) rfl rfl (by omega) (by decide +kernel) (by decide) (by decide +kernel) (fun j => rl_f (y := 500001) (by decide +kernel) (by omega))]
    refine ⟨CM_t (by omega), rfl, ?_⟩
    rw [CM_up]
    exact s160 _ ((hI).z 500092 93 rfl rfl (by omega))
  have s143 : ∀ I, MZ J I 91 (fun a => if a = 3 then -1 else nI 0) → go 143 [some (.ref 500000)] [] I (CM (flE (shB false) F) Γ.1.2 91 [(500000, 22, 500090), (500000, 21, 500089), (500000, 20, 500079), (500000, 19, 500069), (500000, 18, 500068), (500000, 17, 500067), (500000, 16, 500046), (500000, 15, 500025), (500000, 14, 500015), (500000, 13, 500005), (500000, 12, 500004), (500000, 11, 500003), (500000, 10, 500002), (500000, 9, 500001)]) (90, 4410) := by
    intro I hI
    refine hgo 20 [152] 143 _ _ _ _ _ ?_
    simp only [ixr_of, run_s, run_0, rM_init, rok_i, rok_z, bx_cons, bx_nil, eBP, eC1, eC2, eC3, eC5, eCV0, eCm1, eLA0, eMNA, eNAI, eNAZ, eOI, ePI, ePRF, ePZ, eRV, eSP, fM_init_0, fM_init_4, fM_init_9, fM_init_18, fM_init_25, fM_init_32, fM_init_39, fM_init_51, fM_init_63, fM_init_74, fM_init_85, fM_init_93, fM_init_101, fM_init_113, fM_init_126, fM_init_134, fM_init_143, fM_init_152, fM_init_160, fM_init_171, fM_init_182, fM_init_194, fM_init_202, fM_init_211, fM_init_220, fM_init_229, fM_init_238, fM_init_243, fM_init_248, fM_init_253, fM_init_262, fM_init_270, fM_init_278, fM_init_286, fM_init_300, fM_init_312, fM_init_316, bM_init_0, bM_init_4, bM_init_9, bM_init_18, bM_init_25, bM_init_32, bM_init_39, bM_init_51, bM_init_63, bM_init_74, bM_init_85, bM_init_93, bM_init_101, bM_init_113, bM_init_126, bM_init_134, bM_init_143, bM_init_152, bM_init_160, bM_init_171, bM_init_182, bM_init_194, bM_init_202, bM_init_211, bM_init_220, bM_init_229, bM_init_238, bM_init_243, bM_init_248, bM_init_253, bM_init_262, bM_init_270, bM_init_278, bM_init_286, bM_init_300, bM_init_312, bM_init_316, ty_m, Option.toList_some, Option.toList_none, List.cons_append, List.nil_append, List.length_cons, List.length_nil, List.mem_cons, List.not_mem_nil, or_false, false_or, or_true, true_or, ↓reduceIte, true_and, and_true, Nat.reduceEqDiff, Nat.reduceAdd, Nat.reduceLeDiff, Nat.reduceLT, dl_i, dl_r, dl_n, dl_u, eq_self, not_true_eq_false, not_false_eq_true, n10, n01, nm0, n0m, imp_t, imp_f]
    refine ⟨160, rfl, ?_⟩
    repeat (refine ⟨by decide, ?_⟩)
    intro b hs _
    rw [CM_sz] at hs
    have hb : b = Γ.1.2 + 91 := by omega
    subst hb
    refine ⟨500091, by omega, ad_m (k := 91) (by omega), fun _ => ?_⟩
    rw [CM_mk (k := 91) (k' := 92) rfl rfl (by omega) (by decide +kernel) (by decide) (by decide +kernel) (fun j => rl_f (y := 500001) (by decide +kernel) (by omega))]
    refine ⟨CM_t (by omega), rfl, ?_⟩
    rw [CM_up]
    exact s152 _ ((hI).z 500091 92 rfl rfl (by omega))
  have s134 : ∀ I, MZ J I 90 (fun a => if a = 3 then -1 else nI 0) → go 134 [some (.ref 500000)] [] I (CM (flE (shB false) F) Γ.1.2 90 [(500000, 21, 500089), (500000, 20, 500079), (500000, 19, 500069), (500000, 18, 500068), (500000, 17, 500067), (500000, 16, 500046), (500000, 15, 500025), (500000, 14, 500015), (500000, 13, 500005), (500000, 12, 500004), (500000, 11, 500003), (500000, 10, 500002), (500000, 9, 500001)]) (89, 4090) := by
    intro I hI
    refine hgo 20 [143] 134 _ _ _ _ _ ?_
    simp only [ixr_of, run_s, run_0, rM_init, rok_i, rok_z, bx_cons, bx_nil, eBP, eC1, eC2, eC3, eC5, eCV0, eCm1, eLA0, eMNA, eNAI, eNAZ, eOI, ePI, ePRF, ePZ, eRV, eSP, fM_init_0, fM_init_4, fM_init_9, fM_init_18, fM_init_25, fM_init_32, fM_init_39, fM_init_51, fM_init_63, fM_init_74, fM_init_85, fM_init_93, fM_init_101, fM_init_113, fM_init_126, fM_init_134, fM_init_143, fM_init_152, fM_init_160, fM_init_171, fM_init_182, fM_init_194, fM_init_202, fM_init_211, fM_init_220, fM_init_229, fM_init_238, fM_init_243, fM_init_248, fM_init_253, fM_init_262, fM_init_270, fM_init_278, fM_init_286, fM_init_300, fM_init_312, fM_init_316, bM_init_0, bM_init_4, bM_init_9, bM_init_18, bM_init_25, bM_init_32, bM_init_39, bM_init_51, bM_init_63, bM_init_74, bM_init_85, bM_init_93, bM_init_101, bM_init_113, bM_init_126, bM_init_134, bM_init_143, bM_init_152, bM_init_160, bM_init_171, bM_init_182, bM_init_194, bM_init_202, bM_init_211, bM_init_220, bM_init_229, bM_init_238, bM_init_243, bM_init_248, bM_init_253, bM_init_262, bM_init_270, bM_init_278, bM_init_286, bM_init_300, bM_init_312, bM_init_316, ty_m, Option.toList_some, Option.toList_none, List.cons_append, List.nil_append, List.length_cons, List.length_nil, List.mem_cons, List.not_mem_nil, or_false, false_or, or_true, true_or, ↓reduceIte, true_and, and_true, Nat.reduceEqDiff, Nat.reduceAdd, Nat.reduceLeDiff, Nat.reduceLT, dl_i, dl_r, dl_n, dl_u, eq_self, not_true_eq_false, not_false_eq_true, n10, n01, nm0, n0m, imp_t, imp_f]
    refine ⟨320, rfl, ?_⟩
    repeat (refine ⟨by decide, ?_⟩)
    intro b hs _
    rw [CM_sz] at hs
    have hb : b = Γ.1.2 + 90 := by omega
    subst hb
    refine ⟨500090, by omega, ad_m (k := 90) (by omega), fun _ => ?_⟩
    rw [CM_mk (k := 90) (k' := 91) rfl rfl (by omega) (by decide +kernel) (by decide) (by decide +kernel) (fun j => rl_f (y := 500001) (by decide +kernel) (by omega))]
    refine ⟨CM_t (by omega), rfl, ?_⟩
    rw [CM_up]
    exact s143 _ ((hI).z 500090 91 rfl rfl (by omega))
  have s126 : ∀ I, MZ J I 89 (fun a => if a = 3 then -1 else nI 0) → go 126 [some (.ref 500000)] [] I (CM (flE (shB false) F) Γ.1.2 89 [(500000, 20, 500079), (500000, 19, 500069), (500000, 18, 500068), (500000, 17, 500067), (500000, 16, 500046), (500000, 15, 500025), (500000, 14, 500015), (500000, 13, 500005), (500000, 12, 500004), (500000, 11, 500003), (500000, 10, 500002), (500000, 9, 500001)]) (88, 4066) := by
    intro I hI
    refine hgo 20 [134] 126 _ _ _ _ _ ?_
    simp only [ixr_of, run_s, run_0, rM_init, rok_i, rok_z, bx_cons, bx_nil, eBP, eC1, eC2, eC3, eC5, eCV0, eCm1, eLA0, eMNA, eNAI, eNAZ, eOI, ePI, ePRF, ePZ, eRV, eSP, fM_init_0, fM_init_4, fM_init_9, fM_init_18, fM_init_25, fM_init_32, fM_init_39, fM_init_51, fM_init_63, fM_init_74, fM_init_85, fM_init_93, fM_init_101, fM_init_113, fM_init_126, fM_init_134, fM_init_143, fM_init_152, fM_init_160, fM_init_171, fM_init_182, fM_init_194, fM_init_202, fM_init_211, fM_init_220, fM_init_229, fM_init_238, fM_init_243, fM_init_248, fM_init_253, fM_init_262, fM_init_270, fM_init_278, fM_init_286, fM_init_300, fM_init_312, fM_init_316, bM_init_0, bM_init_4, bM_init_9, bM_init_18, bM_init_25, bM_init_32, bM_init_39, bM_init_51, bM_init_63, bM_init_74, bM_init_85, bM_init_93, bM_init_101, bM_init_113, bM_init_126, bM_init_134, bM_init_143, bM_init_152, bM_init_160, bM_init_171, bM_init_182, bM_init_194, bM_init_202, bM_init_211, bM_init_220, bM_init_229, bM_init_238, bM_init_243, bM_init_248, bM_init_253, bM_init_262, bM_init_270, bM_init_278, bM_init_286, bM_init_300, bM_init_312, bM_init_316, ty_m, Option.toList_some, Option.toList_none, List.cons_append, List.nil_append, List.length_cons, List.length_nil, List.mem_cons, List.not_mem_nil, or_false, false_or, or_true, true_or, ↓reduceIte, true_and, and_true, Nat.reduceEqDiff, Nat.reduceAdd, Nat.reduceLeDiff, Nat.reduceLT, dl_i, dl_r, dl_n, dl_u, eq_self, not_true_eq_false, not_false_eq_true, n10, n01, nm0, n0m, imp_t, imp_f]
    refine ⟨24, rfl, ?_⟩
    repeat (refine ⟨by decide, ?_⟩)
    intro b hs _
    rw [CM_sz] at hs
    have hb : b = Γ.1.2 + 89 := by omega
    subst hb
    refine ⟨500089, by omega, ad_m (k := 89) (by omega), fun _ => ?_⟩
    rw [CM_mk (k := 89) (k' := 90) rfl rfl (by omega) (by decide +kernel) (by decide) (by decide +kernel) (fun j => rl_f (y := 500001) (by decide +kernel) (by omega))]
    refine ⟨CM_t (by omega), rfl, ?_⟩
    rw [CM_up]
    exact s134 _ ((hI).z 500089 90 rfl rfl (by omega))
  have s113 : ∀ I, MZ J I 79 (fun a => if a = 3 then -1 else nI 0) → go 113 [some (.ref 500000)] [] I (CM (flE (shB false) F) Γ.1.2 79 [(500000, 19, 500069), (500000, 18, 500068), (500000, 17, 500067), (500000, 16, 500046), (500000, 15, 500025), (500000, 14, 500015), (500000, 13, 500005), (500000, 12, 500004), (500000, 11, 500003), (500000, 10, 500002), (500000, 9, 500001)]) (78, 1177) := by
    intro I hI
    refine hgo 20 [126] 113 _ _ _ _ _ ?_
    simp only [ixr_of, run_s, run_0, rM_init, rok_i, rok_z, bx_cons, bx_nil, eBP, eC1, eC2, eC3, eC5, eCV0, eCm1, eLA0, eMNA, eNAI, eNAZ, eOI, ePI, ePRF, ePZ, eRV, eSP, fM_init_0, fM_init_4, fM_init_9, fM_init_18, fM_init_25, fM_init_32, fM_init_39, fM_init_51, fM_init_63, fM_init_74, fM_init_85, fM_init_93, fM_init_101, fM_init_113, fM_init_126, fM_init_134, fM_init_143, fM_init_152, fM_init_160, fM_init_171, fM_init_182, fM_init_194, fM_init_202, fM_init_211, fM_init_220, fM_init_229, fM_init_238, fM_init_243, fM_init_248, fM_init_253, fM_init_262, fM_init_270, fM_init_278, fM_init_286, fM_init_300, fM_init_312, fM_init_316, bM_init_0, bM_init_4, bM_init_9, bM_init_18, bM_init_25, bM_init_32, bM_init_39, bM_init_51, bM_init_63, bM_init_74, bM_init_85, bM_init_93, bM_init_101, bM_init_113, bM_init_126, bM_init_134, bM_init_143, bM_init_152, bM_init_160, bM_init_171, bM_init_182, bM_init_194, bM_init_202, bM_init_211, bM_init_220, bM_init_229, bM_init_238, bM_init_243, bM_init_248, bM_init_253, bM_init_262, bM_init_270, bM_init_278, bM_init_286, bM_init_300, bM_init_312, bM_init_316, ty_m, Option.toList_some, Option.toList_none, List.cons_append, List.nil_append, List.length_cons, List.length_nil, List.mem_cons, List.not_mem_nil, or_false, false_or, or_true, true_or, ↓reduceIte, true_and, and_true, Nat.reduceEqDiff, Nat.reduceAdd, Nat.reduceLeDiff, Nat.reduceLT, dl_i, dl_r, dl_n, dl_u, eq_self, not_true_eq_false, not_false_eq_true, n10, n01, nm0, n0m, imp_t, imp_f]
    refine ⟨hG, 9, 320, rfl, rfl, ?_⟩
    repeat (refine ⟨by decide, ?_⟩)
    intro b hs _
    rw [CM_sz] at hs
    have hb : b = Γ.1.2 + 79 := by omega
    subst hb
    refine ⟨500079, by omega, fun j hj => (by rw [show 500079 + j = 500000 + (79 + j) by omega, ad_m (by omega)]; omega), fun _ => rfl, fun _ => ?_⟩
    rw [CM_mk2 (k := 79) (k' := 89) rfl rfl (by omega) (by decide +kernel) (by decide +kernel) (by decide +kernel) (fun a c h => rl_f (y := 500001) (by decide +kernel) (by omega))]
    refine ⟨CM_t (by omega), rfl, ?_⟩
    rw [CM_up]
    exact s126 _ ((hI).z2 500079 9 89 rfl rfl (by omega))
  have s101 : ∀ I, MZ J I 69 (fun a => if a = 3 then -1 else nI 0) → go 101 [some (.ref 500000)] [] I (CM (flE (shB false) F) Γ.1.2 69 [(500000, 18, 500068), (500000, 17, 500067), (500000, 16, 500046), (500000, 15, 500025), (500000, 14, 500015), (500000, 13, 500005), (500000, 12, 500004), (500000, 11, 500003), (500000, 10, 500002), (500000, 9, 500001)]) (68, 952) := by
    intro I hI
    refine hgo 20 [113] 101 _ _ _ _ _ ?_
    simp only [ixr_of, run_s, run_0, rM_init, rok_i, rok_z, bx_cons, bx_nil, eBP, eC1, eC2, eC3, eC5, eCV0, eCm1, eLA0, eMNA, eNAI, eNAZ, eOI, ePI, ePRF, ePZ, eRV, eSP, fM_init_0, fM_init_4, fM_init_9, fM_init_18, fM_init_25, fM_init_32, fM_init_39, fM_init_51, fM_init_63, fM_init_74, fM_init_85, fM_init_93, fM_init_101, fM_init_113, fM_init_126, fM_init_134, fM_init_143, fM_init_152, fM_init_160, fM_init_171, fM_init_182, fM_init_194, fM_init_202, fM_init_211, fM_init_220, fM_init_229, fM_init_238, fM_init_243, fM_init_248, fM_init_253, fM_init_262, fM_init_270, fM_init_278, fM_init_286, fM_init_300, fM_init_312, fM_init_316, bM_init_0, bM_init_4, bM_init_9, bM_init_18, bM_init_25, bM_init_32, bM_init_39, bM_init_51, bM_init_63, bM_init_74, bM_init_85, bM_init_93, bM_init_101, bM_init_113, bM_init_126, bM_init_134, bM_init_143, bM_init_152, bM_init_160, bM_init_171, bM_init_182, bM_init_194, bM_init_202, bM_init_211, bM_init_220, bM_init_229, bM_init_238, bM_init_243, bM_init_248, bM_init_253, bM_init_262, bM_init_270, bM_init_278, bM_init_286, bM_init_300, bM_init_312, bM_init_316, ty_m, Option.toList_some, Option.toList_none, List.cons_append, List.nil_append, List.length_cons, List.length_nil, List.mem_cons, List.not_mem_nil, or_false, false_or, or_true, true_or, ↓reduceIte, true_and, and_true, Nat.reduceEqDiff, Nat.reduceAdd, Nat.reduceLeDiff, Nat.reduceLT, dl_i, dl_r, dl_n, dl_u, eq_self, not_true_eq_false, not_false_eq_true, n10, n01, nm0, n0m, imp_t, imp_f]
    refine ⟨hG, 9, 24, rfl, rfl, ?_⟩
    repeat (refine ⟨by decide, ?_⟩)
    intro b hs _
    rw [CM_sz] at hs
    have hb : b = Γ.1.2 + 69 := by omega
    subst hb
    refine ⟨500069, by omega, fun j hj => (by rw [show 500069 + j = 500000 + (69 + j) by omega, ad_m (by omega)]; omega), fun _ => rfl, fun _ => ?_⟩
    rw [CM_mk2 (k := 69) (k' := 79) rfl rfl (by omega) (by decide +kernel) (by decide +kernel) (by decide +kernel) (fun a c h => rl_f (y := 500001) (by decide +kernel) (by omega))]
    refine ⟨CM_t (by omega), rfl, ?_⟩
    rw [CM_up]
    exact s113 _ ((hI).z2 500069 9 79 rfl rfl (by omega))
  have s93 : ∀ I, MZ J I 68 (fun a => if a = 3 then -1 else nI 0) → go 93 [some (.ref 500000)] [] I (CM (flE (shB false) F) Γ.1.2 68 [(500000, 17, 500067), (500000, 16, 500046), (500000, 15, 500025), (500000, 14, 500015), (500000, 13, 500005), (500000, 12, 500004), (500000, 11, 500003), (500000, 10, 500002), (500000, 9, 500001)]) (67, 943) := by
    intro I hI
    refine hgo 20 [101] 93 _ _ _ _ _ ?_
    simp only [ixr_of, run_s, run_0, rM_init, rok_i, rok_z, bx_cons, bx_nil, eBP, eC1, eC2, eC3, eC5, eCV0, eCm1, eLA0, eMNA, eNAI, eNAZ, eOI, ePI, ePRF, ePZ, eRV, eSP, fM_init_0, fM_init_4, fM_init_9, fM_init_18, fM_init_25, fM_init_32, fM_init_39, fM_init_51, fM_init_63, fM_init_74, fM_init_85, fM_init_93, fM_init_101, fM_init_113, fM_init_126, fM_init_134, fM_init_143, fM_init_152, fM_init_160, fM_init_171, fM_init_182, fM_init_194, fM_init_202, fM_init_211, fM_init_220, fM_init_229, fM_init_238, fM_init_243, fM_init_248, fM_init_253, fM_init_262, fM_init_270, fM_init_278, fM_init_286, fM_init_300, fM_init_312, fM_init_316, bM_init_0, bM_init_4, bM_init_9, bM_init_18, bM_init_25, bM_init_32, bM_init_39, bM_init_51, bM_init_63, bM_init_74, bM_init_85, bM_init_93, bM_init_101, bM_init_113, bM_init_126, bM_init_134, bM_init_143, bM_init_152, bM_init_160, bM_init_171, bM_init_182, bM_init_194, bM_init_202, bM_init_211, bM_init_220, bM_init_229, bM_init_238, bM_init_243, bM_init_248, bM_init_253, bM_init_262, bM_init_270, bM_init_278, bM_init_286, bM_init_300, bM_init_312, bM_init_316, ty_m, Option.toList_some, Option.toList_none, List.cons_append, List.nil_append, List.length_cons, List.length_nil, List.mem_cons, List.not_mem_nil, or_false, false_or, or_true, true_or, ↓reduceIte, true_and, and_true, Nat.reduceEqDiff, Nat.reduceAdd, Nat.reduceLeDiff, Nat.reduceLT, dl_i, dl_r, dl_n, dl_u, eq_self, not_true_eq_false, not_false_eq_true, n10, n01, nm0, n0m, imp_t, imp_f]
    refine ⟨9, rfl, ?_⟩
    repeat (refine ⟨by decide, ?_⟩)
    intro b hs _
    rw [CM_sz] at hs
    have hb : b = Γ.1.2 + 68 := by omega
    subst hb
    refine ⟨500068, by omega, ad_m (k := 68) (by omega), fun _ => ?_⟩
    rw [CM_mk (k := 68) (k' := 69) rfl rfl (by omega) (by decide +kernel) (by decide) (by decide +kernel) (fun j => rl_f (y := 500001) (by decide +kernel) (by omega))]
    refine ⟨CM_t (by omega), rfl, ?_⟩
    rw [CM_up]
    exact s101 _ ((hI).z 500068 69 rfl rfl (by omega))
  have s85 : ∀ I, MZ J I 67 (fun a => if a = 3 then -1 else nI 0) → go 85 [some (.ref 500000)] [] I (CM (flE (shB false) F) Γ.1.2 67 [(500000, 16, 500046), (500000, 15, 500025), (500000, 14, 500015), (500000, 13, 500005), (500000, 12, 500004), (500000, 11, 500003), (500000, 10, 500002), (500000, 9, 500001)]) (66, 934) := by
    intro I hI
    refine hgo 20 [93] 85 _ _ _ _ _ ?_
    simp only [ixr_of, run_s, run_0, rM_init, rok_i, rok_z, bx_cons, bx_nil, eBP, eC1, eC2, eC3, eC5, eCV0, eCm1, eLA0, eMNA, eNAI, eNAZ, eOI, ePI, ePRF, ePZ, eRV, eSP, fM_init_0, fM_init_4, fM_init_9, fM_init_18, fM_init_25, fM_init_32, fM_init_39, fM_init_51, fM_init_63, fM_init_74, fM_init_85, fM_init_93, fM_init_101, fM_init_113, fM_init_126, fM_init_134, fM_init_143, fM_init_152, fM_init_160, fM_init_171, fM_init_182, fM_init_194, fM_init_202, fM_init_211, fM_init_220, fM_init_229, fM_init_238, fM_init_243, fM_init_248, fM_init_253, fM_init_262, fM_init_270, fM_init_278, fM_init_286, fM_init_300, fM_init_312, fM_init_316, bM_init_0, bM_init_4, bM_init_9, bM_init_18, bM_init_25, bM_init_32, bM_init_39, bM_init_51, bM_init_63, bM_init_74, bM_init_85, bM_init_93, bM_init_101, bM_init_113, bM_init_126, bM_init_134, bM_init_143, bM_init_152, bM_init_160, bM_init_171, bM_init_182, bM_init_194, bM_init_202, bM_init_211, bM_init_220, bM_init_229, bM_init_238, bM_init_243, bM_init_248, bM_init_253, bM_init_262, bM_init_270, bM_init_278, bM_init_286, bM_init_300, bM_init_312, bM_init_316, ty_m, Option.toList_some, Option.toList_none, List.cons_append, List.nil_append, List.length_cons, List.length_nil, List.mem_cons, List.not_mem_nil, or_false, false_or, or_true, true_or, ↓reduceIte, true_and, and_true, Nat.reduceEqDiff, Nat.reduceAdd, Nat.reduceLeDiff, Nat.reduceLT, dl_i, dl_r, dl_n, dl_u, eq_self, not_true_eq_false, not_false_eq_true, n10, n01, nm0, n0m, imp_t, imp_f]
    refine ⟨9, rfl, ?_⟩
    repeat (refine ⟨by decide, ?_⟩)
    intro b hs _
    rw [CM_sz] at hs
    have hb : b = Γ.1.2 + 67 := by omega
    subst hb
    refine ⟨500067, by omega, ad_m (k := 67) (by omega), fun _ => ?_⟩
    rw [CM_mk (k := 67) (k' := 68) rfl rfl (by omega) (by decide +kernel) (by decide) (by decide +kernel) (fun j => rl_f (y := 500001) (by decide +kernel) (by omega))]
    refine ⟨CM_t (by omega), rfl, ?_⟩
    rw [CM_up]
    exact s93 _ ((hI).z 500067 68 rfl rfl (by omega))
  have s74 : ∀ I, MZ J I 46 (fun a => if a = 3 then -1 else nI 0) → go 74 [some (.ref 500000)] [] I (CM (flE (shB false) F) Γ.1.2 46 [(500000, 15, 500025), (500000, 14, 500015), (500000, 13, 500005), (500000, 12, 500004), (500000, 11, 500003), (500000, 10, 500002), (500000, 9, 500001)]) (45, 854) := by
    intro I hI
    refine hgo 20 [85] 74 _ _ _ _ _ ?_
    simp only [ixr_of, run_s, run_0, rM_init, rok_i, rok_z, bx_cons, bx_nil, eBP, eC1, eC2, eC3, eC5, eCV0, eCm1, eLA0, eMNA, eNAI, eNAZ, eOI, ePI, ePRF, ePZ, eRV, eSP, fM_init_0, fM_init_4, fM_init_9, fM_init_18, fM_init_25, fM_init_32, fM_init_39, fM_init_51, fM_init_63, fM_init_74, fM_init_85, fM_init_93, fM_init_101, fM_init_113, fM_init_126, fM_init_134, fM_init_143, fM_init_152, fM_init_160, fM_init_171, fM_init_182, fM_init_194, fM_init_202, fM_init_211, fM_init_220, fM_init_229, fM_init_238, fM_init_243, fM_init_248, fM_init_253, fM_init_262, fM_init_270, fM_init_278, fM_init_286, fM_init_300, fM_init_312, fM_init_316, bM_init_0, bM_init_4, bM_init_9, bM_init_18, bM_init_25, bM_init_32, bM_init_39, bM_init_51, bM_init_63, bM_init_74, bM_init_85, bM_init_93, bM_init_101, bM_init_113, bM_init_126, bM_init_134, bM_init_143, bM_init_152, bM_init_160, bM_init_171, bM_init_182, bM_init_194, bM_init_202, bM_init_211, bM_init_220, bM_init_229, bM_init_238, bM_init_243, bM_init_248, bM_init_253, bM_init_262, bM_init_270, bM_init_278, bM_init_286, bM_init_300, bM_init_312, bM_init_316, ty_m, Option.toList_some, Option.toList_none, List.cons_append, List.nil_append, List.length_cons, List.length_nil, List.mem_cons, List.not_mem_nil, or_false, false_or, or_true, true_or, ↓reduceIte, true_and, and_true, Nat.reduceEqDiff, Nat.reduceAdd, Nat.reduceLeDiff, Nat.reduceLT, dl_i, dl_r, dl_n, dl_u, eq_self, not_true_eq_false, not_false_eq_true, n10, n01, nm0, n0m, imp_t, imp_f]
    refine ⟨hG, 20, 3, rfl, rfl, ?_⟩
    repeat (refine ⟨by decide, ?_⟩)
    intro b hs _
    rw [CM_sz] at hs
    have hb : b = Γ.1.2 + 46 := by omega
    subst hb
    refine ⟨500046, by omega, fun j hj => (by rw [show 500046 + j = 500000 + (46 + j) by omega, ad_m (by omega)]; omega), fun _ => rfl, fun _ => ?_⟩
    rw [CM_mk2 (k := 46) (k' := 67) rfl rfl (by omega) (by decide +kernel) (by decide +kernel) (by decide +kernel) (fun a c h => rl_f (y := 500001) (by decide +kernel) (by omega))]
    refine ⟨CM_t (by omega), rfl, ?_⟩
    rw [CM_up]
    exact s85 _ ((hI).z2 500046 20 67 rfl rfl (by omega))
  have s63 : ∀ I, MZ J I 25 (fun a => if a = 3 then -1 else nI 0) → go 63 [some (.ref 500000)] [] I (CM (flE (shB false) F) Γ.1.2 25 [(500000, 14, 500015), (500000, 13, 500005), (500000, 12, 500004), (500000, 11, 500003), (500000, 10, 500002), (500000, 9, 500001)]) (24, 774) := by
    intro I hI
    refine hgo 20 [74] 63 _ _ _ _ _ ?_
    simp only [ixr_of, run_s, run_0, rM_init, rok_i, rok_z, bx_cons, bx_nil, eBP, eC1, eC2, eC3, eC5, eCV0, eCm1, eLA0, eMNA, eNAI, eNAZ, eOI, ePI, ePRF, ePZ, eRV, eSP, fM_init_0, fM_init_4, fM_init_9, fM_init_18, fM_init_25, fM_init_32, fM_init_39, fM_init_51, fM_init_63, fM_init_74, fM_init_85, fM_init_93, fM_init_101, fM_init_113, fM_init_126, fM_init_134, fM_init_143, fM_init_152, fM_init_160, fM_init_171, fM_init_182, fM_init_194, fM_init_202, fM_init_211, fM_init_220, fM_init_229, fM_init_238, fM_init_243, fM_init_248, fM_init_253, fM_init_262, fM_init_270, fM_init_278, fM_init_286, fM_init_300, fM_init_312, fM_init_316, bM_init_0, bM_init_4, bM_init_9, bM_init_18, bM_init_25, bM_init_32, bM_init_39, bM_init_51, bM_init_63, bM_init_74, bM_init_85, bM_init_93, bM_init_101, bM_init_113, bM_init_126, bM_init_134, bM_init_143, bM_init_152, bM_init_160, bM_init_171, bM_init_182, bM_init_194, bM_init_202, bM_init_211, bM_init_220, bM_init_229, bM_init_238, bM_init_243, bM_init_248, bM_init_253, bM_init_262, bM_init_270, bM_init_278, bM_init_286, bM_init_300, bM_init_312, bM_init_316, ty_m, Option.toList_some, Option.toList_none, List.cons_append, List.nil_append, List.length_cons, List.length_nil, List.mem_cons, List.not_mem_nil, or_false, false_or, or_true, true_or, ↓reduceIte, true_and, and_true, Nat.reduceEqDiff, Nat.reduceAdd, Nat.reduceLeDiff, Nat.reduceLT, dl_i, dl_r, dl_n, dl_u, eq_self, not_true_eq_false, not_false_eq_true, n10, n01, nm0, n0m, imp_t, imp_f]
    refine ⟨hG, 20, 3, rfl, rfl, ?_⟩
    repeat (refine ⟨by decide, ?_⟩)
    intro b hs _
    rw [CM_sz] at hs
    have hb : b = Γ.1.2 + 25 := by omega
    subst hb
    refine ⟨500025, by omega, fun j hj => (by rw [show 500025 + j = 500000 + (25 + j) by omega, ad_m (by omega)]; omega), fun _ => rfl, fun _ => ?_⟩
    rw [CM_mk2 (k := 25) (k' := 46) rfl rfl (by omega) (by decide +kernel) (by decide +kernel) (by decide +kernel) (fun a c h => rl_f (y := 500001) (by decide +kernel) (by omega))]
    refine ⟨CM_t (by omega), rfl, ?_⟩
    rw [CM_up]
    exact s74 _ ((hI).z2 500025 20 46 rfl rfl (by omega))
  have s51 : ∀ I, MZ J I 15 (fun a => if a = 3 then -1 else nI 0) → go 51 [some (.ref 500000)] [] I (CM (flE (shB false) F) Γ.1.2 15 [(500000, 13, 500005), (500000, 12, 500004), (500000, 11, 500003), (500000, 10, 500002), (500000, 9, 500001)]) (14, 693) := by
    intro I hI
    refine hgo 20 [63] 51 _ _ _ _ _ ?_
    simp only [ixr_of, run_s, run_0, rM_init, rok_i, rok_z, bx_cons, bx_nil, eBP, eC1, eC2, eC3, eC5, eCV0, eCm1, eLA0, eMNA, eNAI, eNAZ, eOI, ePI, ePRF, ePZ, eRV, eSP, fM_init_0, fM_init_4, fM_init_9, fM_init_18, fM_init_25, fM_init_32, fM_init_39, fM_init_51, fM_init_63, fM_init_74, fM_init_85, fM_init_93, fM_init_101, fM_init_113, fM_init_126, fM_init_134, fM_init_143, fM_init_152, fM_init_160, fM_init_171, fM_init_182, fM_init_194, fM_init_202, fM_init_211, fM_init_220, fM_init_229, fM_init_238, fM_init_243, fM_init_248, fM_init_253, fM_init_262, fM_init_270, fM_init_278, fM_init_286, fM_init_300, fM_init_312, fM_init_316, bM_init_0, bM_init_4, bM_init_9, bM_init_18, bM_init_25, bM_init_32, bM_init_39, bM_init_51, bM_init_63, bM_init_74, bM_init_85, bM_init_93, bM_init_101, bM_init_113, bM_init_126, bM_init_134, bM_init_143, bM_init_152, bM_init_160, bM_init_171, bM_init_182, bM_init_194, bM_init_202, bM_init_211, bM_init_220, bM_init_229, bM_init_238, bM_init_243, bM_init_248, bM_init_253, bM_init_262, bM_init_270, bM_init_278, bM_init_286, bM_init_300, bM_init_312, bM_init_316, ty_m, Option.toList_some, Option.toList_none, List.cons_append, List.nil_append, List.length_cons, List.length_nil, List.mem_cons, List.not_mem_nil, or_false, false_or, or_true, true_or, ↓reduceIte, true_and, and_true, Nat.reduceEqDiff, Nat.reduceAdd, Nat.reduceLeDiff, Nat.reduceLT, dl_i, dl_r, dl_n, dl_u, eq_self, not_true_eq_false, not_false_eq_true, n10, n01, nm0, n0m, imp_t, imp_f]
    refine ⟨hG, 9, 8, rfl, rfl, ?_⟩
    repeat (refine ⟨by decide, ?_⟩)
    intro b hs _
    rw [CM_sz] at hs
    have hb : b = Γ.1.2 + 15 := by omega
    subst hb
    refine ⟨500015, by omega, fun j hj => (by rw [show 500015 + j = 500000 + (15 + j) by omega, ad_m (by omega)]; omega), fun _ => rfl, fun _ => ?_⟩
    rw [CM_mk2 (k := 15) (k' := 25) rfl rfl (by omega) (by decide +kernel) (by decide +kernel) (by decide +kernel) (fun a c h => rl_f (y := 500001) (by decide +kernel) (by omega))]
    refine ⟨CM_t (by omega), rfl, ?_⟩
    rw [CM_up]
    exact s63 _ ((hI).z2 500015 9 25 rfl rfl (by omega))
  have s39 : ∀ I, MZ J I 5 (fun a => if a = 3 then -1 else nI 0) → go 39 [some (.ref 500000)] [] I (CM (flE (shB false) F) Γ.1.2 5 [(500000, 12, 500004), (500000, 11, 500003), (500000, 10, 500002), (500000, 9, 500001)]) (4, 612) := by
    intro I hI
    refine hgo 20 [51] 39 _ _ _ _ _ ?_
    simp only [ixr_of, run_s, run_0, rM_init, rok_i, rok_z, bx_cons, bx_nil, eBP, eC1, eC2, eC3, eC5, eCV0, eCm1, eLA0, eMNA, eNAI, eNAZ, eOI, ePI, ePRF, ePZ, eRV, eSP, fM_init_0, fM_init_4, fM_init_9, fM_init_18, fM_init_25, fM_init_32, fM_init_39, fM_init_51, fM_init_63, fM_init_74, fM_init_85, fM_init_93, fM_init_101, fM_init_113, fM_init_126, fM_init_134, fM_init_143, fM_init_152, fM_init_160, fM_init_171, fM_init_182, fM_init_194, fM_init_202, fM_init_211, fM_init_220, fM_init_229, fM_init_238, fM_init_243, fM_init_248, fM_init_253, fM_init_262, fM_init_270, fM_init_278, fM_init_286, fM_init_300, fM_init_312, fM_init_316, bM_init_0, bM_init_4, bM_init_9, bM_init_18, bM_init_25, bM_init_32, bM_init_39, bM_init_51, bM_init_63, bM_init_74, bM_init_85, bM_init_93, bM_init_101, bM_init_113, bM_init_126, bM_init_134, bM_init_143, bM_init_152, bM_init_160, bM_init_171, bM_init_182, bM_init_194, bM_init_202, bM_init_211, bM_init_220, bM_init_229, bM_init_238, bM_init_243, bM_init_248, bM_init_253, bM_init_262, bM_init_270, bM_init_278, bM_init_286, bM_init_300, bM_init_312, bM_init_316, ty_m, Option.toList_some, Option.toList_none, List.cons_append, List.nil_append, List.length_cons, List.length_nil, List.mem_cons, List.not_mem_nil, or_false, false_or, or_true, true_or, ↓reduceIte, true_and, and_true, Nat.reduceEqDiff, Nat.reduceAdd, Nat.reduceLeDiff, Nat.reduceLT, dl_i, dl_r, dl_n, dl_u, eq_self, not_true_eq_false, not_false_eq_true, n10, n01, nm0, n0m, imp_t, imp_f]
    refine ⟨hG, 9, 8, rfl, rfl, ?_⟩
    repeat (refine ⟨by decide, ?_⟩)
    intro b hs _
    rw [CM_sz] at hs
    have hb : b = Γ.1.2 + 5 := by omega
    subst hb
    refine ⟨500005, by omega, fun j hj => (by rw [show 500005 + j = 500000 + (5 + j) by omega, ad_m (by omega)]; omega), fun _ => rfl, fun _ => ?_⟩
    rw [CM_mk2 (k := 5) (k' := 15) rfl rfl (by omega) (by decide +kernel) (by decide +kernel) (by decide +kernel) (fun a c h => rl_f (y := 500001) (by decide +kernel) (by omega))]
    refine ⟨CM_t (by omega), rfl, ?_⟩
    rw [CM_up]
    exact s51 _ ((hI).z2 500005 9 15 rfl rfl (by omega))
  have s32 : ∀ I, MZ J I 4 (fun a => if a = 3 then -1 else nI 0) → go 32 [some (.ref 500000)] [] I (CM (flE (shB false) F) Γ.1.2 4 [(500000, 11, 500003), (500000, 10, 500002), (500000, 9, 500001)]) (3, 607) := by
    intro I hI
    refine hgo 20 [39] 32 _ _ _ _ _ ?_
    simp only [ixr_of, run_s, run_0, rM_init, rok_i, rok_z, bx_cons, bx_nil, eBP, eC1, eC2, eC3, eC5, eCV0, eCm1, eLA0, eMNA, eNAI, eNAZ, eOI, ePI, ePRF, ePZ, eRV, eSP, fM_init_0, fM_init_4, fM_init_9, fM_init_18, fM_init_25, fM_init_32, fM_init_39, fM_init_51, fM_init_63, fM_init_74, fM_init_85, fM_init_93, fM_init_101, fM_init_113, fM_init_126, fM_init_134, fM_init_143, fM_init_152, fM_init_160, fM_init_171, fM_init_182, fM_init_194, fM_init_202, fM_init_211, fM_init_220, fM_init_229, fM_init_238, fM_init_243, fM_init_248, fM_init_253, fM_init_262, fM_init_270, fM_init_278, fM_init_286, fM_init_300, fM_init_312, fM_init_316, bM_init_0, bM_init_4, bM_init_9, bM_init_18, bM_init_25, bM_init_32, bM_init_39, bM_init_51, bM_init_63, bM_init_74, bM_init_85, bM_init_93, bM_init_101, bM_init_113, bM_init_126, bM_init_134, bM_init_143, bM_init_152, bM_init_160, bM_init_171, bM_init_182, bM_init_194, bM_init_202, bM_init_211, bM_init_220, bM_init_229, bM_init_238, bM_init_243, bM_init_248, bM_init_253, bM_init_262, bM_init_270, bM_init_278, bM_init_286, bM_init_300, bM_init_312, bM_init_316, ty_m, Option.toList_some, Option.toList_none, List.cons_append, List.nil_append, List.length_cons, List.length_nil, List.mem_cons, List.not_mem_nil, or_false, false_or, or_true, true_or, ↓reduceIte, true_and, and_true, Nat.reduceEqDiff, Nat.reduceAdd, Nat.reduceLeDiff, Nat.reduceLT, dl_i, dl_r, dl_n, dl_u, eq_self, not_true_eq_false, not_false_eq_true, n10, n01, nm0, n0m, imp_t, imp_f]
    refine ⟨5, rfl, ?_⟩
    repeat (refine ⟨by decide, ?_⟩)
    intro b hs _
    rw [CM_sz] at hs
    have hb : b = Γ.1.2 + 4 := by omega
    subst hb
    refine ⟨500004, by omega, ad_m (k := 4) (by omega), fun _ => ?_⟩
    rw [CM_mk (k := 4) (k' := 5) rfl rfl (by omega) (by decide +kernel) (by decide) (by decide +kernel) (fun j => rl_f (y := 500001) (by decide +kernel) (by omega))]
    refine ⟨CM_t (by omega), rfl, ?_⟩
    rw [CM_up]
    exact s39 _ ((hI).z 500004 5 rfl rfl (by omega))
  have s25 : ∀ I, MZ J I 3 (fun a => if a = 3 then -1 else nI 0) → go 25 [some (.ref 500000)] [] I (CM (flE (shB false) F) Γ.1.2 3 [(500000, 10, 500002), (500000, 9, 500001)]) (2, 602) := by
    intro I hI
    refine hgo 20 [32] 25 _ _ _ _ _ ?_
    simp only [ixr_of, run_s, run_0, rM_init, rok_i, rok_z, bx_cons, bx_nil, eBP, eC1, eC2, eC3, eC5, eCV0, eCm1, eLA0, eMNA, eNAI, eNAZ, eOI, ePI, ePRF, ePZ, eRV, eSP, fM_init_0, fM_init_4, fM_init_9, fM_init_18, fM_init_25, fM_init_32, fM_init_39, fM_init_51, fM_init_63, fM_init_74, fM_init_85, fM_init_93, fM_init_101, fM_init_113, fM_init_126, fM_init_134, fM_init_143, fM_init_152, fM_init_160, fM_init_171, fM_init_182, fM_init_194, fM_init_202, fM_init_211, fM_init_220, fM_init_229, fM_init_238, fM_init_243, fM_init_248, fM_init_253, fM_init_262, fM_init_270, fM_init_278, fM_init_286, fM_init_300, fM_init_312, fM_init_316, bM_init_0, bM_init_4, bM_init_9, bM_init_18, bM_init_25, bM_init_32, bM_init_39, bM_init_51, bM_init_63, bM_init_74, bM_init_85, bM_init_93, bM_init_101, bM_init_113, bM_init_126, bM_init_134, bM_init_143, bM_init_152, bM_init_160, bM_init_171, bM_init_182, bM_init_194, bM_init_202, bM_init_211, bM_init_220, bM_init_229, bM_init_238, bM_init_243, bM_init_248, bM_init_253, bM_init_262, bM_init_270, bM_init_278, bM_init_286, bM_init_300, bM_init_312, bM_init_316, ty_m, Option.toList_some, Option.toList_none, List.cons_append, List.nil_append, List.length_cons, List.length_nil, List.mem_cons, List.not_mem_nil, or_false, false_or, or_true, true_or, ↓reduceIte, true_and, and_true, Nat.reduceEqDiff, Nat.reduceAdd, Nat.reduceLeDiff, Nat.reduceLT, dl_i, dl_r, dl_n, dl_u, eq_self, not_true_eq_false, not_false_eq_true, n10, n01, nm0, n0m, imp_t, imp_f]
    refine ⟨5, rfl, ?_⟩
    repeat (refine ⟨by decide, ?_⟩)
    intro b hs _
    rw [CM_sz] at hs
    have hb : b = Γ.1.2 + 3 := by omega
    subst hb
    refine ⟨500003, by omega, ad_m (k := 3) (by omega), fun _ => ?_⟩
    rw [CM_mk (k := 3) (k' := 4) rfl rfl (by omega) (by decide +kernel) (by decide) (by decide +kernel) (fun j => rl_f (y := 500001) (by decide +kernel) (by omega))]
    refine ⟨CM_t (by omega), rfl, ?_⟩
    rw [CM_up]
    exact s32 _ ((hI).z 500003 4 rfl rfl (by omega))
  have s18 : ∀ I, MZ J I 2 (fun a => if a = 3 then -1 else nI 0) → go 18 [some (.ref 500000)] [] I (CM (flE (shB false) F) Γ.1.2 2 [(500000, 9, 500001)]) (1, 600) := by
    intro I hI
    refine hgo 20 [25] 18 _ _ _ _ _ ?_
    simp only [ixr_of, run_s, run_0, rM_init, rok_i, rok_z, bx_cons, bx_nil, eBP, eC1, eC2, eC3, eC5, eCV0, eCm1, eLA0, eMNA, eNAI, eNAZ, eOI, ePI, ePRF, ePZ, eRV, eSP, fM_init_0, fM_init_4, fM_init_9, fM_init_18, fM_init_25, fM_init_32, fM_init_39, fM_init_51, fM_init_63, fM_init_74, fM_init_85, fM_init_93, fM_init_101, fM_init_113, fM_init_126, fM_init_134, fM_init_143, fM_init_152, fM_init_160, fM_init_171, fM_init_182, fM_init_194, fM_init_202, fM_init_211, fM_init_220, fM_init_229, fM_init_238, fM_init_243, fM_init_248, fM_init_253, fM_init_262, fM_init_270, fM_init_278, fM_init_286, fM_init_300, fM_init_312, fM_init_316, bM_init_0, bM_init_4, bM_init_9, bM_init_18, bM_init_25, bM_init_32, bM_init_39, bM_init_51, bM_init_63, bM_init_74, bM_init_85, bM_init_93, bM_init_101, bM_init_113, bM_init_126, bM_init_134, bM_init_143, bM_init_152, bM_init_160, bM_init_171, bM_init_182, bM_init_194, bM_init_202, bM_init_211, bM_init_220, bM_init_229, bM_init_238, bM_init_243, bM_init_248, bM_init_253, bM_init_262, bM_init_270, bM_init_278, bM_init_286, bM_init_300, bM_init_312, bM_init_316, ty_m, Option.toList_some, Option.toList_none, List.cons_append, List.nil_append, List.length_cons, List.length_nil, List.mem_cons, List.not_mem_nil, or_false, false_or, or_true, true_or, ↓reduceIte, true_and, and_true, Nat.reduceEqDiff, Nat.reduceAdd, Nat.reduceLeDiff, Nat.reduceLT, dl_i, dl_r, dl_n, dl_u, eq_self, not_true_eq_false, not_false_eq_true, n10, n01, nm0, n0m, imp_t, imp_f]
    refine ⟨2, rfl, ?_⟩
    repeat (refine ⟨by decide, ?_⟩)
    intro b hs _
    rw [CM_sz] at hs
    have hb : b = Γ.1.2 + 2 := by omega
    subst hb
    refine ⟨500002, by omega, ad_m (k := 2) (by omega), fun _ => ?_⟩
    rw [CM_mk (k := 2) (k' := 3) rfl rfl (by omega) (by decide +kernel) (by decide) (by decide +kernel) (fun j => rl_f (y := 500001) (by decide +kernel) (by omega))]
    refine ⟨CM_t (by omega), rfl, ?_⟩
    rw [CM_up]
    exact s25 _ ((hI).z 500002 3 rfl rfl (by omega))
  have s9 : ∀ I, MZ J I 1 (fun a => if a = 3 then -1 else nI 0) → go 9 [some (.ref 500000)] [] I (CM (flE (shB false) F) Γ.1.2 1 []) (0, 0) := by
    intro I hI
    refine hgo 20 [18] 9 _ _ _ _ _ ?_
    simp only [ixr_of, run_s, run_0, rM_init, rok_i, rok_z, bx_cons, bx_nil, eBP, eC1, eC2, eC3, eC5, eCV0, eCm1, eLA0, eMNA, eNAI, eNAZ, eOI, ePI, ePRF, ePZ, eRV, eSP, fM_init_0, fM_init_4, fM_init_9, fM_init_18, fM_init_25, fM_init_32, fM_init_39, fM_init_51, fM_init_63, fM_init_74, fM_init_85, fM_init_93, fM_init_101, fM_init_113, fM_init_126, fM_init_134, fM_init_143, fM_init_152, fM_init_160, fM_init_171, fM_init_182, fM_init_194, fM_init_202, fM_init_211, fM_init_220, fM_init_229, fM_init_238, fM_init_243, fM_init_248, fM_init_253, fM_init_262, fM_init_270, fM_init_278, fM_init_286, fM_init_300, fM_init_312, fM_init_316, bM_init_0, bM_init_4, bM_init_9, bM_init_18, bM_init_25, bM_init_32, bM_init_39, bM_init_51, bM_init_63, bM_init_74, bM_init_85, bM_init_93, bM_init_101, bM_init_113, bM_init_126, bM_init_134, bM_init_143, bM_init_152, bM_init_160, bM_init_171, bM_init_182, bM_init_194, bM_init_202, bM_init_211, bM_init_220, bM_init_229, bM_init_238, bM_init_243, bM_init_248, bM_init_253, bM_init_262, bM_init_270, bM_init_278, bM_init_286, bM_init_300, bM_init_312, bM_init_316, ty_m, Option.toList_some, Option.toList_none, List.cons_append, List.nil_append, List.length_cons, List.length_nil, List.mem_cons, List.not_mem_nil, or_false, false_or, or_true, true_or, ↓reduceIte, true_and, and_true, Nat.reduceEqDiff, Nat.reduceAdd, Nat.reduceLeDiff, Nat.reduceLT, dl_i, dl_r, dl_n, dl_u, eq_self, not_true_eq_false, not_false_eq_true, n10, n01, nm0, n0m, imp_t, imp_f]
    refine ⟨600, rfl, ?_⟩
    repeat (refine ⟨by decide, ?_⟩)
    intro b hs _
    rw [CM_sz] at hs
    have hb : b = Γ.1.2 + 1 := by omega
    subst hb
    refine ⟨500001, by omega, ad_m (k := 1) (by omega), fun _ => ?_⟩
    rw [CM_mk (k := 1) (k' := 2) rfl rfl (by omega) (by decide +kernel) (by decide) (by decide +kernel) (fun j => rl_f (y := 500001) (by decide +kernel) (by omega))]
    refine ⟨CM_t (by omega), rfl, ?_⟩
    rw [CM_up]
    exact s18 _ ((hI).z 500001 2 rfl rfl (by omega))
  have s4 : ∀ I, MZ J I 1 (fun _ => nI 0) → go 4 [some (.ref 500000)] [] I (CM (flE (shB false) F) Γ.1.2 1 []) (0, 0) := by
    intro I hI
    have tY : tyc sh0 (CM (flE (shB false) F) Γ.1.2 1 []) 500000 = 12 := CM_t (by omega)
    refine hgo 20 [9] 4 _ _ _ _ _ ?_
    simp only [ixr_of, run_s, run_0, rM_init, rok_i, rok_z, bx_cons, bx_nil, eBP, eC1, eC2, eC3, eC5, eCV0, eCm1, eLA0, eMNA, eNAI, eNAZ, eOI, ePI, ePRF, ePZ, eRV, eSP, fM_init_0, fM_init_4, fM_init_9, fM_init_18, fM_init_25, fM_init_32, fM_init_39, fM_init_51, fM_init_63, fM_init_74, fM_init_85, fM_init_93, fM_init_101, fM_init_113, fM_init_126, fM_init_134, fM_init_143, fM_init_152, fM_init_160, fM_init_171, fM_init_182, fM_init_194, fM_init_202, fM_init_211, fM_init_220, fM_init_229, fM_init_238, fM_init_243, fM_init_248, fM_init_253, fM_init_262, fM_init_270, fM_init_278, fM_init_286, fM_init_300, fM_init_312, fM_init_316, bM_init_0, bM_init_4, bM_init_9, bM_init_18, bM_init_25, bM_init_32, bM_init_39, bM_init_51, bM_init_63, bM_init_74, bM_init_85, bM_init_93, bM_init_101, bM_init_113, bM_init_126, bM_init_134, bM_init_143, bM_init_152, bM_init_160, bM_init_171, bM_init_182, bM_init_194, bM_init_202, bM_init_211, bM_init_220, bM_init_229, bM_init_238, bM_init_243, bM_init_248, bM_init_253, bM_init_262, bM_init_270, bM_init_278, bM_init_286, bM_init_300, bM_init_312, bM_init_316, ty_m, Option.toList_some, Option.toList_none, List.cons_append, List.nil_append, List.length_cons, List.length_nil, List.mem_cons, List.not_mem_nil, or_false, false_or, or_true, true_or, ↓reduceIte, true_and, and_true, Nat.reduceEqDiff, Nat.reduceAdd, Nat.reduceLeDiff, Nat.reduceLT, dl_i, dl_r, dl_n, dl_u, eq_self, not_true_eq_false, not_false_eq_true, n10, n01, nm0, n0m, tY, imp_t, imp_f]
    exact s9 _ ((hI).up 3 (-1))
  have s0 : ∀ I, MZ J I 1 (fun _ => nI 0) → go 0 [some (.ref 500000)] [] I (CM (flE (shB false) F) Γ.1.2 1 []) (0, 0) := by
    intro I hI
    have tY : tyc sh0 (CM (flE (shB false) F) Γ.1.2 1 []) 500000 = 12 := CM_t (by omega)
    refine hgo 20 [4] 0 _ _ _ _ _ ?_
    simp only [ixr_of, run_s, run_0, rM_init, rok_i, rok_z, bx_cons, bx_nil, eBP, eC1, eC2, eC3, eC5, eCV0, eCm1, eLA0, eMNA, eNAI, eNAZ, eOI, ePI, ePRF, ePZ, eRV, eSP, fM_init_0, fM_init_4, fM_init_9, fM_init_18, fM_init_25, fM_init_32, fM_init_39, fM_init_51, fM_init_63, fM_init_74, fM_init_85, fM_init_93, fM_init_101, fM_init_113, fM_init_126, fM_init_134, fM_init_143, fM_init_152, fM_init_160, fM_init_171, fM_init_182, fM_init_194, fM_init_202, fM_init_211, fM_init_220, fM_init_229, fM_init_238, fM_init_243, fM_init_248, fM_init_253, fM_init_262, fM_init_270, fM_init_278, fM_init_286, fM_init_300, fM_init_312, fM_init_316, bM_init_0, bM_init_4, bM_init_9, bM_init_18, bM_init_25, bM_init_32, bM_init_39, bM_init_51, bM_init_63, bM_init_74, bM_init_85, bM_init_93, bM_init_101, bM_init_113, bM_init_126, bM_init_134, bM_init_143, bM_init_152, bM_init_160, bM_init_171, bM_init_182, bM_init_194, bM_init_202, bM_init_211, bM_init_220, bM_init_229, bM_init_238, bM_init_243, bM_init_248, bM_init_253, bM_init_262, bM_init_270, bM_init_278, bM_init_286, bM_init_300, bM_init_312, bM_init_316, ty_m, Option.toList_some, Option.toList_none, List.cons_append, List.nil_append, List.length_cons, List.length_nil, List.mem_cons, List.not_mem_nil, or_false, false_or, or_true, true_or, ↓reduceIte, true_and, and_true, Nat.reduceEqDiff, Nat.reduceAdd, Nat.reduceLeDiff, Nat.reduceLT, dl_i, dl_r, dl_n, dl_u, eq_self, not_true_eq_false, not_false_eq_true, n10, n01, nm0, n0m, tY, imp_t, imp_f]
    exact s4 _ (hI)
  exact s0 _ MZ.b

