/-! constructors, 4: another view; the class -/
theorem ex_vw {Γ : Gm} {l : Launch} {sh sh' : Sh} {d : Nat} {M : Uv} {mt : Mt} {av : List Value} {I : Iv} {E E' : Ev} {kr : Kr} {kx : Kxx} (hP : ∀ H, Wd Γ sh I E H → Wd Γ sh' I E' H) (h : Ex Γ l sh' d M mt av I E' (fun r I' F' => ∃ F, (∀ H, Wd Γ sh' I' F' H → Wd Γ sh I' F H) ∧ kr r I' F) (fun C I' F' => ∃ F, (∀ H, Wd Γ sh' I' F' H → Wd Γ sh I' F H) ∧ kx C I' F)) : Ex Γ l sh d M mt av I E kr kx := by
  intro p e h1 h2 h3 s m args below h4 h5 h6 h7
  obtain ⟨k, o, a1, a2, a3, a4⟩ := h p e h1 h2 h3 s m args below h4 h5 ⟨h6.1, hP _ h6.2.1, h6.2.2⟩ h7
  refine ⟨k, o, a1, a2, a3, ?_⟩
  rcases a4 with ⟨⟨r, I', F', q1, q2, F, q3, q4⟩, q5⟩ | ⟨q, q1, C, ce, L, ⟨I', F', q2, F, q3, q4⟩, q5⟩
  · exact Or.inl ⟨⟨r, I', F, q1, q3 _ q2, q4⟩, q5⟩
  · exact Or.inr ⟨q, q1, C, ce, L, ⟨I', F, q3 _ q2, q4⟩, q5⟩
/-- all of a view told openly -/
def flE (sh : Sh) (F : Ev) : Ev := (fun i j => match sh.2.2 i j with | some r => r + 1 | none => F.1 i j, fun i => tyc sh F i, fun i => if i = 999999 then F.2.2 999999 else len sh F i)
theorem fl_ty {sh : Sh} {F : Ev} {i : Nat} : tyc sh0 (flE sh F) i = tyc sh F i := by
  unfold tyc sh0 flE
  dsimp only
  rw [if_pos rfl]
  rfl
theorem fl_ln {sh : Sh} {F : Ev} {i : Nat} (h : i ≠ 999999) : len sh0 (flE sh F) i = len sh F i := by
  show (if (0 : Nat) = 0 then (if i = 999999 then F.2.2 999999 else len sh F i) else 0) = _
  rw [if_pos rfl, if_neg h]
theorem fl_rg {sh : Sh} {F : Ev} {i j : Nat} : rget sh0 (flE sh F) i j = rget sh F i j := by
  show rid (match sh.2.2 i j with | some r => r + 1 | none => F.1 i j) = match sh.2.2 i j with | some b => .ref b | none => rid (F.1 i j)
  cases sh.2.2 i j with
  | none => rfl
  | some r => rfl
theorem fl_sz {sh : Sh} {F : Ev} : (flE sh F).2.2 999999 = F.2.2 999999 := by
  unfold flE
  dsimp only
  rw [if_pos rfl]
theorem Wd.fl {Γ : Gm} {sh : Sh} {I : Iv} {F : Ev} {H : Heap} (h : Wd Γ sh I F H) : Wd Γ sh0 I (flE sh F) H := by
  have h9 := h.1.2.1
  refine h.view (by rw [fl_ty]; exact h9) (Or.inr (Or.inl fl_sz)) (fun i hi => ?_)
  rw [fl_ty] at hi
  exact ⟨fl_ty.symm, fun _ => (fl_ln (fun e => hi (by rw [e]; exact h9))).symm, fun j _ => fl_rg.symm⟩
theorem Wd.unf {Γ : Gm} {sh : Sh} {I : Iv} {F : Ev} {H : Heap} (h : Wd Γ sh0 I (flE sh F) H) : Wd Γ sh I F H := by
  have h9 := h.1.2.1
  rw [fl_ty] at h9
  exact h.view h9 (Or.inr (Or.inl fl_sz.symm)) (fun i hi => ⟨fl_ty, fun _ => fl_ln (fun e => hi (by rw [e]; exact h9)), fun j _ => fl_rg⟩)

def hS1 : List (Nat × Nat × Nat) := [(0, 0, 1), (1, 0, 2)]
def hS2 : List (Nat × Nat × Nat) := (0, 1, 3) :: opsR 9 (aqR hS1)
def hS3 : List (Nat × Nat × Nat) := (0, 2, 47) :: (47, 0, 3) :: (47, 3, 57) :: (47, 2, 56) :: (47, 1, 48) :: dyR' 48 hS2
def hS4 : List (Nat × Nat × Nat) := (0, 3, 58) :: (58, 0, 3) :: (58, 3, 68) :: opR 68 ((58, 2, 67) :: (58, 1, 59) :: dyR' 59 hS3)
def hS5 : List (Nat × Nat × Nat) := (0, 4, 71) :: dyR' 71 hS4
def hS6 : List (Nat × Nat × Nat) := (0, 5, 79) :: (79, 0, 80) :: hS5
def hS7 : List (Nat × Nat × Nat) := (0, 6, 81) :: hS6
def hS8 : List (Nat × Nat × Nat) := (0, 7, 82) :: hS7
def hS9 : List (Nat × Nat × Nat) := (0, 8, 83) :: tnR 83 hS8
def hS10 : List (Nat × Nat × Nat) := (0, 9, 94) :: opR 94 hS9
def hS11 : List (Nat × Nat × Nat) := (0, 10, 97) :: (97, 1, 94) :: (97, 0, 1) :: hS10
def hS12 : List (Nat × Nat × Nat) := (0, 11, 98) :: opR 98 hS11
def imsR : Nat → List (Nat × Nat × Nat)
  | 0 => hS12
  | v + 1 => (81, v, 101 + 8 * v) :: dyR' (101 + 8 * v) (imsR v)
theorem rl_mem {i j r : Nat} : ∀ (L : List (Nat × Nat × Nat)), rlk L i j = some r → (i, j, r) ∈ L
  | [], h => by cases h
  | q :: t, h => by
    unfold rlk at h
    by_cases e : q.1 = i ∧ q.2.1 = j
    · rw [if_pos e] at h
      have : q = (i, j, r) := Prod.ext e.1 (Prod.ext e.2 (Option.some.inj h))
      rw [this]
      exact List.mem_cons_self
    · rw [if_neg e] at h
      exact List.mem_cons_of_mem _ (rl_mem t h)
theorem ims_ok : (rTl.all (fun q => decide (500000 ≤ q.1) || (rlk (imsR 3) q.1 q.2.1 == some q.2.2))) = true := by decide +kernel
theorem ims_r {i j r : Nat} (hi : i < 500000) (h : rlk rTl i j = some r) : rlk (imsR 3) i j = some r := by
  have := List.all_eq_true.mp ims_ok _ (rl_mem rTl h)
  rw [Bool.or_eq_true] at this
  rcases this with c | c
  · exact absurd (of_decide_eq_true c) (by omega)
  · exact eq_of_beq c
def xE0 (B : Nat) : Ev := ((CE B 125 (imsR 3)).1, fun _ => 0, fun a => if a = 999999 then B + 126 else 0)
theorem xT107 : (xTl.all (fun t => decide (t ≠ 107))) = true := by decide +kernel
theorem xT_107 {i : Nat} : xTl.getD i 0 ≠ 107 := by
  rw [List.getD_eq_getElem?_getD]
  cases h : xTl[i]? with
  | none => decide
  | some t =>
    have := List.all_eq_true.mp xT107 t (List.mem_of_getElem? h)
    simpa using this
theorem tSf {i : Nat} : tS false i = if i < 125 then xTl.getD i 0 else 0 := by
  unfold tS
  have hl : xTl.length = 125 := by decide +kernel
  by_cases h : i < 500000
  · rw [if_pos h]
    by_cases h2 : i < 125
    · rw [if_pos h2]
    · rw [if_neg h2, List.getD_eq_getElem?_getD, List.getElem?_eq_none (by omega)]
      rfl
  · rw [if_neg h, if_neg (by decide), if_neg (by omega)]
theorem Wd.x0 {Γ : Gm} {I : Iv} {H : Heap} (h : Wd Γ sh0 I (CE Γ.1.1 125 (imsR 3)) H) : Wd Γ (shB false) I (xE0 Γ.1.1) H := by
  have ty : ∀ i, tyc (shB false) (xE0 Γ.1.1) i = if i < 125 then xTl.getD i 0 else 0 := fun i => by
    show (if tS false i = 0 then 0 else tS false i) = _
    rw [← tSf]
    by_cases e : tS false i = 0
    · rw [if_pos e, e]
    · rw [if_neg e]
  refine h.view (by rw [ty, if_neg (by omega)]) (Or.inr (Or.inl ?_)) (fun i hi => ?_)
  · rw [CE_sz]
    unfold xE0
    dsimp only
    rw [if_pos rfl]
  · rw [ty] at hi
    by_cases h2 : i < 125
    · rw [if_pos h2] at hi
      rw [ty, if_pos h2]
      refine ⟨CE_ty h2, fun _ => ?_, fun j _ => ?_⟩
      · rw [CE_ln h2 (by omega)]
        unfold len
        rw [show (shB false).1 i = tS false i from rfl, tSf, if_pos h2, if_neg hi]
        show _ = nS i
        unfold nS
        rw [if_pos (by omega)]
      · have hp : (shB false).2.2 i j = rlk rTl i j := pS_x (by omega) xT_107 rfl
        unfold rget
        rw [hp]
        cases hq : rlk rTl i j with
        | none => rfl
        | some r =>
          have h3 : rget sh0 (CE Γ.1.1 125 (imsR 3)) i j = .ref r := CE_rg (ims_r (by omega) hq)
          exact h3
    · rw [if_neg h2] at hi
      exact absurd rfl hi

