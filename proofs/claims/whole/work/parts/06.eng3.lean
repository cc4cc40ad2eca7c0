/-! THE ENGINE, 3: words for instructions that touch the heap, calls, ends -/
def up (I : Iv) (i j : Nat) (x : Int32) : Iv := fun a b => if a = i ∧ b = j then x else I a b
def upR (R : Nat → Nat → Nat) (i j x : Nat) : Nat → Nat → Nat := fun a b => if a = i ∧ b = j then x else R a b
theorem up_s {I : Iv} {i j : Nat} {x : Int32} : up I i j x i j = x := if_pos ⟨rfl, rfl⟩
theorem up_n {I : Iv} {i j a b : Nat} {x : Int32} (h : ¬ (a = i ∧ b = j)) : up I i j x a b = I a b := if_neg h
theorem clf (k : Nat) (q : vw_C) (h : hcl[k]? = some q) : (∀ w ∈ u_ws q.1 q.2.1 q.2.2, w ∈ gtb) ∧ (∃ ty : Nat → FieldType, (∀ j, j < q.2.2 → parseFieldDescriptor (q.2.1 j).2.2.1 = some (ty j)) ∧ ∀ j, rfs (k + 1) j = isRt (ty j)) ∧ (∀ a, a < q.2.2 → ∀ b, b < q.2.2 → a ≠ b → (q.2.1 a).2.1 ≠ (q.2.1 b).2.1) :=
  match k, h with
  | 0, h => by cases h; exact ⟨hW0, ⟨hY0, hP0, fun _ => rfl⟩, hN0⟩
  | 1, h => by cases h; exact ⟨hW1, ⟨hY1, hP1, fun _ => rfl⟩, hN1⟩
  | 2, h => by cases h; exact ⟨hW2, ⟨hY2, hP2, fun _ => rfl⟩, hN2⟩
  | 3, h => by cases h; exact ⟨hW3, ⟨hY3, hP3, fun _ => rfl⟩, hN3⟩
  | 4, h => by cases h; exact ⟨hW4, ⟨hY4, hP4, fun _ => rfl⟩, hN4⟩
  | 5, h => by cases h; exact ⟨hW5, ⟨hY5, hP5, fun _ => rfl⟩, hN5⟩
  | 6, h => by cases h; exact ⟨hW6, ⟨hY6, hP6, fun _ => rfl⟩, hN6⟩
  | 7, h => by cases h; exact ⟨hW7, ⟨hY7, hP7, fun _ => rfl⟩, hN7⟩
  | 8, h => by cases h; exact ⟨hW8, ⟨hY8, hP8, fun _ => rfl⟩, hN8⟩
  | 9, h => by cases h; exact ⟨hW9, ⟨hY9, hP9, fun _ => rfl⟩, hN9⟩
  | 10, h => by cases h; exact ⟨hW10, ⟨hY10, hP10, fun _ => rfl⟩, hN10⟩
  | 11, h => by cases h; exact ⟨hW11, ⟨hY11, hP11, fun _ => rfl⟩, hN11⟩
  | n + 12, h => by simp [hcl] at h
theorem hcl_lt {k : Nat} {q : vw_C} (h : hcl[k]? = some q) : k < 12 := by
  have := (List.getElem?_eq_some_iff.mp h).1
  simpa [hcl] using this
section Worlds
variable {Γ : Gm} {sh : Sh} {I : Iv} {E : Ev} {H : Heap}
theorem Wd.obj {i k : Nat} {q : vw_C} (h : Wd Γ sh I E H) (ht : tyc sh E i = k + 1) (hc : hcl[k]? = some q) : Γ.1.1 ≤ ad Γ.1 i ∧ t_OB (ad Γ.1 i) (Γ.2.2.1 k) q.2.2 (Γ.2.2.2.1 k) H (vl Γ.1 sh I E i) := by
  obtain ⟨h1, h2⟩ := h.2.2.2 i (by omega)
  have hk := hcl_lt hc
  refine ⟨h1, ?_⟩
  unfold ck at h2
  rw [if_pos (by omega)] at h2
  obtain ⟨r, h3, h4⟩ := h2
  rw [ht, Nat.add_sub_cancel] at h3 h4
  cases h3.symm.trans hc
  exact h4
theorem Wd.arr {i t : Nat} (h : Wd Γ sh I E H) (ht : tyc sh E i = t) (h1 : 100 < t) : Γ.1.1 ≤ ad Γ.1 i ∧ len sh E i < 2147483648 ∧ H[ad Γ.1 i]? = some (arrV (Γ.2.2.2.2.1 t) (len sh E i) (vl Γ.1 sh I E i)) := by
  obtain ⟨h1, h2⟩ := h.2.2.2 i (by omega)
  refine ⟨h1, ?_⟩
  unfold ck at h2
  rw [if_neg (by omega), ht] at h2
  exact h2
/-- one cell has changed, its type and length have not -/
theorem Wd.upd {I' : Iv} {E' : Ev} {H' : Heap} {i : Nat} (h : Wd Γ sh I E H) (hty : ∀ a, tyc sh E' a = tyc sh E a) (hln : ∀ a, len sh E' a = len sh E a) (hi : tyc sh E i ≠ 0) (hck : ck Γ sh I' E' i H') (hsz : H'.size = H.size) (ho : ∀ q, q ≠ ad Γ.1 i → H'[q]? = H[q]?)
    (hv : ∀ a, a ≠ i → ∀ b, vl Γ.1 sh I' E' a b = vl Γ.1 sh I E a b) (htr : E'.2.2 = E.2.2 := by rfl) : Wd Γ sh I' E' H' := by
  obtain ⟨h1, h2, h3, h4⟩ := h
  have hB := (h4 i hi).1
  refine ⟨by rw [hsz, htr, hty]; exact h1, fun q hq => ⟨by rw [ho q (fun e => (h2 q hq).2 i hi e.symm)]; exact (h2 q hq).1, fun a ha => (h2 q hq).2 a (by rw [← hty a]; exact ha)⟩, fun a b ha hb => h3 a b (by rw [← hty a]; exact ha) (by rw [← hty b]; exact hb), fun a ha => ?_⟩
  rw [hty] at ha
  refine ⟨(h4 a ha).1, ?_⟩
  by_cases hai : a = i
  · subst hai; exact hck
  · have hne : ad Γ.1 a ≠ ad Γ.1 i := fun q => hai (h3 a i ha hi q)
    have h5 := (h4 a ha).2
    unfold ck at h5 ⊢
    rw [hty a]
    by_cases ht : tyc sh E a < 100
    · rw [if_pos ht] at h5 ⊢
      obtain ⟨r, h6, h7⟩ := h5
      exact ⟨r, h6, (h7.kept (ho _ hne)).to (fun b _ => (hv a hai b).symm)⟩
    · rw [if_neg ht] at h5 ⊢
      rw [hln a, ho _ hne, h5.2]
      exact ⟨h5.1, by rw [show vl Γ.1 sh I' E' a = vl Γ.1 sh I E a from funext (hv a hai)]⟩
theorem vl_up_ne {B : Nat × Nat} {i j a b : Nat} {x : Int32} (h : a ≠ i) : vl B sh (up I i j x) E a b = vl B sh I E a b := by
  unfold vl
  rw [up_n (fun q => h q.1)]
theorem vl_up {B : Nat × Nat} {i j : Nat} {x : Int32} (hr : rfs (tyc sh E i) j = false) (hl : tyc sh E i ≠ 104) (b : Nat) : vl B sh (up I i j x) E i b = updV (vl B sh I E i) j (.int x) b := by
  unfold updV
  by_cases hb : b = j
  · subst hb
    rw [if_pos rfl]
    unfold vl
    rw [hr, up_s]
    simp [hl]
  · rw [if_neg hb]
    unfold vl
    rw [up_n (fun q => hb q.2)]
end Worlds
def V9 : Prop := True
def iGI (ix c j : Nat) : Ir := (fun κ ls st I E u k => match st with | .ref i :: r => tyc κ.2.2.2.2.2.1 E i = c + 1 ∧ k ls (.int (I i j) :: r) I E u | _ => False, (.getfield ix, 3), fun _ => (hcl[c]?).any (fun q => decide (j < q.2.2)) && (!rfs (c + 1) j && !decide (c + 1 = 104)))
theorem eGI {g : Go} {kr : Kr} {kx : Kxx} {Γ : Gm} {l : Launch} {sh : Sh} {d : Nat} {M : Uv} {ret : Option FieldType} {ls : Lv} {r : List Value} {I : Iv} {E : Ev} {u : Uv} {k : Lv → List Value → Iv → Ev → Uv → Prop} {ix c j i : Nat} : (iGI ix c j).1 (g, kr, kx, Γ, l, sh, d, M, ret) ls (.ref i :: r) I E u k = (tyc sh E i = c + 1 ∧ k ls (.int (I i j) :: r) I E u) := rfl
theorem sGI {own : String} {ix c j : Nat} (q : vw_C) (hc : hcl[c]? = some q) (hw : Cond.fieldLink own ix (q.2.1 j).1 (q.2.1 j).2.1 (q.2.1 j).2.2.1 ∈ gtb) : Snd own (iGI ix c j) := by
  intro p l e s m args below meth cd Γ sh d M nL cc ret go kr kx pc ls st I E u k hC hgo hd hq h hk
  simp only [iGI] at h hq
  split at h
  · rename_i i r
    intro H locs la hW hL hlo h1 h2
    rw [hc, Bool.and_eq_true] at hq
    have hj : j < q.2.2 := by simpa using hq.1
    obtain ⟨hB, cell, q1, q2, q3, q4⟩ := hW.obj h.1 hc
    obtain ⟨hin, ⟨ty, hty, -⟩, hnm⟩ := clf c q hc
    obtain ⟨hS, hfc, kC, hkC, hkind⟩ := hC.2.2.2.2.2.1.1.1 c q hc
    obtain ⟨cf, kf, fi, f, hi, hsl⟩ := hS j hj
    have hst := (u_facts hfc hkC (u_lays hC.2.2.2.2.1 hin hj) hi).1
    have hv : vl Γ.1 sh I E i j = rv Γ.1 (.int (I i j)) := by
      unfold vl
      rw [h.1]
      have h5 := hq.2; simp only [Bool.and_eq_true, Bool.not_eq_true', decide_eq_false_iff_not] at h5; rw [h5.1, if_neg (by decide), if_neg h5.2]; rfl
    exact W.getf hC.1 hC.2.1 hC.2.2.2.1 (hC.2.2.2.2.1 _ hw) hi hst q1 (by rw [q3]; exact fun h => by cases h) (by rw [hsl, q4 j hj, hv]) rfl rfl hd (hk _ _ _ _ _ h.2 H locs la hW hL hlo h1 h2)
  · exact h.elim
theorem sGIN {own : String} {ix c j : Nat} (q : vw_C) (hc : hcl[c]? = some q) (host : String) (hw : Cond.fieldLinkNest own ix (q.2.1 j).1 (q.2.1 j).2.1 (q.2.1 j).2.2.1 host ∈ ntb) : Snd own (iGI ix c j) := by
  intro p l e s m args below meth cd Γ sh d M nL cc ret go kr kx pc ls st I E u k hC hgo hd hq h hk
  simp only [iGI] at h hq
  split at h
  · rename_i i r
    intro H locs la hW hL hlo h1 h2
    rw [hc, Bool.and_eq_true] at hq
    have hj : j < q.2.2 := by simpa using hq.1
    obtain ⟨hB, cell, q1, q2, q3, q4⟩ := hW.obj h.1 hc
    obtain ⟨hin, ⟨ty, hty, -⟩, hnm⟩ := clf c q hc
    obtain ⟨hS, hfc, kC, hkC, hkind⟩ := hC.2.2.2.2.2.1.1.1 c q hc
    obtain ⟨cf, kf, fi, f, hi, hsl⟩ := hS j hj
    have hst := (u_facts hfc hkC (u_lays hC.2.2.2.2.1 hin hj) hi).1
    have hv : vl Γ.1 sh I E i j = rv Γ.1 (.int (I i j)) := by
      unfold vl
      rw [h.1]
      have h5 := hq.2; simp only [Bool.and_eq_true, Bool.not_eq_true', decide_eq_false_iff_not] at h5; rw [h5.1, if_neg (by decide), if_neg h5.2]; rfl
    exact va_Wgetf hC.1 hC.2.1 hC.2.2.2.1 (va_Nw.use rfl (hC.2.2.2.2.2.1.2.2 _ hw)) hi hst q1 (by rw [q3]; exact fun h => by cases h) (by rw [hsl, q4 j hj, hv]) rfl rfl hd (hk _ _ _ _ _ h.2 H locs la hW hL hlo h1 h2)
  · exact h.elim
def iGR (ix c j : Nat) : Ir := (fun κ ls st I E u k => match st with | .ref i :: r => tyc κ.2.2.2.2.2.1 E i = c + 1 ∧ k ls (rget κ.2.2.2.2.2.1 E i j :: r) I E u | _ => False, (.getfield ix, 3), fun _ => (hcl[c]?).any (fun q => decide (j < q.2.2)) && (rfs (c + 1) j))
theorem eGR {g : Go} {kr : Kr} {kx : Kxx} {Γ : Gm} {l : Launch} {sh : Sh} {d : Nat} {M : Uv} {ret : Option FieldType} {ls : Lv} {r : List Value} {I : Iv} {E : Ev} {u : Uv} {k : Lv → List Value → Iv → Ev → Uv → Prop} {ix c j i : Nat} : (iGR ix c j).1 (g, kr, kx, Γ, l, sh, d, M, ret) ls (.ref i :: r) I E u k = (tyc sh E i = c + 1 ∧ k ls (rget sh E i j :: r) I E u) := rfl
theorem sGR {own : String} {ix c j : Nat} (q : vw_C) (hc : hcl[c]? = some q) (hw : Cond.fieldLink own ix (q.2.1 j).1 (q.2.1 j).2.1 (q.2.1 j).2.2.1 ∈ gtb) : Snd own (iGR ix c j) := by
  intro p l e s m args below meth cd Γ sh d M nL cc ret go kr kx pc ls st I E u k hC hgo hd hq h hk
  simp only [iGR] at h hq
  split at h
  · rename_i i r
    intro H locs la hW hL hlo h1 h2
    rw [hc, Bool.and_eq_true] at hq
    have hj : j < q.2.2 := by simpa using hq.1
    obtain ⟨hB, cell, q1, q2, q3, q4⟩ := hW.obj h.1 hc
    obtain ⟨hin, ⟨ty, hty, -⟩, hnm⟩ := clf c q hc
    obtain ⟨hS, hfc, kC, hkC, hkind⟩ := hC.2.2.2.2.2.1.1.1 c q hc
    obtain ⟨cf, kf, fi, f, hi, hsl⟩ := hS j hj
    have hst := (u_facts hfc hkC (u_lays hC.2.2.2.2.1 hin hj) hi).1
    have hv : vl Γ.1 sh I E i j = rv Γ.1 (rget sh E i j) := by
      unfold vl
      rw [h.1]
      rw [if_pos hq.2]
    exact W.getf hC.1 hC.2.1 hC.2.2.2.1 (hC.2.2.2.2.1 _ hw) hi hst q1 (by rw [q3]; exact fun h => by cases h) (by rw [hsl, q4 j hj, hv]) rfl rfl hd (hk _ _ _ _ _ h.2 H locs la hW hL hlo h1 h2)
  · exact h.elim
theorem sGRN {own : String} {ix c j : Nat} (q : vw_C) (hc : hcl[c]? = some q) (host : String) (hw : Cond.fieldLinkNest own ix (q.2.1 j).1 (q.2.1 j).2.1 (q.2.1 j).2.2.1 host ∈ ntb) : Snd own (iGR ix c j) := by
  intro p l e s m args below meth cd Γ sh d M nL cc ret go kr kx pc ls st I E u k hC hgo hd hq h hk
  simp only [iGR] at h hq
  split at h
  · rename_i i r
    intro H locs la hW hL hlo h1 h2
    rw [hc, Bool.and_eq_true] at hq
    have hj : j < q.2.2 := by simpa using hq.1
    obtain ⟨hB, cell, q1, q2, q3, q4⟩ := hW.obj h.1 hc
    obtain ⟨hin, ⟨ty, hty, -⟩, hnm⟩ := clf c q hc
    obtain ⟨hS, hfc, kC, hkC, hkind⟩ := hC.2.2.2.2.2.1.1.1 c q hc
    obtain ⟨cf, kf, fi, f, hi, hsl⟩ := hS j hj
    have hst := (u_facts hfc hkC (u_lays hC.2.2.2.2.1 hin hj) hi).1
    have hv : vl Γ.1 sh I E i j = rv Γ.1 (rget sh E i j) := by
      unfold vl
      rw [h.1]
      rw [if_pos hq.2]
    exact va_Wgetf hC.1 hC.2.1 hC.2.2.2.1 (va_Nw.use rfl (hC.2.2.2.2.2.1.2.2 _ hw)) hi hst q1 (by rw [q3]; exact fun h => by cases h) (by rw [hsl, q4 j hj, hv]) rfl rfl hd (hk _ _ _ _ _ h.2 H locs la hW hL hlo h1 h2)
  · exact h.elim
def iPI (ix c j : Nat) : Ir := (fun κ ls st I E u k => match st with | .int x :: .ref i :: r => tyc κ.2.2.2.2.2.1 E i = c + 1 ∧ k ls r (up I i j x) E u | _ => False, (.putfield ix, 3), fun _ => (hcl[c]?).any (fun q => decide (j < q.2.2) && decide ((q.2.1 j).2.2.1 = "I")) && (!rfs (c + 1) j && !decide (c + 1 = 104)))
theorem ePI {g : Go} {kr : Kr} {kx : Kxx} {Γ : Gm} {l : Launch} {sh : Sh} {d : Nat} {M : Uv} {ret : Option FieldType} {ls : Lv} {r : List Value} {I : Iv} {E : Ev} {u : Uv} {k : Lv → List Value → Iv → Ev → Uv → Prop} {ix c j i : Nat} {x : Int32} : (iPI ix c j).1 (g, kr, kx, Γ, l, sh, d, M, ret) ls (.int x :: .ref i :: r) I E u k = (tyc sh E i = c + 1 ∧ k ls r (up I i j x) E u) := rfl
theorem sPI {own : String} {ix c j : Nat} (q : vw_C) (hc : hcl[c]? = some q) (hf : (q.2.1 j).2.2.2 = false) (hw : Cond.fieldLink own ix (q.2.1 j).1 (q.2.1 j).2.1 (q.2.1 j).2.2.1 ∈ gtb) : Snd own (iPI ix c j) := by
  intro p l e s m args below meth cd Γ sh d M nL cc ret go kr kx pc ls st I E u k hC hgo hd hq h hk
  simp only [iPI] at h hq
  split at h
  · rename_i x i r
    intro H locs la hW hL hlo h1 h2
    rw [hc, Bool.and_eq_true] at hq
    have hjd : j < q.2.2 ∧ (q.2.1 j).2.2.1 = "I" := by simpa using hq.1
    obtain ⟨hj, hds⟩ := hjd
    obtain ⟨hB, cell, q1, q2, q3, q4⟩ := hW.obj h.1 hc
    obtain ⟨hin, ⟨ty, hty, -⟩, hnm⟩ := clf c q hc
    obtain ⟨hS, hfc, kC, hkC, hkind⟩ := hC.2.2.2.2.2.1.1.1 c q hc
    obtain ⟨cf, kf, fi, f, hi, hsl⟩ := hS j hj
    have hst := (u_facts hfc hkC (u_lays hC.2.2.2.2.1 hin hj) hi).1
    have hlay := hC.2.2.2.2.1 _ (hin _ (u_in_lay hj))
    unfold u_lay at hlay
    rw [if_neg (by rw [hf]; decide)] at hlay
    have h6 := u_store (v := .int x) (ty := .int) hfc hkC hkind hlay hi (by rw [hds]; decide +kernel) (rfl) (rfl)
    have hap := va_apart (own := own) hC.2.2.2.2.1 hin ty hty hnm hC.2.2.2.2.2.1.1 hc
    have h5 := hq.2
    simp only [Bool.and_eq_true, Bool.not_eq_true', decide_eq_false_iff_not] at h5
    have hnz : tyc sh E i ≠ 0 := by rw [h.1]; omega
    refine W.putK hC.1 hC.2.1 (f := f) ⟨hC.2.2.2.1, hC.2.2.2.2.1 _ hw, ⟨_, _, _, hi⟩, hst⟩ (by rw [q2]; exact h6) q1 q3 (by rw [hsl]; exact k2_hasslot (q4 j hj)) rfl rfl hd fun H' e1 e2 e3 => ?_
    rw [hsl] at e1 ⊢
    refine hk _ _ _ _ _ h.2 H' _ la (hW.upd (fun _ => rfl) (fun _ => rfl) hnz ?_ e2 e3 (fun a ha b => vl_up_ne ha)) (fun z hz => ?_) hlo h1 h2
    · unfold ck
      have hlt := hcl_lt hc
      rw [if_pos (by rw [h.1]; omega), h.1, Nat.add_sub_cancel]
      exact ⟨q, hc, t_OB.to (V := updV (vl Γ.1 sh I E i) j (.int x)) ⟨_, e1, q2, q3, t_set q4 hap hj _⟩ (fun b _ => (vl_up (by rw [h.1]; exact h5.1) (by rw [h.1]; exact h5.2) b).symm)⟩
    · rcases List.mem_append.mp hz with hz | hz
      · exact hL z hz
      · rw [List.mem_singleton.mp hz]; exact hB
  · exact h.elim
theorem sPIN {own : String} {ix c j : Nat} (q : vw_C) (hc : hcl[c]? = some q) (hf : (q.2.1 j).2.2.2 = false) (host : String) (hw : Cond.fieldLinkNest own ix (q.2.1 j).1 (q.2.1 j).2.1 (q.2.1 j).2.2.1 host ∈ ntb) : Snd own (iPI ix c j) := by
  intro p l e s m args below meth cd Γ sh d M nL cc ret go kr kx pc ls st I E u k hC hgo hd hq h hk
  simp only [iPI] at h hq
  split at h
  · rename_i x i r
    intro H locs la hW hL hlo h1 h2
    rw [hc, Bool.and_eq_true] at hq
    have hjd : j < q.2.2 ∧ (q.2.1 j).2.2.1 = "I" := by simpa using hq.1
    obtain ⟨hj, hds⟩ := hjd
    obtain ⟨hB, cell, q1, q2, q3, q4⟩ := hW.obj h.1 hc
    obtain ⟨hin, ⟨ty, hty, -⟩, hnm⟩ := clf c q hc
    obtain ⟨hS, hfc, kC, hkC, hkind⟩ := hC.2.2.2.2.2.1.1.1 c q hc
    obtain ⟨cf, kf, fi, f, hi, hsl⟩ := hS j hj
    have hst := (u_facts hfc hkC (u_lays hC.2.2.2.2.1 hin hj) hi).1
    have hlay := hC.2.2.2.2.1 _ (hin _ (u_in_lay hj))
    unfold u_lay at hlay
    rw [if_neg (by rw [hf]; decide)] at hlay
    have h6 := u_store (v := .int x) (ty := .int) hfc hkC hkind hlay hi (by rw [hds]; decide +kernel) (rfl) (rfl)
    have hap := va_apart (own := own) hC.2.2.2.2.1 hin ty hty hnm hC.2.2.2.2.2.1.1 hc
    have h5 := hq.2
    simp only [Bool.and_eq_true, Bool.not_eq_true', decide_eq_false_iff_not] at h5
    have hnz : tyc sh E i ≠ 0 := by rw [h.1]; omega
    refine va_WputK hC.1 hC.2.1 (f := f) hC.2.2.2.1 (va_Nw.use rfl (hC.2.2.2.2.2.1.2.2 _ hw)) hi hst (by rw [q2]; exact h6) q1 q3 (by rw [hsl]; exact k2_hasslot (q4 j hj)) rfl rfl hd fun H' e1 e2 e3 => ?_
    rw [hsl] at e1 ⊢
    refine hk _ _ _ _ _ h.2 H' _ la (hW.upd (fun _ => rfl) (fun _ => rfl) hnz ?_ e2 e3 (fun a ha b => vl_up_ne ha)) (fun z hz => ?_) hlo h1 h2
    · unfold ck
      have hlt := hcl_lt hc
      rw [if_pos (by rw [h.1]; omega), h.1, Nat.add_sub_cancel]
      exact ⟨q, hc, t_OB.to (V := updV (vl Γ.1 sh I E i) j (.int x)) ⟨_, e1, q2, q3, t_set q4 hap hj _⟩ (fun b _ => (vl_up (by rw [h.1]; exact h5.1) (by rw [h.1]; exact h5.2) b).symm)⟩
    · rcases List.mem_append.mp hz with hz | hz
      · exact hL z hz
      · rw [List.mem_singleton.mp hz]; exact hB
  · exact h.elim
def iPZ (ix c j : Nat) : Ir := (fun κ ls st I E u k => match st with | .int x :: .ref i :: r => tyc κ.2.2.2.2.2.1 E i = c + 1 ∧ (x = nI 0 ∨ x = nI 1) ∧ k ls r (up I i j x) E u | _ => False, (.putfield ix, 3), fun _ => (hcl[c]?).any (fun q => decide (j < q.2.2) && decide ((q.2.1 j).2.2.1 = "Z")) && (!rfs (c + 1) j && !decide (c + 1 = 104)))
theorem ePZ {g : Go} {kr : Kr} {kx : Kxx} {Γ : Gm} {l : Launch} {sh : Sh} {d : Nat} {M : Uv} {ret : Option FieldType} {ls : Lv} {r : List Value} {I : Iv} {E : Ev} {u : Uv} {k : Lv → List Value → Iv → Ev → Uv → Prop} {ix c j i : Nat} {x : Int32} : (iPZ ix c j).1 (g, kr, kx, Γ, l, sh, d, M, ret) ls (.int x :: .ref i :: r) I E u k = (tyc sh E i = c + 1 ∧ (x = nI 0 ∨ x = nI 1) ∧ k ls r (up I i j x) E u) := rfl
theorem sPZ {own : String} {ix c j : Nat} (q : vw_C) (hc : hcl[c]? = some q) (hf : (q.2.1 j).2.2.2 = false) (hw : Cond.fieldLink own ix (q.2.1 j).1 (q.2.1 j).2.1 (q.2.1 j).2.2.1 ∈ gtb) : Snd own (iPZ ix c j) := by
  intro p l e s m args below meth cd Γ sh d M nL cc ret go kr kx pc ls st I E u k hC hgo hd hq h hk
  simp only [iPZ] at h hq
  split at h
  · rename_i x i r
    intro H locs la hW hL hlo h1 h2
    rw [hc, Bool.and_eq_true] at hq
    have hjd : j < q.2.2 ∧ (q.2.1 j).2.2.1 = "Z" := by simpa using hq.1
    obtain ⟨hj, hds⟩ := hjd
    obtain ⟨hB, cell, q1, q2, q3, q4⟩ := hW.obj h.1 hc
    obtain ⟨hin, ⟨ty, hty, -⟩, hnm⟩ := clf c q hc
    obtain ⟨hS, hfc, kC, hkC, hkind⟩ := hC.2.2.2.2.2.1.1.1 c q hc
    obtain ⟨cf, kf, fi, f, hi, hsl⟩ := hS j hj
    have hst := (u_facts hfc hkC (u_lays hC.2.2.2.2.1 hin hj) hi).1
    have hlay := hC.2.2.2.2.1 _ (hin _ (u_in_lay hj))
    unfold u_lay at hlay
    rw [if_neg (by rw [hf]; decide)] at hlay
    have h6 := u_store (v := .int x) (ty := .boolean) hfc hkC hkind hlay hi (by rw [hds]; decide +kernel) (by rcases h.2.1 with h | h <;> subst h <;> decide +kernel) (by rcases h.2.1 with h | h <;> subst h <;> decide +kernel)
    have hap := va_apart (own := own) hC.2.2.2.2.1 hin ty hty hnm hC.2.2.2.2.2.1.1 hc
    have h5 := hq.2
    simp only [Bool.and_eq_true, Bool.not_eq_true', decide_eq_false_iff_not] at h5
    have hnz : tyc sh E i ≠ 0 := by rw [h.1]; omega
    refine W.putK hC.1 hC.2.1 (f := f) ⟨hC.2.2.2.1, hC.2.2.2.2.1 _ hw, ⟨_, _, _, hi⟩, hst⟩ (by rw [q2]; exact h6) q1 q3 (by rw [hsl]; exact k2_hasslot (q4 j hj)) rfl rfl hd fun H' e1 e2 e3 => ?_
    rw [hsl] at e1 ⊢
    refine hk _ _ _ _ _ h.2.2 H' _ la (hW.upd (fun _ => rfl) (fun _ => rfl) hnz ?_ e2 e3 (fun a ha b => vl_up_ne ha)) (fun z hz => ?_) hlo h1 h2
    · unfold ck
      have hlt := hcl_lt hc
      rw [if_pos (by rw [h.1]; omega), h.1, Nat.add_sub_cancel]
      exact ⟨q, hc, t_OB.to (V := updV (vl Γ.1 sh I E i) j (.int x)) ⟨_, e1, q2, q3, t_set q4 hap hj _⟩ (fun b _ => (vl_up (by rw [h.1]; exact h5.1) (by rw [h.1]; exact h5.2) b).symm)⟩
    · rcases List.mem_append.mp hz with hz | hz
      · exact hL z hz
      · rw [List.mem_singleton.mp hz]; exact hB
  · exact h.elim
theorem sPZN {own : String} {ix c j : Nat} (q : vw_C) (hc : hcl[c]? = some q) (hf : (q.2.1 j).2.2.2 = false) (host : String) (hw : Cond.fieldLinkNest own ix (q.2.1 j).1 (q.2.1 j).2.1 (q.2.1 j).2.2.1 host ∈ ntb) : Snd own (iPZ ix c j) := by
  intro p l e s m args below meth cd Γ sh d M nL cc ret go kr kx pc ls st I E u k hC hgo hd hq h hk
  simp only [iPZ] at h hq
  split at h
  · rename_i x i r
    intro H locs la hW hL hlo h1 h2
    rw [hc, Bool.and_eq_true] at hq
    have hjd : j < q.2.2 ∧ (q.2.1 j).2.2.1 = "Z" := by simpa using hq.1
    obtain ⟨hj, hds⟩ := hjd
    obtain ⟨hB, cell, q1, q2, q3, q4⟩ := hW.obj h.1 hc
    obtain ⟨hin, ⟨ty, hty, -⟩, hnm⟩ := clf c q hc
    obtain ⟨hS, hfc, kC, hkC, hkind⟩ := hC.2.2.2.2.2.1.1.1 c q hc
    obtain ⟨cf, kf, fi, f, hi, hsl⟩ := hS j hj
    have hst := (u_facts hfc hkC (u_lays hC.2.2.2.2.1 hin hj) hi).1
    have hlay := hC.2.2.2.2.1 _ (hin _ (u_in_lay hj))
    unfold u_lay at hlay
    rw [if_neg (by rw [hf]; decide)] at hlay
    have h6 := u_store (v := .int x) (ty := .boolean) hfc hkC hkind hlay hi (by rw [hds]; decide +kernel) (by rcases h.2.1 with h | h <;> subst h <;> decide +kernel) (by rcases h.2.1 with h | h <;> subst h <;> decide +kernel)
    have hap := va_apart (own := own) hC.2.2.2.2.1 hin ty hty hnm hC.2.2.2.2.2.1.1 hc
    have h5 := hq.2
    simp only [Bool.and_eq_true, Bool.not_eq_true', decide_eq_false_iff_not] at h5
    have hnz : tyc sh E i ≠ 0 := by rw [h.1]; omega
    refine va_WputK hC.1 hC.2.1 (f := f) hC.2.2.2.1 (va_Nw.use rfl (hC.2.2.2.2.2.1.2.2 _ hw)) hi hst (by rw [q2]; exact h6) q1 q3 (by rw [hsl]; exact k2_hasslot (q4 j hj)) rfl rfl hd fun H' e1 e2 e3 => ?_
    rw [hsl] at e1 ⊢
    refine hk _ _ _ _ _ h.2.2 H' _ la (hW.upd (fun _ => rfl) (fun _ => rfl) hnz ?_ e2 e3 (fun a ha b => vl_up_ne ha)) (fun z hz => ?_) hlo h1 h2
    · unfold ck
      have hlt := hcl_lt hc
      rw [if_pos (by rw [h.1]; omega), h.1, Nat.add_sub_cancel]
      exact ⟨q, hc, t_OB.to (V := updV (vl Γ.1 sh I E i) j (.int x)) ⟨_, e1, q2, q3, t_set q4 hap hj _⟩ (fun b _ => (vl_up (by rw [h.1]; exact h5.1) (by rw [h.1]; exact h5.2) b).symm)⟩
    · rcases List.mem_append.mp hz with hz | hz
      · exact hL z hz
      · rw [List.mem_singleton.mp hz]; exact hB
  · exact h.elim
