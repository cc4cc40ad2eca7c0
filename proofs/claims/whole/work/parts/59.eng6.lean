/-! THE ENGINE, 6: what is made; other answers; by program (wip/whole/gen_eng6.py) -/
def iRN (ty : FieldType) : Ir := (fun κ ls st I E u k => match st with | [.int x] => κ.2.2.2.2.2.2.2.2 = some ty ∧ narrow ty (.int x) = .int x ∧ κ.2.1 (some (.int x)) I E | _ => False, (.ireturn, 1), fun _ => true)
theorem eRN {g : Go} {kr : Kr} {kx : Kxx} {Γ : Gm} {l : Launch} {sh : Sh} {d : Nat} {M : Uv} {ret : Option FieldType} {ls : Lv} {I : Iv} {E : Ev} {u : Uv} {k : Lv → List Value → Iv → Ev → Uv → Prop} {ty : FieldType} {x : Int32} : (iRN ty).1 (g, kr, kx, Γ, l, sh, d, M, ret) ls [.int x] I E u k = (ret = some ty ∧ narrow ty (.int x) = .int x ∧ kr (some (.int x)) I E) := rfl
theorem sRN {own : String} {ty : FieldType} : Snd own (iRN ty) := by
  intro p l e s m args below meth c Γ sh d M nL cc ret go kr kx pc ls st I E u k hC hgo hd hq h hk
  simp only [iRN] at h
  split at h
  · rename_i x
    intro H locs la hW hL hlo h1 h2
    refine W.widen (k := M.1) (n := M.2) h1 h2 (vx_ret ?_)
    exact W.zret hC.1 hC.2.1 (hC.2.2.2.2.2.2.1.trans h.1) h.2.1 (fun t ht _ => ⟨some (.int x), I, E, rfl, by rw [ht]; exact hW, h.2.2⟩) hL hd hC.2.2.2.2.2.2.2.1
  · exact h.elim
/-- a row of zeros -/
def zr (I : Iv) (i : Nat) : Iv := fun a b => if a = i then nI 0 else I a b
/-- the cell i is made, of type t and length n; then the heap's size is sz less 1 -/
def mkE (E : Ev) (i t n sz : Nat) : Ev := (fun a b => if a = i then 0 else E.1 a b, fun a => if a = i then t else E.2.1 a, fun a => if a = 999999 then sz else if a = i then n else E.2.2 a)
theorem zr_n {I : Iv} {i a : Nat} (h : a ≠ i) : zr I i a = I a := by
  funext b
  exact if_neg h
theorem zr_s {I : Iv} {i b : Nat} : zr I i i b = nI 0 := if_pos rfl
theorem tyc_0 {sh : Sh} {E : Ev} {i : Nat} (h : tyc sh E i = 0) : sh.1 i = 0 := by
  unfold tyc at h
  by_cases q : sh.1 i = 0
  · exact q
  · rw [if_neg q] at h; exact h
theorem tyc_mk {sh : Sh} {E : Ev} {i t n sz : Nat} (h : tyc sh E i = 0) : tyc sh (mkE E i t n sz) i = t := by
  unfold tyc
  rw [if_pos (tyc_0 h)]
  exact if_pos rfl
theorem tyc_mk_n {sh : Sh} {E : Ev} {i a t n sz : Nat} (h : a ≠ i) : tyc sh (mkE E i t n sz) a = tyc sh E a := by
  unfold tyc
  have : (mkE E i t n sz).2.1 a = E.2.1 a := if_neg h
  rw [this]
theorem len_mk {sh : Sh} {E : Ev} {i t n sz : Nat} (h : tyc sh E i = 0) (h9 : i ≠ 999999) : len sh (mkE E i t n sz) i = n := by
  unfold len
  rw [if_pos (tyc_0 h)]
  show (if i = 999999 then sz else if i = i then n else E.2.2 i) = n
  rw [if_neg h9, if_pos rfl]
theorem len_mk_n {sh : Sh} {E : Ev} {i a t n sz : Nat} (h : a ≠ i) (h9 : a ≠ 999999) : len sh (mkE E i t n sz) a = len sh E a := by
  unfold len
  have : (mkE E i t n sz).2.2 a = E.2.2 a := by
    show (if a = 999999 then sz else if a = i then n else E.2.2 a) = _
    rw [if_neg h9, if_neg h]
  rw [this]
theorem rget_mk_n {sh : Sh} {E : Ev} {i a b t n sz : Nat} (h : a ≠ i) : rget sh (mkE E i t n sz) a b = rget sh E a b := by
  unfold rget
  have : (mkE E i t n sz).1 a b = E.1 a b := if_neg h
  rw [this]
theorem rget_mk {sh : Sh} {E : Ev} {i b t n sz : Nat} (h : sh.2.2 i b = none) : rget sh (mkE E i t n sz) i b = .null := by
  unfold rget
  rw [h]
  have : (mkE E i t n sz).1 i b = 0 := if_pos rfl
  rw [this]
  rfl
theorem sz_mk {E : Ev} {i t n sz : Nat} : (mkE E i t n sz).2.2 999999 = sz := by
  show (if (999999 : Nat) = 999999 then sz else if 999999 = i then n else E.2.2 999999) = sz
  exact if_pos rfl
section Made
variable {Γ : Gm} {sh : Sh} {I : Iv} {E : Ev} {H : Heap}
theorem Wd.lt {i : Nat} (h : Wd Γ sh I E H) (ht : tyc sh E i ≠ 0) : ad Γ.1 i < H.size := by
  have h2 := (h.2.2.2 i ht).2
  unfold ck at h2
  split at h2
  · obtain ⟨r, -, cell, q1, -⟩ := h2
    exact (Array.getElem?_eq_some_iff.mp q1).1
  · exact (Array.getElem?_eq_some_iff.mp h2.2).1
theorem Wd.free {i : Nat} (h : Wd Γ sh I E H) (ha : ad Γ.1 i = H.size) : tyc sh E i = 0 := by
  by_cases q : tyc sh E i = 0
  · exact q
  · have := h.lt q
    omega
theorem vl_mk_n {B : Nat × Nat} {i a b t n sz : Nat} (h : a ≠ i) : vl B sh (zr I i) (mkE E i t n sz) a b = vl B sh I E a b := by
  unfold vl
  rw [tyc_mk_n h, rget_mk_n h, zr_n h]
theorem low_lt {q : Nat} (k1 : Γ.1.1 ≤ H.size) (hq : low Γ q) (e : H[q]? = Γ.2.1[q]?) : q < H.size := by
  rcases hq with h | h
  · omega
  · have h2 : Γ.2.1[q]? = some Γ.2.1[q] := Array.getElem?_eq_getElem h.2
    rw [h2] at e
    exact (Array.getElem?_eq_some_iff.mp e).1
/-- a cell is made -/
theorem Wd.made {i t n : Nat} {H' : Heap} (h : Wd Γ sh I E H) (hsz : H'.size = H.size + 1) (ho : ∀ q, q < H.size → H'[q]? = H[q]?) (hi9 : i ≠ 999999) (had : ad Γ.1 i = H.size)
    (hck : ck Γ sh (zr I i) (mkE E i t n (H.size + 2)) i H') : Wd Γ sh (zr I i) (mkE E i t n (H.size + 2)) H' := by
  have h0 := h.free had
  obtain ⟨⟨k1, k2, k3⟩, h2, h3, h4⟩ := h
  refine ⟨⟨by omega, by rw [tyc_mk_n (Ne.symm hi9)]; exact k2, Or.inr (by rw [sz_mk, hsz])⟩, fun q hq => (by
    have hl := low_lt k1 hq (h2 q hq).1
    refine ⟨by rw [ho q hl]; exact (h2 q hq).1, fun a ha => ?_⟩
    by_cases e : a = i
    · subst e
      omega
    · rw [tyc_mk_n e] at ha
      exact (h2 q hq).2 a ha), fun a b ha hb e => ?_, fun a ha => ?_⟩
  · by_cases ea : a = i <;> by_cases eb : b = i
    · rw [ea, eb]
    · subst ea
      rw [tyc_mk_n eb] at hb
      have := (show Wd Γ sh I E H from ⟨⟨k1, k2, k3⟩, h2, h3, h4⟩).lt hb
      omega
    · subst eb
      rw [tyc_mk_n ea] at ha
      have := (show Wd Γ sh I E H from ⟨⟨k1, k2, k3⟩, h2, h3, h4⟩).lt ha
      omega
    · rw [tyc_mk_n ea] at ha
      rw [tyc_mk_n eb] at hb
      exact h3 a b ha hb e
  · by_cases ea : a = i
    · subst ea
      exact ⟨by rw [had]; exact k1, hck⟩
    · rw [tyc_mk_n ea] at ha
      have hlt := (show Wd Γ sh I E H from ⟨⟨k1, k2, k3⟩, h2, h3, h4⟩).lt ha
      have ea9 : a ≠ 999999 := fun e => ha (e ▸ k2)
      refine ⟨(h4 a ha).1, ?_⟩
      have h5 := (h4 a ha).2
      unfold ck at h5 ⊢
      rw [tyc_mk_n ea]
      by_cases ht : tyc sh E a < 100
      · rw [if_pos ht] at h5 ⊢
        obtain ⟨r, h6, h7⟩ := h5
        exact ⟨r, h6, (h7.kept (ho _ hlt)).to (fun b _ => (vl_mk_n ea).symm)⟩
      · rw [if_neg ht] at h5 ⊢
        rw [len_mk_n ea ea9, ho _ hlt, h5.2]
        exact ⟨h5.1, by rw [show vl Γ.1 sh (zr I i) (mkE E i t n (H.size + 2)) a = vl Γ.1 sh I E a from funext fun b => vl_mk_n ea]⟩
/-- the size is told no more -/
def unE (E : Ev) : Ev := (E.1, E.2.1, fun a => if a = 999999 then 0 else E.2.2 a)
/-- another view of the same heap: fewer cells, the same of these -/
theorem Wd.view {sh' : Sh} {E' : Ev} (h : Wd Γ sh I E H) (h9 : tyc sh' E' 999999 = 0) (hs : E'.2.2 999999 = 0 ∨ E'.2.2 999999 = E.2.2 999999 ∨ E'.2.2 999999 = H.size + 1)
    (hv : ∀ i, tyc sh' E' i ≠ 0 → tyc sh E i = tyc sh' E' i ∧ (100 ≤ tyc sh' E' i → len sh E i = len sh' E' i) ∧ ∀ j, rfs (tyc sh' E' i) j = true → rget sh E i j = rget sh' E' i j) : Wd Γ sh' I E' H := by
  obtain ⟨⟨k1, k2, k3⟩, h2, h3, h4⟩ := h
  refine ⟨⟨k1, h9, ?_⟩, fun q hq => ⟨(h2 q hq).1, fun i hi => (h2 q hq).2 i (by rw [(hv i hi).1]; exact hi)⟩, fun i j hi hj => h3 i j (by rw [(hv i hi).1]; exact hi) (by rw [(hv j hj).1]; exact hj), fun i hi => ?_⟩
  · rcases hs with h | h | h
    · exact Or.inl h
    · rw [h]; exact k3
    · exact Or.inr h
  · obtain ⟨e1, e2, e3⟩ := hv i hi
    obtain ⟨g1, g2⟩ := h4 i (by rw [e1]; exact hi)
    refine ⟨g1, ?_⟩
    have ev : vl Γ.1 sh' I E' i = vl Γ.1 sh I E i := by
      funext j
      unfold vl
      rw [e1]
      by_cases hr : rfs (tyc sh' E' i) j = true
      · rw [if_pos hr, if_pos hr, e3 j hr]
      · rw [if_neg hr, if_neg hr]
    unfold ck at g2 ⊢
    rw [e1] at g2
    rw [ev]
    by_cases ht : tyc sh' E' i < 100
    · rw [if_pos ht] at g2 ⊢
      exact g2
    · rw [if_neg ht] at g2 ⊢
      rw [← e2 (by omega)]
      exact g2
theorem Wd.un (h : Wd Γ sh I E H) : Wd Γ sh I (unE E) H := by
  have k2 : tyc sh E 999999 = 0 := h.1.2.1
  refine h.view k2 (Or.inl (show (if (999999 : Nat) = 999999 then 0 else E.2.2 999999) = 0 from if_pos rfl)) (fun i hi => ?_)
  have e9 : i ≠ 999999 := fun e => hi (e ▸ k2)
  refine ⟨rfl, fun _ => ?_, fun _ _ => rfl⟩
  unfold len
  have : (unE E).2.2 i = E.2.2 i := if_neg e9
  rw [this]
end Made
theorem clf2 (k : Nat) (q : vw_C) (h : hcl[k]? = some q) : ∃ ty : Nat → FieldType, (∀ j, j < q.2.2 → parseFieldDescriptor (q.2.1 j).2.2.1 = some (ty j)) ∧ (∀ j, rfs (k + 1) j = isRt (ty j)) ∧ ∀ j, j < q.2.2 → isRt (ty j) = false → defaultValue (ty j) = .int (nI 0) :=
  match k, h with
  | 0, h => by cases h; exact ⟨hY0, hP0, fun _ => rfl, by decide +kernel⟩
  | 1, h => by cases h; exact ⟨hY1, hP1, fun _ => rfl, by decide +kernel⟩
  | 2, h => by cases h; exact ⟨hY2, hP2, fun _ => rfl, by decide +kernel⟩
  | 3, h => by cases h; exact ⟨hY3, hP3, fun _ => rfl, by decide +kernel⟩
  | 4, h => by cases h; exact ⟨hY4, hP4, fun _ => rfl, by decide +kernel⟩
  | 5, h => by cases h; exact ⟨hY5, hP5, fun _ => rfl, by decide +kernel⟩
  | 6, h => by cases h; exact ⟨hY6, hP6, fun _ => rfl, by decide +kernel⟩
  | 7, h => by cases h; exact ⟨hY7, hP7, fun _ => rfl, by decide +kernel⟩
  | 8, h => by cases h; exact ⟨hY8, hP8, fun _ => rfl, by decide +kernel⟩
  | 9, h => by cases h; exact ⟨hY9, hP9, fun _ => rfl, by decide +kernel⟩
  | 10, h => by cases h; exact ⟨hY10, hP10, fun _ => rfl, by decide +kernel⟩
  | 11, h => by cases h; exact ⟨hY11, hP11, fun _ => rfl, by decide +kernel⟩
  | n + 12, h => by simp [hcl] at h
theorem isRt_def {ty : FieldType} (h : isRt ty = true) : defaultValue ty = .null := by
  cases ty <;> first | (cases h; done) | rfl
theorem nI00 : (0 : Int32) = nI 0 := rfl
/-- new C: the cell's id may be chosen -/
def iNEW (ix c n : Nat) : Ir := (fun κ ls st I E u k => u.1 + 1 ≤ κ.2.2.2.2.2.2.2.1.1 ∧ u.2 + n ≤ κ.2.2.2.2.2.2.2.1.2 ∧ ∀ a, (E.2.2 999999 = 0 ∨ E.2.2 999999 = a + 1) → κ.2.2.2.1.1.1 ≤ a → ∃ i, i ≠ 999999 ∧ ad κ.2.2.2.1.1 i = a ∧ (∀ j, κ.2.2.2.2.2.1.2.2 i j = none) ∧ (tyc κ.2.2.2.2.2.1 E i = 0 → k ls (.ref i :: st) (zr I i) (mkE E i (c + 1) 0 (a + 2)) (u.1 + 1, u.2 + n)), (.new ix, 3), fun _ => true)
theorem eNEW {g : Go} {kr : Kr} {kx : Kxx} {Γ : Gm} {l : Launch} {sh : Sh} {d : Nat} {M : Uv} {ret : Option FieldType} {ls : Lv} {r : List Value} {I : Iv} {E : Ev} {u : Uv} {k : Lv → List Value → Iv → Ev → Uv → Prop} {ix c n : Nat} : (iNEW ix c n).1 (g, kr, kx, Γ, l, sh, d, M, ret) ls r I E u k = (u.1 + 1 ≤ M.1 ∧ u.2 + n ≤ M.2 ∧ ∀ a, (E.2.2 999999 = 0 ∨ E.2.2 999999 = a + 1) → Γ.1.1 ≤ a → ∃ i, i ≠ 999999 ∧ ad Γ.1 i = a ∧ (∀ j, sh.2.2 i j = none) ∧ (tyc sh E i = 0 → k ls (.ref i :: r) (zr I i) (mkE E i (c + 1) 0 (a + 2)) (u.1 + 1, u.2 + n))) := rfl
theorem sNEW {own : String} {ix c n : Nat} (q : vw_C) (hc : hcl[c]? = some q) (hn : q.2.2 = n) (hw : Cond.classLink own ix q.1 ∈ gtb) (hins : Cond.instantiable q.1 n ∈ gtb) (hini : Cond.initialized q.1 ∈ gtb) : Snd own (iNEW ix c n) := by
  intro p l e s m args below meth cd Γ sh d M nL cc ret go kr kx pc ls st I E u k hC hgo hd hq h hk
  simp only [iNEW] at h
  obtain ⟨hr1, hr2, h⟩ := h
  intro H locs la hW hL hlo h1 h2
  obtain ⟨i, hi9, had, hsn, h⟩ := h H.size hW.1.2.2 hW.1.1
  have hKn := hC.2.2.2.2.2.1.1.1 c q hc
  obtain ⟨hin, -, -⟩ := clf c q hc
  obtain ⟨ty, hty, hrf, hdf⟩ := clf2 c q hc
  have h0 := hW.free had
  refine W.newcK hC.1 hC.2.1 hC.2.2.2.1 (hC.2.2.2.2.1 _ hw) (hC.2.2.2.2.1 _ hins) (hC.2.2.2.2.1 _ hini) rfl hd hr1 hr2 hKn.2.1 rfl fun H1 kC hkC e1 z1 o1 => ?_
  have hb := u_born ty hC.2.2.2.2.1 hin hKn hkC e1 hty
  have hk' := hk _ _ _ _ _ (h h0) H1 locs la (hW.made z1 o1 hi9 had ?_) hL hlo hr1 hr2
  · rw [List.map_cons, show rv Γ.1 (.ref i) = .ref (ad Γ.1 i) from rfl, had] at hk'
    exact hk'
  · have hlt := hcl_lt hc
    unfold ck
    rw [tyc_mk h0, if_pos (by omega), Nat.add_sub_cancel]
    refine ⟨q, hc, ?_⟩
    rw [had]
    refine hb.to (fun j hj => ?_)
    unfold vl
    rw [tyc_mk h0, hrf j]
    by_cases hr : isRt (ty j) = true
    · rw [if_pos hr, rget_mk (hsn j), isRt_def hr]
      rfl
    · rw [if_neg hr, if_neg (by omega), zr_s]
      exact hdf j hj (by simpa using hr)
def iNAI : Ir := (fun κ ls st I E u k => match st with | .int x :: r => ∃ n, x = nI n ∧ n ≤ 100000 ∧ u.1 + 1 ≤ κ.2.2.2.2.2.2.2.1.1 ∧ u.2 + n ≤ κ.2.2.2.2.2.2.2.1.2 ∧ ∀ a, (E.2.2 999999 = 0 ∨ E.2.2 999999 = a + 1) → κ.2.2.2.1.1.1 ≤ a → ∃ i, i ≠ 999999 ∧ ad κ.2.2.2.1.1 i = a ∧ (tyc κ.2.2.2.2.2.1 E i = 0 → k ls (.ref i :: r) (zr I i) (mkE E i 101 n (a + 2)) (u.1 + 1, u.2 + n)) | _ => False, (.newarray .int, 2), fun _ => true)
theorem eNAI {g : Go} {kr : Kr} {kx : Kxx} {Γ : Gm} {l : Launch} {sh : Sh} {d : Nat} {M : Uv} {ret : Option FieldType} {ls : Lv} {r : List Value} {I : Iv} {E : Ev} {u : Uv} {k : Lv → List Value → Iv → Ev → Uv → Prop} {x : Int32} : iNAI.1 (g, kr, kx, Γ, l, sh, d, M, ret) ls (.int x :: r) I E u k = (∃ n, x = nI n ∧ n ≤ 100000 ∧ u.1 + 1 ≤ M.1 ∧ u.2 + n ≤ M.2 ∧ ∀ a, (E.2.2 999999 = 0 ∨ E.2.2 999999 = a + 1) → Γ.1.1 ≤ a → ∃ i, i ≠ 999999 ∧ ad Γ.1 i = a ∧ (tyc sh E i = 0 → k ls (.ref i :: r) (zr I i) (mkE E i 101 n (a + 2)) (u.1 + 1, u.2 + n))) := rfl
theorem sNAI {own : String} (hw : Cond.arrayClass .int ∈ gtb) : Snd own iNAI := by
  intro p l e s m args below meth cd Γ sh d M nL cc ret go kr kx pc ls st I E u k hC hgo hd hq h hk
  simp only [iNAI] at h
  split at h
  · rename_i x r
    obtain ⟨n, rfl, hn5, hr1, hr2, h⟩ := h
    intro H locs la hW hL hlo h1 h2
    obtain ⟨i, hi9, had, h⟩ := h H.size hW.1.2.2 hW.1.1
    have h0 := hW.free had
    have hcl : (nI n).toNatClampNeg = n := nI_clamp (by omega)
    have hty : newarray.typeOf .int = .int := rfl
    have hby : n * componentBytes .int ≤ 536870912 := by
      have h8 : componentBytes .int ≤ 8 := by decide
      have := Nat.mul_le_mul_left n h8
      omega
    refine va_newaK (atype := .int) (N := n) hC.1 hC.2.1 (by rw [hty]; exact hC.2.2.2.2.1 _ hw) rfl hd rfl (nI_pos (by omega)) hcl (by rw [hty]; exact hby) hr1 hr2 rfl fun H1 cA e1 z1 o1 hAr hNm => ?_
    rw [hty] at hNm e1
    have hra := (hC.2.2.2.2.2.1.1.2 0 (Γ.2.2.2.2.1 101, .int) rfl).2
    have ec : cA = Γ.2.2.2.2.1 101 := Option.some.inj (hNm.symm.trans hra)
    have hk' := hk _ _ _ _ _ (h h0) H1 locs la (hW.made z1 o1 hi9 had ?_) hL hlo hr1 hr2
    · rw [List.map_cons, show rv Γ.1 (.ref i) = .ref (ad Γ.1 i) from rfl, had] at hk'
      exact hk'
    · unfold ck
      rw [tyc_mk h0, if_neg (by decide), len_mk h0 hi9, had]
      refine ⟨by omega, e1.trans ?_⟩
      rw [ec]
      refine congrArg some (arrV_ext (fun j _ => ?_))
      unfold vl
      rw [tyc_mk h0, zr_s]
      rfl
  · exact h.elim
def iNAB : Ir := (fun κ ls st I E u k => match st with | .int x :: r => ∃ n, x = nI n ∧ n ≤ 100000 ∧ u.1 + 1 ≤ κ.2.2.2.2.2.2.2.1.1 ∧ u.2 + n ≤ κ.2.2.2.2.2.2.2.1.2 ∧ ∀ a, (E.2.2 999999 = 0 ∨ E.2.2 999999 = a + 1) → κ.2.2.2.1.1.1 ≤ a → ∃ i, i ≠ 999999 ∧ ad κ.2.2.2.1.1 i = a ∧ (tyc κ.2.2.2.2.2.1 E i = 0 → k ls (.ref i :: r) (zr I i) (mkE E i 102 n (a + 2)) (u.1 + 1, u.2 + n)) | _ => False, (.newarray .byte, 2), fun _ => true)
theorem eNAB {g : Go} {kr : Kr} {kx : Kxx} {Γ : Gm} {l : Launch} {sh : Sh} {d : Nat} {M : Uv} {ret : Option FieldType} {ls : Lv} {r : List Value} {I : Iv} {E : Ev} {u : Uv} {k : Lv → List Value → Iv → Ev → Uv → Prop} {x : Int32} : iNAB.1 (g, kr, kx, Γ, l, sh, d, M, ret) ls (.int x :: r) I E u k = (∃ n, x = nI n ∧ n ≤ 100000 ∧ u.1 + 1 ≤ M.1 ∧ u.2 + n ≤ M.2 ∧ ∀ a, (E.2.2 999999 = 0 ∨ E.2.2 999999 = a + 1) → Γ.1.1 ≤ a → ∃ i, i ≠ 999999 ∧ ad Γ.1 i = a ∧ (tyc sh E i = 0 → k ls (.ref i :: r) (zr I i) (mkE E i 102 n (a + 2)) (u.1 + 1, u.2 + n))) := rfl
theorem sNAB {own : String} (hw : Cond.arrayClass .byte ∈ gtb) : Snd own iNAB := by
  intro p l e s m args below meth cd Γ sh d M nL cc ret go kr kx pc ls st I E u k hC hgo hd hq h hk
  simp only [iNAB] at h
  split at h
  · rename_i x r
    obtain ⟨n, rfl, hn5, hr1, hr2, h⟩ := h
    intro H locs la hW hL hlo h1 h2
    obtain ⟨i, hi9, had, h⟩ := h H.size hW.1.2.2 hW.1.1
    have h0 := hW.free had
    have hcl : (nI n).toNatClampNeg = n := nI_clamp (by omega)
    have hty : newarray.typeOf .byte = .byte := rfl
    have hby : n * componentBytes .byte ≤ 536870912 := by
      have h8 : componentBytes .byte ≤ 8 := by decide
      have := Nat.mul_le_mul_left n h8
      omega
    refine va_newaK (atype := .byte) (N := n) hC.1 hC.2.1 (by rw [hty]; exact hC.2.2.2.2.1 _ hw) rfl hd rfl (nI_pos (by omega)) hcl (by rw [hty]; exact hby) hr1 hr2 rfl fun H1 cA e1 z1 o1 hAr hNm => ?_
    rw [hty] at hNm e1
    have hra := (hC.2.2.2.2.2.1.1.2 1 (Γ.2.2.2.2.1 102, .byte) rfl).2
    have ec : cA = Γ.2.2.2.2.1 102 := Option.some.inj (hNm.symm.trans hra)
    have hk' := hk _ _ _ _ _ (h h0) H1 locs la (hW.made z1 o1 hi9 had ?_) hL hlo hr1 hr2
    · rw [List.map_cons, show rv Γ.1 (.ref i) = .ref (ad Γ.1 i) from rfl, had] at hk'
      exact hk'
    · unfold ck
      rw [tyc_mk h0, if_neg (by decide), len_mk h0 hi9, had]
      refine ⟨by omega, e1.trans ?_⟩
      rw [ec]
      refine congrArg some (arrV_ext (fun j _ => ?_))
      unfold vl
      rw [tyc_mk h0, zr_s]
      rfl
  · exact h.elim
def iNAZ : Ir := (fun κ ls st I E u k => match st with | .int x :: r => ∃ n, x = nI n ∧ n ≤ 100000 ∧ u.1 + 1 ≤ κ.2.2.2.2.2.2.2.1.1 ∧ u.2 + n ≤ κ.2.2.2.2.2.2.2.1.2 ∧ ∀ a, (E.2.2 999999 = 0 ∨ E.2.2 999999 = a + 1) → κ.2.2.2.1.1.1 ≤ a → ∃ i, i ≠ 999999 ∧ ad κ.2.2.2.1.1 i = a ∧ (tyc κ.2.2.2.2.2.1 E i = 0 → k ls (.ref i :: r) (zr I i) (mkE E i 103 n (a + 2)) (u.1 + 1, u.2 + n)) | _ => False, (.newarray .boolean, 2), fun _ => true)
theorem eNAZ {g : Go} {kr : Kr} {kx : Kxx} {Γ : Gm} {l : Launch} {sh : Sh} {d : Nat} {M : Uv} {ret : Option FieldType} {ls : Lv} {r : List Value} {I : Iv} {E : Ev} {u : Uv} {k : Lv → List Value → Iv → Ev → Uv → Prop} {x : Int32} : iNAZ.1 (g, kr, kx, Γ, l, sh, d, M, ret) ls (.int x :: r) I E u k = (∃ n, x = nI n ∧ n ≤ 100000 ∧ u.1 + 1 ≤ M.1 ∧ u.2 + n ≤ M.2 ∧ ∀ a, (E.2.2 999999 = 0 ∨ E.2.2 999999 = a + 1) → Γ.1.1 ≤ a → ∃ i, i ≠ 999999 ∧ ad Γ.1 i = a ∧ (tyc sh E i = 0 → k ls (.ref i :: r) (zr I i) (mkE E i 103 n (a + 2)) (u.1 + 1, u.2 + n))) := rfl
theorem sNAZ {own : String} (hw : Cond.arrayClass .boolean ∈ gtb) : Snd own iNAZ := by
  intro p l e s m args below meth cd Γ sh d M nL cc ret go kr kx pc ls st I E u k hC hgo hd hq h hk
  simp only [iNAZ] at h
  split at h
  · rename_i x r
    obtain ⟨n, rfl, hn5, hr1, hr2, h⟩ := h
    intro H locs la hW hL hlo h1 h2
    obtain ⟨i, hi9, had, h⟩ := h H.size hW.1.2.2 hW.1.1
    have h0 := hW.free had
    have hcl : (nI n).toNatClampNeg = n := nI_clamp (by omega)
    have hty : newarray.typeOf .boolean = .boolean := rfl
    have hby : n * componentBytes .boolean ≤ 536870912 := by
      have h8 : componentBytes .boolean ≤ 8 := by decide
      have := Nat.mul_le_mul_left n h8
      omega
    refine va_newaK (atype := .boolean) (N := n) hC.1 hC.2.1 (by rw [hty]; exact hC.2.2.2.2.1 _ hw) rfl hd rfl (nI_pos (by omega)) hcl (by rw [hty]; exact hby) hr1 hr2 rfl fun H1 cA e1 z1 o1 hAr hNm => ?_
    rw [hty] at hNm e1
    have hra := (hC.2.2.2.2.2.1.1.2 2 (Γ.2.2.2.2.1 103, .boolean) rfl).2
    have ec : cA = Γ.2.2.2.2.1 103 := Option.some.inj (hNm.symm.trans hra)
    have hk' := hk _ _ _ _ _ (h h0) H1 locs la (hW.made z1 o1 hi9 had ?_) hL hlo hr1 hr2
    · rw [List.map_cons, show rv Γ.1 (.ref i) = .ref (ad Γ.1 i) from rfl, had] at hk'
      exact hk'
    · unfold ck
      rw [tyc_mk h0, if_neg (by decide), len_mk h0 hi9, had]
      refine ⟨by omega, e1.trans ?_⟩
      rw [ec]
      refine congrArg some (arrV_ext (fun j _ => ?_))
      unfold vl
      rw [tyc_mk h0, zr_s]
      rfl
  · exact h.elim
def iNAL : Ir := (fun κ ls st I E u k => match st with | .int x :: r => ∃ n, x = nI n ∧ n ≤ 100000 ∧ u.1 + 1 ≤ κ.2.2.2.2.2.2.2.1.1 ∧ u.2 + n ≤ κ.2.2.2.2.2.2.2.1.2 ∧ ∀ a, (E.2.2 999999 = 0 ∨ E.2.2 999999 = a + 1) → κ.2.2.2.1.1.1 ≤ a → ∃ i, i ≠ 999999 ∧ ad κ.2.2.2.1.1 i = a ∧ (tyc κ.2.2.2.2.2.1 E i = 0 → k ls (.ref i :: r) (zr I i) (mkE E i 104 n (a + 2)) (u.1 + 1, u.2 + n)) | _ => False, (.newarray .long, 2), fun _ => true)
theorem eNAL {g : Go} {kr : Kr} {kx : Kxx} {Γ : Gm} {l : Launch} {sh : Sh} {d : Nat} {M : Uv} {ret : Option FieldType} {ls : Lv} {r : List Value} {I : Iv} {E : Ev} {u : Uv} {k : Lv → List Value → Iv → Ev → Uv → Prop} {x : Int32} : iNAL.1 (g, kr, kx, Γ, l, sh, d, M, ret) ls (.int x :: r) I E u k = (∃ n, x = nI n ∧ n ≤ 100000 ∧ u.1 + 1 ≤ M.1 ∧ u.2 + n ≤ M.2 ∧ ∀ a, (E.2.2 999999 = 0 ∨ E.2.2 999999 = a + 1) → Γ.1.1 ≤ a → ∃ i, i ≠ 999999 ∧ ad Γ.1 i = a ∧ (tyc sh E i = 0 → k ls (.ref i :: r) (zr I i) (mkE E i 104 n (a + 2)) (u.1 + 1, u.2 + n))) := rfl
theorem sNAL {own : String} (hw : Cond.arrayClass .long ∈ gtb) : Snd own iNAL := by
  intro p l e s m args below meth cd Γ sh d M nL cc ret go kr kx pc ls st I E u k hC hgo hd hq h hk
  simp only [iNAL] at h
  split at h
  · rename_i x r
    obtain ⟨n, rfl, hn5, hr1, hr2, h⟩ := h
    intro H locs la hW hL hlo h1 h2
    obtain ⟨i, hi9, had, h⟩ := h H.size hW.1.2.2 hW.1.1
    have h0 := hW.free had
    have hcl : (nI n).toNatClampNeg = n := nI_clamp (by omega)
    have hty : newarray.typeOf .long = .long := rfl
    have hby : n * componentBytes .long ≤ 536870912 := by
      have h8 : componentBytes .long ≤ 8 := by decide
      have := Nat.mul_le_mul_left n h8
      omega
    refine va_newaK (atype := .long) (N := n) hC.1 hC.2.1 (by rw [hty]; exact hC.2.2.2.2.1 _ hw) rfl hd rfl (nI_pos (by omega)) hcl (by rw [hty]; exact hby) hr1 hr2 rfl fun H1 cA e1 z1 o1 hAr hNm => ?_
    rw [hty] at hNm e1
    have hra := (hC.2.2.2.2.2.1.1.2 3 (Γ.2.2.2.2.1 104, .long) rfl).2
    have ec : cA = Γ.2.2.2.2.1 104 := Option.some.inj (hNm.symm.trans hra)
    have hk' := hk _ _ _ _ _ (h h0) H1 locs la (hW.made z1 o1 hi9 had ?_) hL hlo hr1 hr2
    · rw [List.map_cons, show rv Γ.1 (.ref i) = .ref (ad Γ.1 i) from rfl, had] at hk'
      exact hk'
    · unfold ck
      rw [tyc_mk h0, if_neg (by decide), len_mk h0 hi9, had]
      refine ⟨by omega, e1.trans ?_⟩
      rw [ec]
      refine congrArg some (arrV_ext (fun j _ => ?_))
      unfold vl
      rw [tyc_mk h0, zr_s]
      rfl
  · exact h.elim
def iAOD (ix : Nat) : Ir := (fun κ ls st I E u k => match st with | .int x :: r => GW κ.2.2.2.1 ∧ ∃ n, x = nI n ∧ n ≤ 100000 ∧ u.1 + 1 ≤ κ.2.2.2.2.2.2.2.1.1 ∧ u.2 + n ≤ κ.2.2.2.2.2.2.2.1.2 ∧ ∀ a, (E.2.2 999999 = 0 ∨ E.2.2 999999 = a + 1) → κ.2.2.2.1.1.1 ≤ a → ∃ i, i ≠ 999999 ∧ ad κ.2.2.2.1.1 i = a ∧ (∀ j, κ.2.2.2.2.2.1.2.2 i j = none) ∧ (tyc κ.2.2.2.2.2.1 E i = 0 → k ls (.ref i :: r) (zr I i) (mkE E i 105 n (a + 2)) (u.1 + 1, u.2 + n)) | _ => False, (.anewarray ix, 3), fun _ => true)
theorem eAOD {g : Go} {kr : Kr} {kx : Kxx} {Γ : Gm} {l : Launch} {sh : Sh} {d : Nat} {M : Uv} {ret : Option FieldType} {ls : Lv} {r : List Value} {I : Iv} {E : Ev} {u : Uv} {k : Lv → List Value → Iv → Ev → Uv → Prop} {ix : Nat} {x : Int32} : (iAOD ix).1 (g, kr, kx, Γ, l, sh, d, M, ret) ls (.int x :: r) I E u k = (GW Γ ∧ ∃ n, x = nI n ∧ n ≤ 100000 ∧ u.1 + 1 ≤ M.1 ∧ u.2 + n ≤ M.2 ∧ ∀ a, (E.2.2 999999 = 0 ∨ E.2.2 999999 = a + 1) → Γ.1.1 ≤ a → ∃ i, i ≠ 999999 ∧ ad Γ.1 i = a ∧ (∀ j, sh.2.2 i j = none) ∧ (tyc sh E i = 0 → k ls (.ref i :: r) (zr I i) (mkE E i 105 n (a + 2)) (u.1 + 1, u.2 + n))) := rfl
theorem sAOD {own : String} {ix : Nat} (hw : Cond.classLink own ix "HerbWaters$Days" ∈ gtb) : Snd own (iAOD ix) := by
  intro p l e s m args below meth cd Γ sh d M nL cc ret go kr kx pc ls st I E u k hC hgo hd hq h hk
  simp only [iAOD] at h
  split at h
  · rename_i x r
    obtain ⟨hG, n, rfl, hn5, hr1, hr2, h⟩ := h
    intro H locs la hW hL hlo h1 h2
    obtain ⟨i, hi9, had, hsn, h⟩ := h H.size hW.1.2.2 hW.1.1
    have h0 := hW.free had
    have hcl : (nI n).toNatClampNeg = n := nI_clamp (by omega)
    have hao := (wz_at hG hC.2.2.2.2.2.1 hW).2.2.2.2.2.2.2.2.2.1
    refine W.anew hC.1 hC.2.1 hC.2.2.2.1 (hC.2.2.2.2.1 _ hw) (va_AO.use (va_AO.moved (U := s) (Vm.Alike.refl s.vm) hao)) rfl hd rfl (nI_pos (by omega)) (by rw [hcl]; omega) hr1 (by rw [hcl]; exact hr2) fun cA kA comp f1 f2 f3 f4 => ?_
    rw [hcl]
    generalize hH1 : H.push ({ cls := cA, slots := Array.replicate n .null, vm := .none } : Cell) = H1
    have z1 : H1.size = H.size + 1 := by rw [← hH1, Array.size_push]
    have e1 : H1[H.size]? = some (arrV cA n (fun _ => .null)) := by rw [← hH1, Array.getElem?_push_size, ← arrV_new]
    have o1 : ∀ q : Nat, q < H.size → H1[q]? = H[q]? := fun q hq => by rw [← hH1, Array.getElem?_push, if_neg (Nat.ne_of_lt hq)]
    obtain ⟨kA', comp', -, -, -, g4⟩ := (hC.2.2.2.2.2.1.1.2 4 _ rfl).2
    have ec : cA = Γ.2.2.2.2.1 105 := Option.some.inj (f1.symm.trans g4)
    have hk' := hk _ _ _ _ _ (h h0) H1 locs la (hW.made z1 o1 hi9 had ?_) hL hlo hr1 hr2
    · rw [List.map_cons, show rv Γ.1 (.ref i) = .ref (ad Γ.1 i) from rfl, had] at hk'
      exact hk'
    · unfold ck
      rw [tyc_mk h0, if_neg (by decide), len_mk h0 hi9, had]
      refine ⟨by omega, e1.trans ?_⟩
      rw [ec]
      refine congrArg some (arrV_ext (fun j _ => ?_))
      unfold vl
      rw [tyc_mk h0, if_pos (show rfs 105 j = true from rfl), rget_mk (hsn j)]
      rfl
  · exact h.elim
def iAOO (ix : Nat) : Ir := (fun κ ls st I E u k => match st with | .int x :: r => GW κ.2.2.2.1 ∧ ∃ n, x = nI n ∧ n ≤ 100000 ∧ u.1 + 1 ≤ κ.2.2.2.2.2.2.2.1.1 ∧ u.2 + n ≤ κ.2.2.2.2.2.2.2.1.2 ∧ ∀ a, (E.2.2 999999 = 0 ∨ E.2.2 999999 = a + 1) → κ.2.2.2.1.1.1 ≤ a → ∃ i, i ≠ 999999 ∧ ad κ.2.2.2.1.1 i = a ∧ (∀ j, κ.2.2.2.2.2.1.2.2 i j = none) ∧ (tyc κ.2.2.2.2.2.1 E i = 0 → k ls (.ref i :: r) (zr I i) (mkE E i 106 n (a + 2)) (u.1 + 1, u.2 + n)) | _ => False, (.anewarray ix, 3), fun _ => true)
theorem eAOO {g : Go} {kr : Kr} {kx : Kxx} {Γ : Gm} {l : Launch} {sh : Sh} {d : Nat} {M : Uv} {ret : Option FieldType} {ls : Lv} {r : List Value} {I : Iv} {E : Ev} {u : Uv} {k : Lv → List Value → Iv → Ev → Uv → Prop} {ix : Nat} {x : Int32} : (iAOO ix).1 (g, kr, kx, Γ, l, sh, d, M, ret) ls (.int x :: r) I E u k = (GW Γ ∧ ∃ n, x = nI n ∧ n ≤ 100000 ∧ u.1 + 1 ≤ M.1 ∧ u.2 + n ≤ M.2 ∧ ∀ a, (E.2.2 999999 = 0 ∨ E.2.2 999999 = a + 1) → Γ.1.1 ≤ a → ∃ i, i ≠ 999999 ∧ ad Γ.1 i = a ∧ (∀ j, sh.2.2 i j = none) ∧ (tyc sh E i = 0 → k ls (.ref i :: r) (zr I i) (mkE E i 106 n (a + 2)) (u.1 + 1, u.2 + n))) := rfl
theorem sAOO {own : String} {ix : Nat} (hw : Cond.classLink own ix "HerbWaters$Opinion" ∈ gtb) : Snd own (iAOO ix) := by
  intro p l e s m args below meth cd Γ sh d M nL cc ret go kr kx pc ls st I E u k hC hgo hd hq h hk
  simp only [iAOO] at h
  split at h
  · rename_i x r
    obtain ⟨hG, n, rfl, hn5, hr1, hr2, h⟩ := h
    intro H locs la hW hL hlo h1 h2
    obtain ⟨i, hi9, had, hsn, h⟩ := h H.size hW.1.2.2 hW.1.1
    have h0 := hW.free had
    have hcl : (nI n).toNatClampNeg = n := nI_clamp (by omega)
    have hao := (wz_at hG hC.2.2.2.2.2.1 hW).2.2.2.2.2.2.2.2.2.2.1
    refine W.anew hC.1 hC.2.1 hC.2.2.2.1 (hC.2.2.2.2.1 _ hw) (va_AO.use (va_AO.moved (U := s) (Vm.Alike.refl s.vm) hao)) rfl hd rfl (nI_pos (by omega)) (by rw [hcl]; omega) hr1 (by rw [hcl]; exact hr2) fun cA kA comp f1 f2 f3 f4 => ?_
    rw [hcl]
    generalize hH1 : H.push ({ cls := cA, slots := Array.replicate n .null, vm := .none } : Cell) = H1
    have z1 : H1.size = H.size + 1 := by rw [← hH1, Array.size_push]
    have e1 : H1[H.size]? = some (arrV cA n (fun _ => .null)) := by rw [← hH1, Array.getElem?_push_size, ← arrV_new]
    have o1 : ∀ q : Nat, q < H.size → H1[q]? = H[q]? := fun q hq => by rw [← hH1, Array.getElem?_push, if_neg (Nat.ne_of_lt hq)]
    obtain ⟨kA', comp', -, -, -, g4⟩ := (hC.2.2.2.2.2.1.1.2 5 _ rfl).2
    have ec : cA = Γ.2.2.2.2.1 106 := Option.some.inj (f1.symm.trans g4)
    have hk' := hk _ _ _ _ _ (h h0) H1 locs la (hW.made z1 o1 hi9 had ?_) hL hlo hr1 hr2
    · rw [List.map_cons, show rv Γ.1 (.ref i) = .ref (ad Γ.1 i) from rfl, had] at hk'
      exact hk'
    · unfold ck
      rw [tyc_mk h0, if_neg (by decide), len_mk h0 hi9, had]
      refine ⟨by omega, e1.trans ?_⟩
      rw [ec]
      refine congrArg some (arrV_ext (fun j _ => ?_))
      unfold vl
      rw [tyc_mk h0, if_pos (show rfs 106 j = true from rfl), rget_mk (hsn j)]
      rfl
  · exact h.elim
def iSWb (lo : Nat) (doff : Int) (offs : Array Int) (ln : Nat) (ts : List Nat) (dt : Nat) : Ir := (fun κ ls st I E u k => match st with | .int x :: r => swA κ.1 ls r I E u x lo ts ∧ ((∀ i, i < ts.length → ¬ x = nI (lo + i)) → κ.1 dt ls r I E u) | _ => False, (.tableswitch doff (lo : Int) ((lo : Int) + (ts.length : Int) - 1) offs, ln),
  fun pc => decide ((pc : Int) + doff = (dt : Int)) && decide (lo + ts.length < 100000) && decide (offs.toList.map (fun o => (pc : Int) + o) = ts.map (fun t : Nat => (t : Int))))
theorem eSWb {g : Go} {kr : Kr} {kx : Kxx} {Γ : Gm} {l : Launch} {sh : Sh} {d : Nat} {M : Uv} {ret : Option FieldType} {ls : Lv} {r : List Value} {I : Iv} {E : Ev} {u : Uv} {k : Lv → List Value → Iv → Ev → Uv → Prop} {lo : Nat} {doff : Int} {offs : Array Int} {ln : Nat} {ts : List Nat} {dt : Nat} {x : Int32} : (iSWb lo doff offs ln ts dt).1 (g, kr, kx, Γ, l, sh, d, M, ret) ls (.int x :: r) I E u k = (swA g ls r I E u x lo ts ∧ ((∀ i, i < ts.length → ¬ x = nI (lo + i)) → g dt ls r I E u)) := rfl
theorem sSWb {own : String} {lo : Nat} {doff : Int} {offs : Array Int} {ln : Nat} {ts : List Nat} {dt : Nat} : Snd own (iSWb lo doff offs ln ts dt) := by
  intro p l e s m args below meth c Γ sh d M nL cc ret go kr kx pc ls st I E u k hC hgo hd hq h hk
  simp only [iSWb] at h hq
  simp only [Bool.and_eq_true, decide_eq_true_eq] at hq
  obtain ⟨⟨hq1, hq2⟩, hq3⟩ := hq
  split at h
  · rename_i x r
    intro H locs la hW hL hlo h1 h2
    by_cases hx : ∃ i, i < ts.length ∧ x = nI (lo + i)
    · obtain ⟨i, hi, rfl⟩ := hx
      have hto : (nI (lo + i)).toInt = ((lo + i : Nat) : Int) := nI_toInt (by omega)
      have hg := swA_at ts lo h.1 i ts[i] (List.getElem?_eq_getElem hi) rfl
      have hlen : offs.size = ts.length := by have := congrArg List.length hq3; simpa using this
      have hoi : i < offs.size := by omega
      have ho : (pc : Int) + offs[i] = (ts[i] : Int) := by
        have := congrArg (fun L => L[i]?) hq3
        simp only [List.getElem?_map, Array.getElem?_toList, Array.getElem?_eq_getElem hoi, List.getElem?_eq_getElem hi, Option.map_some, Option.some.injEq] at this
        exact this
      exact lv_tableIn (off := offs[i]) (tgt := ts[i]) hC.1 hC.2.1 hd (by rw [hto]; omega) (by rw [hto]; omega) (by rw [hto, show (((lo + i : Nat) : Int) - (lo : Int)).toNat = i by omega]; exact Array.getElem?_eq_getElem hoi) ho (hgo _ _ _ _ _ _ hg H locs la hW hL hlo h1 h2)
    · refine lv_tableOut (tgt := dt) hC.1 hC.2.1 hd ?_ hq1 (hgo _ _ _ _ _ _ (h.2 (fun i hi hx' => hx ⟨i, hi, hx'⟩)) H locs la hW hL hlo h1 h2)
      by_cases h0 : x < 0
      · left
        have := Int32.lt_iff_toInt_lt.mp h0
        have h00 : (0 : Int32).toInt = 0 := rfl
        omega
      · obtain ⟨j, hj, rfl⟩ := nI_of h0
        rw [nI_toInt hj]
        have : ¬ (lo ≤ j ∧ j - lo < ts.length) := fun q => hx ⟨j - lo, q.2, by congr 1; omega⟩
        omega
  · exact h.elim
