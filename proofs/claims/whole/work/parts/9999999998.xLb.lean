/-! the law, 2: bodies with exception tables -/
def CxH (p : Program) (s : State) (m : MethodId) (args : Array Value) (meth : Method) (c : Code) (own : String) (Γ : Gm) (nL : Nat) (cc : ByteArray) (ret : Option FieldType) : Prop :=
  p.tables.exec = Jvm.exec ∧ c.code = cc ∧ c.maxLocals = nL ∧ s.vm.findClass own = some m.cls ∧ (∀ w ∈ gtb, w.before args s = true) ∧ Kn Γ s ∧ meth.sig.returnType = ret ∧ meth.locks = false ∧ True ∧ s.heap.size = s.heap.size
def SndH (own : String) (ir : Ir) : Prop :=
  ∀ (p : Program) (l : Launch) (e : Env) (s : State) (m : MethodId) (args : Array Value) (below : List Frame) (meth : Method) (c : Code) (Γ : Gm) (sh : Sh) (d : Nat) (M : Uv) (nL : Nat) (cc : ByteArray) (ret : Option FieldType) (go : Go) (kr : Kr) (kx : Kxx)
    (pc : Nat) (ls : Lv) (st : List Value) (I : Iv) (E : Ev) (u : Uv) (k : Lv → List Value → Iv → Ev → Uv → Prop),
    CxH p s m args meth c own Γ nL cc ret → (∀ pc ls st I E u, go pc ls st I E u → Zj p l e s m args below meth c Γ sh d M nL kr kx pc ls st I E u) →
    decode cc pc = .ok ir.2.1 → ir.2.2 pc = true → ir.1 (go, kr, kx, Γ, l, sh, d, M, ret) ls st I E u k →
    (∀ ls st I E u, k ls st I E u → Zj p l e s m args below meth c Γ sh d M nL kr kx (pc + ir.2.1.2) ls st I E u) →
    Zj p l e s m args below meth c Γ sh d M nL kr kx pc ls st I E u
theorem hbx_sound {p : Program} {l : Launch} {e : Env} {s : State} {m : MethodId} {args : Array Value} {below : List Frame} {meth : Method} {c : Code} {own : String} {Γ : Gm} {sh : Sh} {d : Nat} {M : Uv} {nL : Nat} {cc : ByteArray} {ret : Option FieldType} {go : Go} {kr : Kr} {kx : Kxx}
    (hC : CxH p s m args meth c own Γ nL cc ret) (hgo : ∀ pc ls st I E u, go pc ls st I E u → Zj p l e s m args below meth c Γ sh d M nL kr kx pc ls st I E u) {nx : Nat} :
    ∀ (is : List Ir) (pc : Nat) (ls : Lv) (st : List Value) (I : Iv) (E : Ev) (u : Uv), decB cc nx pc is = true → (∀ ir ∈ is, SndH own ir) → bx (go, kr, kx, Γ, l, sh, d, M, ret) is nx ls st I E u → Zj p l e s m args below meth c Γ sh d M nL kr kx pc ls st I E u := by
  intro is
  induction is with
  | nil =>
    intro pc ls st I E u hd _ h
    have h1 : pc = nx := by simpa [decB] using hd
    subst h1
    exact hgo _ _ _ _ _ _ h
  | cons ir is ih =>
    intro pc ls st I E u hd hs h
    simp only [decB, Bool.and_eq_true, decide_eq_true_eq] at hd
    exact hs ir List.mem_cons_self p l e s m args below meth c Γ sh d M nL cc ret go kr kx pc ls st I E u _ hC hgo hd.1 hd.2.1 h
      (fun ls st I E u hk => ih (pc + ir.2.1.2) ls st I E u hd.2.2 (fun x hx => hs x (List.mem_cons_of_mem _ hx)) hk)
theorem hsLA0 {own : String} : SndH own iLA0 := by
  intro p l e s m args below meth c Γ sh d M nL cc ret go kr kx pc ls st I E u k hC hgo hd hq h hk
  simp only [iLA0] at h
  split at h
  · intro H locs la hW hL hlo h1 h2
    exact lv_aload_n hC.1 hC.2.1 hd rfl (hlo.2.2.2 0 _ rfl) (hk _ _ _ _ _ h H locs la hW hL hlo h1 h2)
  · exact h.elim
theorem hsLA2 {own : String} : SndH own iLA2 := by
  intro p l e s m args below meth c Γ sh d M nL cc ret go kr kx pc ls st I E u k hC hgo hd hq h hk
  simp only [iLA2] at h
  split at h
  · intro H locs la hW hL hlo h1 h2
    exact lv_aload_n hC.1 hC.2.1 hd rfl (hlo.2.2.2 2 _ rfl) (hk _ _ _ _ _ h H locs la hW hL hlo h1 h2)
  · exact h.elim
theorem hsLA3 {own : String} : SndH own iLA3 := by
  intro p l e s m args below meth c Γ sh d M nL cc ret go kr kx pc ls st I E u k hC hgo hd hq h hk
  simp only [iLA3] at h
  split at h
  · intro H locs la hW hL hlo h1 h2
    exact lv_aload_n hC.1 hC.2.1 hd rfl (hlo.2.2.2 3 _ rfl) (hk _ _ _ _ _ h H locs la hW hL hlo h1 h2)
  · exact h.elim
theorem hsLA4 {own : String} : SndH own iLA4 := by
  intro p l e s m args below meth c Γ sh d M nL cc ret go kr kx pc ls st I E u k hC hgo hd hq h hk
  simp only [iLA4] at h
  split at h
  · intro H locs la hW hL hlo h1 h2
    exact lv_aload hC.1 hC.2.1 hd (hlo.2.2.2 4 _ rfl) (hk _ _ _ _ _ h H locs la hW hL hlo h1 h2)
  · exact h.elim
theorem hsLA5 {own : String} : SndH own iLA5 := by
  intro p l e s m args below meth c Γ sh d M nL cc ret go kr kx pc ls st I E u k hC hgo hd hq h hk
  simp only [iLA5] at h
  split at h
  · intro H locs la hW hL hlo h1 h2
    exact lv_aload hC.1 hC.2.1 hd (hlo.2.2.2 5 _ rfl) (hk _ _ _ _ _ h H locs la hW hL hlo h1 h2)
  · exact h.elim
theorem hsLA6 {own : String} : SndH own iLA6 := by
  intro p l e s m args below meth c Γ sh d M nL cc ret go kr kx pc ls st I E u k hC hgo hd hq h hk
  simp only [iLA6] at h
  split at h
  · intro H locs la hW hL hlo h1 h2
    exact lv_aload hC.1 hC.2.1 hd (hlo.2.2.2 6 _ rfl) (hk _ _ _ _ _ h H locs la hW hL hlo h1 h2)
  · exact h.elim
theorem hsLA8 {own : String} : SndH own iLA8 := by
  intro p l e s m args below meth c Γ sh d M nL cc ret go kr kx pc ls st I E u k hC hgo hd hq h hk
  simp only [iLA8] at h
  split at h
  · intro H locs la hW hL hlo h1 h2
    exact lv_aload hC.1 hC.2.1 hd (hlo.2.2.2 8 _ rfl) (hk _ _ _ _ _ h H locs la hW hL hlo h1 h2)
  · exact h.elim
theorem hsLI1 {own : String} : SndH own iLI1 := by
  intro p l e s m args below meth c Γ sh d M nL cc ret go kr kx pc ls st I E u k hC hgo hd hq h hk
  simp only [iLI1] at h
  split at h
  · intro H locs la hW hL hlo h1 h2
    exact lv_iload_n hC.1 hC.2.1 hd rfl (hlo.2.2.2 1 _ rfl) (hk _ _ _ _ _ h H locs la hW hL hlo h1 h2)
  · exact h.elim
theorem hsLI2 {own : String} : SndH own iLI2 := by
  intro p l e s m args below meth c Γ sh d M nL cc ret go kr kx pc ls st I E u k hC hgo hd hq h hk
  simp only [iLI2] at h
  split at h
  · intro H locs la hW hL hlo h1 h2
    exact lv_iload_n hC.1 hC.2.1 hd rfl (hlo.2.2.2 2 _ rfl) (hk _ _ _ _ _ h H locs la hW hL hlo h1 h2)
  · exact h.elim
theorem hsLI3 {own : String} : SndH own iLI3 := by
  intro p l e s m args below meth c Γ sh d M nL cc ret go kr kx pc ls st I E u k hC hgo hd hq h hk
  simp only [iLI3] at h
  split at h
  · intro H locs la hW hL hlo h1 h2
    exact lv_iload_n hC.1 hC.2.1 hd rfl (hlo.2.2.2 3 _ rfl) (hk _ _ _ _ _ h H locs la hW hL hlo h1 h2)
  · exact h.elim
theorem hsLI4 {own : String} : SndH own iLI4 := by
  intro p l e s m args below meth c Γ sh d M nL cc ret go kr kx pc ls st I E u k hC hgo hd hq h hk
  simp only [iLI4] at h
  split at h
  · intro H locs la hW hL hlo h1 h2
    exact lv_iload hC.1 hC.2.1 hd (hlo.2.2.2 4 _ rfl) (hk _ _ _ _ _ h H locs la hW hL hlo h1 h2)
  · exact h.elim
theorem hsLI5 {own : String} : SndH own iLI5 := by
  intro p l e s m args below meth c Γ sh d M nL cc ret go kr kx pc ls st I E u k hC hgo hd hq h hk
  simp only [iLI5] at h
  split at h
  · intro H locs la hW hL hlo h1 h2
    exact lv_iload hC.1 hC.2.1 hd (hlo.2.2.2 5 _ rfl) (hk _ _ _ _ _ h H locs la hW hL hlo h1 h2)
  · exact h.elim
theorem hsLI6 {own : String} : SndH own iLI6 := by
  intro p l e s m args below meth c Γ sh d M nL cc ret go kr kx pc ls st I E u k hC hgo hd hq h hk
  simp only [iLI6] at h
  split at h
  · intro H locs la hW hL hlo h1 h2
    exact lv_iload hC.1 hC.2.1 hd (hlo.2.2.2 6 _ rfl) (hk _ _ _ _ _ h H locs la hW hL hlo h1 h2)
  · exact h.elim
theorem hsLI7 {own : String} : SndH own iLI7 := by
  intro p l e s m args below meth c Γ sh d M nL cc ret go kr kx pc ls st I E u k hC hgo hd hq h hk
  simp only [iLI7] at h
  split at h
  · intro H locs la hW hL hlo h1 h2
    exact lv_iload hC.1 hC.2.1 hd (hlo.2.2.2 7 _ rfl) (hk _ _ _ _ _ h H locs la hW hL hlo h1 h2)
  · exact h.elim
theorem hsSA3 {own : String} : SndH own iSA3 := by
  intro p l e s m args below meth c Γ sh d M nL cc ret go kr kx pc ls st I E u k hC hgo hd hq h hk
  simp only [iSA3] at h
  split at h
  · intro H locs la hW hL hlo h1 h2
    have hn : 3 < nL := by rw [← hlo.1]; simp only [List.length_cons]; omega
    exact lv_astore_n hC.1 hC.2.1 hd rfl hlo.has hn rfl (fun la' hla => hk _ _ _ _ _ h H locs la' hW hL (Lok.st 3 _ (.ref _) hlo.1 hla) h1 h2)
  · exact h.elim
theorem hsSA4 {own : String} : SndH own iSA4 := by
  intro p l e s m args below meth c Γ sh d M nL cc ret go kr kx pc ls st I E u k hC hgo hd hq h hk
  simp only [iSA4] at h
  split at h
  · intro H locs la hW hL hlo h1 h2
    have hn : 4 < nL := by rw [← hlo.1]; simp only [List.length_cons]; omega
    exact lv_astore hC.1 hC.2.1 hd hlo.has hn rfl (fun la' hla => hk _ _ _ _ _ h H locs la' hW hL (Lok.st 4 _ (.ref _) hlo.1 hla) h1 h2)
  · exact h.elim
theorem hsSA5 {own : String} : SndH own iSA5 := by
  intro p l e s m args below meth c Γ sh d M nL cc ret go kr kx pc ls st I E u k hC hgo hd hq h hk
  simp only [iSA5] at h
  split at h
  · intro H locs la hW hL hlo h1 h2
    have hn : 5 < nL := by rw [← hlo.1]; simp only [List.length_cons]; omega
    exact lv_astore hC.1 hC.2.1 hd hlo.has hn rfl (fun la' hla => hk _ _ _ _ _ h H locs la' hW hL (Lok.st 5 _ (.ref _) hlo.1 hla) h1 h2)
  · exact h.elim
theorem hsSA6 {own : String} : SndH own iSA6 := by
  intro p l e s m args below meth c Γ sh d M nL cc ret go kr kx pc ls st I E u k hC hgo hd hq h hk
  simp only [iSA6] at h
  split at h
  · intro H locs la hW hL hlo h1 h2
    have hn : 6 < nL := by rw [← hlo.1]; simp only [List.length_cons]; omega
    exact lv_astore hC.1 hC.2.1 hd hlo.has hn rfl (fun la' hla => hk _ _ _ _ _ h H locs la' hW hL (Lok.st 6 _ (.ref _) hlo.1 hla) h1 h2)
  · exact h.elim
theorem hsSA7 {own : String} : SndH own iSA7 := by
  intro p l e s m args below meth c Γ sh d M nL cc ret go kr kx pc ls st I E u k hC hgo hd hq h hk
  simp only [iSA7] at h
  split at h
  · intro H locs la hW hL hlo h1 h2
    have hn : 7 < nL := by rw [← hlo.1]; simp only [List.length_cons]; omega
    exact lv_astore hC.1 hC.2.1 hd hlo.has hn rfl (fun la' hla => hk _ _ _ _ _ h H locs la' hW hL (Lok.st 7 _ (.ref _) hlo.1 hla) h1 h2)
  · exact h.elim
theorem hsSA9 {own : String} : SndH own iSA9 := by
  intro p l e s m args below meth c Γ sh d M nL cc ret go kr kx pc ls st I E u k hC hgo hd hq h hk
  simp only [iSA9] at h
  split at h
  · intro H locs la hW hL hlo h1 h2
    have hn : 9 < nL := by rw [← hlo.1]; simp only [List.length_cons]; omega
    exact lv_astore hC.1 hC.2.1 hd hlo.has hn rfl (fun la' hla => hk _ _ _ _ _ h H locs la' hW hL (Lok.st 9 _ (.ref _) hlo.1 hla) h1 h2)
  · exact h.elim
theorem hsC0 {own : String} : SndH own iC0 := by
  intro p l e s m args below meth c Γ sh d M nL cc ret go kr kx pc ls st I E u k hC hgo hd hq h hk
  intro H locs la hW hL hlo h1 h2
  exact lv_iconst (v := (nI 0)) hC.1 hC.2.1 hd (by decide) (hk _ _ _ _ _ h H locs la hW hL hlo h1 h2)
theorem hsC1 {own : String} : SndH own iC1 := by
  intro p l e s m args below meth c Γ sh d M nL cc ret go kr kx pc ls st I E u k hC hgo hd hq h hk
  intro H locs la hW hL hlo h1 h2
  exact lv_iconst (v := (nI 1)) hC.1 hC.2.1 hd (by decide) (hk _ _ _ _ _ h H locs la hW hL hlo h1 h2)
theorem hsC2 {own : String} : SndH own iC2 := by
  intro p l e s m args below meth c Γ sh d M nL cc ret go kr kx pc ls st I E u k hC hgo hd hq h hk
  intro H locs la hW hL hlo h1 h2
  exact lv_iconst (v := (nI 2)) hC.1 hC.2.1 hd (by decide) (hk _ _ _ _ _ h H locs la hW hL hlo h1 h2)
theorem hsI2L {own : String} : SndH own iI2L := by
  intro p l e s m args below meth c Γ sh d M nL cc ret go kr kx pc ls st I E u k hC hgo hd hq h hk
  simp only [iI2L] at h
  split at h
  · intro H locs la hW hL hlo h1 h2
    exact lv_i2l hC.1 hC.2.1 hd rfl (hk _ _ _ _ _ h H locs la hW hL hlo h1 h2)
  · exact h.elim
theorem hsGO {own : String} {off : Int} {t : Nat} : SndH own (iGO off t) := by
  intro p l e s m args below meth c Γ sh d M nL cc ret go kr kx pc ls st I E u k hC hgo hd hq h hk
  intro H locs la hW hL hlo h1 h2
  exact lv_goto hC.1 hC.2.1 hd (of_decide_eq_true hq) (hgo _ _ _ _ _ _ h H locs la hW hL hlo h1 h2)
theorem hsLAST {own : String} : SndH own iLAST := by
  intro p l e s m args below meth c Γ sh d M nL cc ret go kr kx pc ls st I E u k hC hgo hd hq h hk
  simp only [iLAST] at h
  split at h
  · rename_i y x i r
    obtain ⟨ht, z, rfl, n, rfl, hn, h⟩ := h
    intro H locs la hW hL hlo h1 h2
    obtain ⟨hB, hl, hc⟩ := hW.arr ht (by decide)
    have hcl : (nI n).toNatClampNeg = n := nI_clamp (by omega)
    refine W.last hC.1 hC.2.1 hc ((hC.2.2.2.2.2.1.1.2 3 _ rfl).1 _ _) (fun q => by cases q) (by rw [arrV_size]; exact ix_ok hn hl) rfl rfl hd (fun H' e1 e2 e3 => ?_)
    rw [hcl] at e1 ⊢
    refine hk _ _ _ _ _ h H' _ la (hW.upd (fun _ => rfl) (fun _ => rfl) (by rw [ht]; decide) ?_ e2 e3 (fun a ha b => vl_up_ne ha)) (mem_locs hL hB) hlo h1 h2
    unfold ck
    rw [if_neg (by rw [ht]; decide), ht]
    refine ⟨hl, e1.trans ?_⟩
    rw [arrV_store]
    refine congrArg (fun f => some (arrV _ _ f)) (funext fun b => ?_)
    unfold updV
    by_cases hb : b = n
    · subst hb
      rw [if_pos rfl]
      unfold vl
      rw [ht, up_s]
      rfl
    · rw [if_neg hb]
      unfold vl
      rw [up_n (fun q => hb q.2)]
  · exact h.elim
theorem hsRI {own : String} : SndH own iRI := by
  intro p l e s m args below meth c Γ sh d M nL cc ret go kr kx pc ls st I E u k hC hgo hd hq h hk
  simp only [iRI] at h
  split at h
  · rename_i x
    intro H locs la hW hL hlo h1 h2
    refine W.widen (k := M.1) (n := M.2) h1 h2 (vx_ret ?_)
    match ret, h, hC with
    | some .int, h, hC => exact W.iret hC.1 hC.2.1 hC.2.2.2.2.2.2.1 (fun t ht _ => ⟨some (.int x), I, E, rfl, by rw [ht]; exact hW, h.2⟩) hL hd hC.2.2.2.2.2.2.2.1
    | some .boolean, h, hC => exact W.zret hC.1 hC.2.1 hC.2.2.2.2.2.2.1 (by rcases h.1 with h | h <;> subst h <;> decide +kernel) (fun t ht _ => ⟨some (.int x), I, E, rfl, by rw [ht]; exact hW, h.2⟩) hL hd hC.2.2.2.2.2.2.2.1
    | none, h, hC => exact h.1.elim
    | some .byte, h, hC => exact h.1.elim
    | some .char, h, hC => exact h.1.elim
    | some .short, h, hC => exact h.1.elim
    | some .long, h, hC => exact h.1.elim
    | some .float, h, hC => exact h.1.elim
    | some .double, h, hC => exact h.1.elim
    | some (.object _), h, hC => exact h.1.elim
    | some (.array _), h, hC => exact h.1.elim
  · exact h.elim
/-- a call whose throws are caught here -/
theorem zj_try {p : Program} {l : Launch} {e : Env} {s : State} {m : MethodId} {args : Array Value} {below : List Frame} {meth : Method} {c : Code} {own : String} {Γ : Gm} {sh : Sh} {d : Nat} {M : Uv} {nL : Nat} {cc : ByteArray} {ret : Option FieldType} {kr kr' : Kr} {kx kx' : Kxx} {pc ix i m1 m2 ci : Nat} {ls : Lv} {av r : List Value} {I : Iv} {E : Ev} {u : Uv} {mt : Mt} (q : vw_C)
    (hC : CxH p s m args meth c own Γ nL cc ret) (hc : hcl[ci]? = some q) (hcls : q.1 = mt.1.cls) (hM : Mok mt) (hi : Cond.instanceMethod mt.1 ∈ gtb) (hse : Cond.selects mt.1.cls mt.1 mt.1 ∈ gtb) (hl : Cond.methodLink own ix mt.1 ∈ gtb) (hn : (parseMethodDescriptor mt.1.desc).map (fun d => d.parameters.length) = some av.length) (hd : decode cc pc = .ok (.invokevirtual ix, 3)) (ht : tyc sh E i = ci + 1) (hr4 : r.length ≤ 4) (hm1 : u.1 + m1 ≤ M.1) (hm2 : u.2 + m2 ≤ M.2)
    (hex : Ex Γ l sh d (m1, m2) mt (.ref i :: av) I E kr' kx') (hret : ∀ w I' E', kr' w I' E' → Zj p l e s m args below meth c Γ sh d M nL kr kx (pc + 3) ls (w.toList ++ r) I' E' (u.1 + m1, u.2 + m2))
    (hkx : ∀ C I' E', kx' C I' E' → ∃ (pre : List ExceptionTableEntry) (x : ExceptionTableEntry) (suf : List ExceptionTableEntry) (name : String), c.exceptionTable.toList = pre ++ x :: suf ∧ (∀ z ∈ pre, covers z pc = false ∨ (z.catchType ≠ 0 ∧ ∃ nm : String, (Cond.classLink own z.catchType nm).before args s = true ∧ va_Nc C nm s)) ∧ covers x pc = true ∧ x.catchType ≠ 0 ∧ (Cond.classLink own x.catchType name).before args s = true ∧ (Cond.castable C name).before args s = true ∧ ∀ a, Zj p l e s m args below meth c Γ sh d M nL kr kx x.handlerPc ls [.ref (1000000 + a)] I' E' (u.1 + m1, u.2 + m2)) :
    Zj p l e s m args below meth c Γ sh d M nL kr kx pc ls (av.reverse ++ .ref i :: r) I E u := by
  intro H locs la hW hL hlo h1 h2
  obtain ⟨hB, cell, q1, q2, q3, -⟩ := hW.obj ht hc
  have hfc := ((hC.2.2.2.2.2.1.1.1 ci q hc).2).1
  have hr := vx_runV (l := l) (e := e) (below := below) (meth := meth) (R := rmd (d + 1) M) (locs := locs) (cells := u.1) (slots := u.2) (H := H) (g := F0 m pc la ((av.reverse ++ .ref i :: r).map (rv Γ.1))) (As := av.map (rv Γ.1)) (rest := r.map (rv Γ.1)) (b := ad Γ.1 i) (C := mt.1.cls) ⟨hC.1, hC.2.1, hC.2.2.1, hC.2.2.2.1, hC.2.2.2.2.1⟩ hex ⟨hM.callB hC.2.2.2.2.1 hl hn, hC.2.2.2.2.1 _ hi, hC.2.2.2.2.1 _ hse⟩
    ⟨ex_blind, ⟨cell, q1, by rw [q3]; rfl, by rw [q2, ← hcls]; exact hfc⟩, fun U hU hWm => ⟨rfl, by rw [hU]; exact hW, hC.2.2.2.2.2.1.warm hWm⟩⟩ rfl (by rw [List.length_map]) hlo.2.1 (by show (av.reverse ++ .ref i :: r).map (rv Γ.1) = _; rw [List.map_append, List.map_reverse]; rfl) (lv_room (Nat.le_trans (ccat r) (by omega))) hd ⟨hm1, hm2⟩
  intro T hT X
  rcases hr T hT X with ⟨v, st₀, t, T', L, h0, X', hL', e1, e2, ⟨w, I', E', hw, hWd, hkr⟩, st⟩ | ⟨a, st₀, t, T', L, Ec, ce, h0, X', hL', e1, e2, ⟨I', E', hWd, hkx'⟩, hce, hcv, hcl, st⟩
  · have hv : v = w.map (rv Γ.1) := Outcome.returned.inj hw
    subst hv
    have h9 := hret w I' E' hkr T'.heap (locs ++ L) la (by rw [e1]; exact hWd) (t_lL hL hL') hlo hm1 hm2
    rw [List.map_append] at h9
    obtain ⟨t2, a1, b1⟩ := h9 T' rfl X'
    refine ⟨t2, st t2 ?_, b1⟩
    cases w <;> exact a1
  · obtain ⟨pre, x, suf, name, c1, c2, c3, c4, c5, c6, c7⟩ := hkx _ _ _ hkx'
    have h9 := c7 a T'.heap (locs ++ L) la (by rw [e1]; exact hWd) (t_lL hL hL') hlo hm1 hm2
    rw [List.map_cons, show rv Γ.1 (.ref (1000000 + a)) = .ref (ad Γ.1 (1000000 + a)) from rfl, ad_far] at h9
    obtain ⟨t2, a1, b1⟩ := vx_catch (own := own) (name := name) (E := Ec) (ce := ce) (pc := pc) (ls := la) (rest := r.map (rv Γ.1)) hC.2.2.2.1 pre x suf c1 c2 c3 c4 c5 c6 (by rw [e1]; exact hce) hcv hcl h9 T' rfl X'
    exact ⟨t2, st.trans a1, b1⟩
def ExW (Γ : Gm) (l : Launch) (sh : Sh) (d : Nat) (M : Uv) (mt : Mt) (hh : List (Nat × Nat × Nat × Nat)) (av : List Value) (I : Iv) (E : Ev) (kr : Kr) (kx : Kxx) : Prop :=
  vx_Met l mt.1 (Cond.codeWith mt.1 mt.2.1 mt.2.2.1 mt.2.2.2 hh :: gtb) (rmd d M) (ExP Γ sh av I E) (ExQ Γ sh kr) (ExX Γ sh kx) M.1 M.2 (fun q => Γ.1.1 ≤ q)
theorem ex_ofH {Γ : Gm} {l : Launch} {sh : Sh} {d : Nat} {M : Uv} {mt : Mt} {hh : List (Nat × Nat × Nat × Nat)} {av : List Value} {I : Iv} {E : Ev} {kr : Kr} {kx : Kxx} (hy : plainName mt.1.cls = true)
    (hav : (av.all fun v => decide (v.category = 1)) = true) (hn : av.length ≤ mt.2.2.1) {ls0 : Lv} (hls : av.map some ++ List.replicate (mt.2.2.1 - av.length) none = ls0)
    (body : ∀ (p : Program) (e : Env) (s : State) (m : MethodId) (args : Array Value) (below : List Frame) (meth : Method) (c : Code), CxH p s m args meth c mt.1.cls Γ mt.2.2.1 mt.2.1 mt.2.2.2 → c.exceptionTable.toList = tableOf hh → (∃ H0, Wd Γ sh I E H0) → Zj p l e s m args below meth c Γ sh d M mt.2.2.1 kr kx 0 ls0 [] I E (0, 0)) : ExW Γ l sh (d + 1) M mt hh av I E kr kx := by
  refine vx_ofWH (cc := mt.2.1) (maxL := mt.2.2.1) (ret := mt.2.2.2) (hh := hh) hy rfl ?_
  intro p e s m args below meth c s₁ B hml hv
  obtain ⟨rfl, hW, hK⟩ := hv
  have hts := atoms_spec (ws := Cond.codeWith mt.1 mt.2.1 mt.2.2.1 mt.2.2.2 hh :: gtb) B.pre
  have hC : CxH p s m (av.map (rv Γ.1)).toArray meth c mt.1.cls Γ mt.2.2.1 mt.2.1 mt.2.2.2 := ⟨B.exec, B.bytes, hml, findClass_of_methodNamed B.named, fun w hw => hts w (List.mem_cons_of_mem _ hw), hK, B.returns, B.notSynchronized, trivial, rfl⟩
  have key := body p e s m (av.map (rv Γ.1)).toArray below meth c hC (vx_table (x := mt.1) B (hts _ List.mem_cons_self)) ⟨_, hW⟩
  have hcat : ∀ v ∈ av, v.category = 1 := fun v hv => by simpa using List.all_eq_true.mp hav v hv
  have hsl := sl_of (B := Γ.1) hcat
  have hlen : (lg_sl (av.map (rv Γ.1))).length ≤ mt.2.2.1 := by rw [hsl]; simpa using hn
  have hl := lv_entry (av.map (rv Γ.1)) (n := mt.2.2.1) hlen
  rw [lg_entry_eq]
  have hlok : Lok Γ.1 mt.2.2.1 ls0 (lg_sl (av.map (rv Γ.1)) ++ List.replicate (mt.2.2.1 - (lg_sl (av.map (rv Γ.1))).length) Slot.unset).toArray := by
    refine ⟨by rw [← hls]; simp; omega, hl.1, hl.2.1, fun i v hi => ?_⟩
    rw [← hls] at hi
    have hi' : i < av.length := by
      by_cases h : i < av.length
      · exact h
      · rw [List.getElem?_append_right (by simpa using h)] at hi
        simp [List.getElem?_replicate] at hi
    rw [List.getElem?_append_left (by simpa using hi')] at hi
    simp only [List.getElem?_map] at hi
    rw [hsl]
    simp only [List.getElem?_toArray]
    rw [List.getElem?_append_left (by simpa using hi')]
    simp only [List.getElem?_map]
    cases hx : av[i]? with
    | none => rw [hx] at hi; simp at hi
    | some w =>
      rw [hx] at hi
      simp only [Option.map_some, Option.some.injEq] at hi
      subst hi
      rfl
  exact key s.heap [] _ hW (fun q h => by cases h) hlok (Nat.zero_le _) (Nat.zero_le _)

/-- a static call of such a body -/
def CalW (κ : Kt) (mt : Mt) (hh : List (Nat × Nat × Nat × Nat)) (av : List Value) (I : Iv) (E : Ev) (u : Uv) (k : Option Value → Iv → Ev → Uv → Prop) : Prop :=
  ∃ m1 m2 : Nat, (u.1 ≤ κ.2.2.2.2.2.2.2.1.1 → u.1 + m1 ≤ κ.2.2.2.2.2.2.2.1.1) ∧ (u.2 ≤ κ.2.2.2.2.2.2.2.1.2 → u.2 + m2 ≤ κ.2.2.2.2.2.2.2.1.2) ∧
    ExW κ.2.2.2.1 κ.2.2.2.2.1 κ.2.2.2.2.2.1 κ.2.2.2.2.2.2.1 (m1, m2) mt hh av I E (fun w I' E' => k w I' E' (u.1 + m1, u.2 + m2)) κ.2.2.1
def iHS (ix n : Nat) (mt : Mt) (hh : List (Nat × Nat × Nat × Nat)) : Ir := (fun κ ls st I E u k => ∃ av r, av.length = n ∧ st = av.reverse ++ r ∧ r.length ≤ 4 ∧ CalW κ mt hh av I E u (fun w I' E' u' => k ls (w.toList ++ r) I' E' u'), (.invokestatic ix, 3), fun _ => decide ((parseMethodDescriptor mt.1.desc).map (fun d => d.parameters.length) = some n))
theorem eHS {g : Go} {kr : Kr} {kx : Kxx} {Γ : Gm} {l : Launch} {sh : Sh} {d : Nat} {M : Uv} {ret : Option FieldType} {ls : Lv} {st : List Value} {I : Iv} {E : Ev} {u : Uv} {k : Lv → List Value → Iv → Ev → Uv → Prop} {ix n : Nat} {mt : Mt} {hh : List (Nat × Nat × Nat × Nat)} : (iHS ix n mt hh).1 (g, kr, kx, Γ, l, sh, d, M, ret) ls st I E u k = (∃ av r, av.length = n ∧ st = av.reverse ++ r ∧ r.length ≤ 4 ∧ CalW (g, kr, kx, Γ, l, sh, d, M, ret) mt hh av I E u (fun w I' E' u' => k ls (w.toList ++ r) I' E' u')) := rfl
theorem sHS {own : String} {ix n : Nat} {mt : Mt} {hh : List (Nat × Nat × Nat × Nat)} (hcw : Cond.codeWith mt.1 mt.2.1 mt.2.2.1 mt.2.2.2 hh ∈ gtb) (hini : Cond.initialized mt.1.cls ∈ gtb) (hy : mt.1.cls ≠ "java/lang/invoke/MethodHandle" ∧ mt.1.cls ≠ "java/lang/invoke/VarHandle") (h61 : mt.2.2.1 ≤ 61) (hst : Cond.static mt.1 ∈ gtb) (hl : Cond.methodLink own ix mt.1 ∈ gtb) : Snd own (iHS ix n mt hh) := by
  intro p l e s m args below meth cd Γ sh d M nL cc ret go kr kx pc ls st I E u k hC hgo hd hq h hk
  simp only [iHS] at h hq
  obtain ⟨av, r, hav, rfl, hr4, m1, m2, hm1, hm2, hex⟩ := h
  intro H locs la hW hL hlo h1 h2
  have hn := of_decide_eq_true hq
  have hts := hC.2.2.2.2.1
  have cw : vx_CSW (rmd (d + 1) M) s args own ix mt.1 mt.2.1 mt.2.2.1 mt.2.2.2 hh (Cond.codeWith mt.1 mt.2.1 mt.2.2.1 mt.2.2.2 hh :: gtb) (rmd d (m1, m2)) m1 m2 n := by
    refine ⟨⟨rfl, rfl, Nat.le_refl _, ?_, pay_in hts (gtb_good hcw), List.mem_cons_self⟩, hts _ hcw, hts _ hini, hy, fun sig hs => ?_, hts _ hl, hts _ hst⟩
    · show 8 + (mt.2.2.1 + 11) + 80 * d ≤ 80 * (d + 1)
      omega
    · rw [hs] at hn
      exact (Option.some.inj hn).symm
  refine call_sound (kr' := fun w I' E' => k ls (w.toList ++ r) I' E' (u.1 + m1, u.2 + m2)) (vx_runSX (As := av.map (rv Γ.1)) (rest := r.map (rv Γ.1)) ⟨hC.1, hC.2.1, hC.2.2.1, hC.2.2.2.1, hC.2.2.2.2.1⟩ hex cw
    ⟨ex_blind, fun U hU hWm => ⟨rfl, by rw [hU]; exact hW, hC.2.2.2.2.2.1.warm hWm⟩⟩ rfl (by rw [List.length_map]; exact hav) hlo.2.1 (by show (av.reverse ++ r).map (rv Γ.1) = _; rw [List.map_append, List.map_reverse]) (lv_room (Nat.le_trans (ccat r) (by omega))) hd ⟨hm1 h1, hm2 h2⟩) hC.2.2.2.2.2.2.2.2.1 hC.2.2.2.2.2.2.2.1 hL (hm1 h1) (hm2 h2) (fun w I' E' hk' H1 locs1 hW1 hL1 => ?_)
  have h9 := hk _ _ _ _ _ hk' H1 locs1 la hW1 hL1 hlo (hm1 h1) (hm2 h2)
  rw [List.map_append] at h9
  cases w <;> exact h9
/-- what a helper answers: the out cell holds v, class and model -/
def HAns (o q z : Nat) (mm : Mt) (av : List Value) (kr : Kr) : Prop := ∀ (a : Int32) (w : Nat) (v : Int32) (K : Iv) (F : Ev), MAns mm (.ref 500000 :: av) a w q z K F → tyc shN F o = 0 → w ≤ 2 → (w = 0 → v = a) → kr (some (.int (nI w))) (kpI o v K) (kpE o (flE shN F))
/-- IllegalArgumentException is no NoSuchElementException -/
def GN (Γ : Gm) : Prop := ∀ U, Γ.2.2.2.2.2 U → va_Nc iaX nsX U
theorem kp_up {o : Nat} {v a : Int32} {K : Iv} : up (kpI o v K) o 0 a = fun i j => if i = o then (if j = 0 then a else v) else K i j := by
  funext i j
  unfold up kpI
  by_cases e : i = o <;> by_cases f : j = 0 <;> simp [e, f]
theorem Wd.kpv {Γ : Gm} {o : Nat} {v a : Int32} {K : Iv} {G : Ev} {H : Heap} (h : Wd Γ sh0 (up (kpI o v K) o 0 a) (kpE o G) H) : Wd Γ sh0 (kpI o a K) (kpE o G) H := by
  obtain ⟨h1, h2, h3, h4⟩ := h
  refine ⟨h1, h2, h3, fun i hi => ⟨(h4 i hi).1, ?_⟩⟩
  have h5 := (h4 i hi).2
  by_cases e : i = o
  · subst e
    unfold ck at h5 ⊢
    rw [kpE_to rfl, if_neg (by decide), kpE_lo rfl] at h5 ⊢
    refine ⟨h5.1, h5.2.trans (congrArg some (arrV_ext (fun b hb => ?_)))⟩
    have : b = 0 := by omega
    subst this
    rw [kp_vo rfl]
    unfold vl
    rw [kpE_to rfl, if_neg (show ¬ rfs 104 0 = true from Bool.false_ne_true), if_pos rfl, up_s]
  · have ev : vl Γ.1 sh0 (kpI o a K) (kpE o G) i = vl Γ.1 sh0 (up (kpI o v K) o 0 a) (kpE o G) i := by
      funext j
      unfold vl
      rw [up_n (fun c => e c.1), show kpI o a K i j = K i j from if_neg e, show kpI o v K i j = K i j from if_neg e]
    unfold ck at h5 ⊢
    rw [ev]
    exact h5

theorem zj_vw {p : Program} {l : Launch} {e : Env} {s : State} {m : MethodId} {args : Array Value} {below : List Frame} {meth : Method} {c : Code} {Γ : Gm} {sh : Sh} {d : Nat} {M : Uv} {nL pc : Nat} {kr : Kr} {kx : Kxx} {ls : Lv} {st : List Value} {I I' : Iv} {E E' : Ev} {u : Uv} (hv : ∀ H, Wd Γ sh I E H → Wd Γ sh I' E' H) (h : Zj p l e s m args below meth c Γ sh d M nL kr kx pc ls st I' E' u) : Zj p l e s m args below meth c Γ sh d M nL kr kx pc ls st I E u :=
  fun H locs la hW => h H locs la (hv H hW)
theorem l13 : Cond.classLink "HerbWatersLaw" 13 iaX ∈ gtb := (gtb_mem 1111 (by decide +kernel) rfl)
theorem l19 : Cond.classLink "HerbWatersLaw" 19 nsX ∈ gtb := (gtb_mem 1284 (by decide +kernel) rfl)
theorem h_gen1 {Γ : Gm} {l : Launch} {d q z : Nat} {K : Iv} {F : Ev} {o : Nat} {v : Int32} {mh mx mm : Mt} {av : List Value} {ls0 : Lv} {b0 : List Ir} {pcc pe t ix h1 nA : Nat} {off : Int} {sa : Ir}
    (hcl : mh.1.cls = "HerbWatersLaw") (hri : mh.2.2.2 = some .int) (hG : GdX Γ l) (hN : GN Γ) (hko : Γ.2.2.2.1 99 0 = 0) (h9 : o ≠ 999999) (ho : tyc shN F o = 0) (hst : StX1 mx mm av 1 q z K F)
    (hav : ((.ref 0 :: av ++ [.ref o] : List Value).all fun v => decide (v.category = 1)) = true) (hln : (.ref 0 :: av ++ [.ref o] : List Value).length ≤ mh.2.2.1) (hls : (.ref 0 :: av ++ [.ref o] : List Value).map some ++ List.replicate (mh.2.2.1 - (.ref 0 :: av ++ [.ref o] : List Value).length) none = ls0)
    (hs0 : ∀ ir ∈ b0, SndH "HerbWatersLaw" ir) (hd0 : decB mh.2.1 pcc 0 b0 = true) (hx0 : ∀ (κ : Kt) (I : Iv) (E : Ev) (u : Uv), κ.1 pcc ls0 (av.reverse ++ [.ref 0, .int (nI 0), .ref o]) I E u → bx κ b0 pcc ls0 [] I E u)
    (hcx : "HerbWaters" = mx.1.cls) (hM : Mok mx) (hi : Cond.instanceMethod mx.1 ∈ gtb) (hse : Cond.selects mx.1.cls mx.1 mx.1 ∈ gtb) (hl : Cond.methodLink "HerbWatersLaw" ix mx.1 ∈ gtb) (hn : (parseMethodDescriptor mx.1.desc).map (fun d => d.parameters.length) = some av.length) (hdc : decode mh.2.1 pcc = .ok (.invokevirtual ix, 3))
    (hd1 : decB mh.2.1 (pcc + 8) (pcc + 3) [iI2L, iLAST, iGO off t] = true) (hdE : decB mh.2.1 (t + 2) t [iC0, iRI] = true) (hsa : SndH "HerbWatersLaw" sa) (hxa : ∀ (κ : Kt) (a : Nat) (I : Iv) (E : Ev) (u : Uv) (k : Lv → List Value → Iv → Ev → Uv → Prop), (∀ ls, k ls [] I E u) → sa.1 κ ls0 [.ref a] I E u k)
    (hdA : decB mh.2.1 nA h1 [sa, iC1, iRI] = true) (hcv : pcc < pe) :
    ∃ (M : Uv) (q' z' : Nat), Cst q z q' z' M ∧ q' ≤ 32 ∧ ∀ (kr : Kr) (kx : Kxx), HAns o q' z' mm av kr → ExW Γ l sh0 (d + 61) M mh [(0, pe, h1, 13)] (.ref 0 :: av ++ [.ref o]) (kpI o v K) (kpE o (flE shN F)) kr kx := by
  obtain ⟨M, q', z', hc, hq, hx⟩ := hst
  refine ⟨M, q', z', hc, hq, fun kr kx hk => ex_ofH (by rw [hcl]; decide +kernel) hav hln hls ?_⟩
  intro p e s m args below meth c hC htab hwd
  rw [hcl] at hC
  have hzj := fun (is : List Ir) (pc nx : Nat) (ls : Lv) (st : List Value) (I : Iv) (E : Ev) (u : Uv) (h1 : decB mh.2.1 nx pc is = true) (h2 : ∀ ir ∈ is, SndH "HerbWatersLaw" ir) (h3 : bx (Zj p l e s m args below meth c Γ sh0 (d + 60) M mh.2.2.1 kr kx, kr, kx, Γ, l, sh0, d + 60, M, mh.2.2.2) is nx ls st I E u) => hbx_sound (l := l) (e := e) (below := below) (go := Zj p l e s m args below meth c Γ sh0 (d + 60) M mh.2.2.1 kr kx) (kr := kr) (kx := kx) (sh := sh0) (d := d + 60) (M := M) hC (fun _ _ _ _ _ _ h => h) is pc ls st I E u h1 h2 h3
  refine hzj b0 0 pcc ls0 [] _ _ _ hd0 hs0 (hx0 _ _ _ _ ?_)
  have hNc : va_Nc iaX nsX s := by
    obtain ⟨H0, hW0⟩ := hwd
    exact va_Nc.moved (u := { s with heap := H0 }) (Vm.Alike.refl s.vm) (hN _ (hC.2.2.2.2.2.1.2.1 ({ s with heap := H0 } : State) (Vm.Alike.refl s.vm) (fun q hq => (hW0.2.1 q (Or.inl hq)).1)))
  have hca : ∀ C, Cond.castable C C ∈ ntb → (Cond.castable C C).before args s = true := fun C h => va_Nw.use rfl (hC.2.2.2.2.2.1.2.2 _ h)
  have hend : ∀ (w : Nat) (ic : Ir) (hp nx : Nat), (∀ (κ : Kt) ls st I E u k, ic.1 κ ls st I E u k = k ls (.int (nI w) :: st) I E u) → SndH "HerbWatersLaw" ic → decB mh.2.1 nx hp [sa, ic, iRI] = true → ∀ (a : Nat) (I : Iv) (E : Ev) (u : Uv), kr (some (.int (nI w))) I E → Zj p l e s m args below meth c Γ sh0 (d + 60) M mh.2.2.1 kr kx hp ls0 [.ref (1000000 + a)] I E u := by
    intro w ic hp nx hic hsi hdp a I E u hkr
    refine hzj [sa, ic, iRI] hp nx ls0 [.ref (1000000 + a)] I E u hdp (List.forall_mem_cons.mpr ⟨hsa, List.forall_mem_cons.mpr ⟨hsi, List.forall_mem_cons.mpr ⟨hsRI, fun _ h => absurd h List.not_mem_nil⟩⟩⟩) ?_
    rw [bx_cons]
    refine hxa _ _ _ _ _ _ (fun ls => ?_)
    rw [bx_cons, hic, bx_cons, eRI, hri]
    exact ⟨trivial, hkr⟩
  refine zj_try (ci := 10) (kr' := fun r I' E' => ∃ a K' F', r = some (.int a) ∧ I' = kpI o v K' ∧ E' = kpE o (flE shN F') ∧ tyc shN F' o = 0 ∧ MAns mm (.ref 500000 :: av) a 0 q' z' K' F') (kx' := fun C I' E' => ∃ K' F', I' = kpI o v K' ∧ E' = kpE o (flE shN F') ∧ tyc shN F' o = 0 ∧ C = iaX ∧ MAns mm (.ref 500000 :: av) (nI 0) 1 q' z' K' F') _ hC rfl hcx hM hi hse hl hn hdc (by rw [kpE_ty (by intro e0; rw [← e0] at ho; rw [ty_xmain] at ho; cases ho), fl_ty]; exact ty_xmain) (Nat.le_of_ble_eq_true rfl) (by show 0 + M.1 ≤ M.1; omega) (by show 0 + M.2 ≤ M.2; omega)
    (ex_law hko h9 hG ho (fun Γ' hG' => hx Γ' l d _ _ hG' (fun a K' F' hm ht => ⟨a, K', F', rfl, rfl, rfl, ht, hm⟩) (fun K' F' hm ht => ⟨K', F', rfl, rfl, ht, rfl, hm⟩))) ?_ ?_
  · rintro _ _ _ ⟨a, K', F', rfl, rfl, rfl, ht, hm⟩
    refine hzj [iI2L, iLAST, iGO off t] (pcc + 3) (pcc + 8) ls0 _ _ _ _ hd1 (List.forall_mem_cons.mpr ⟨hsI2L, List.forall_mem_cons.mpr ⟨hsLAST, List.forall_mem_cons.mpr ⟨hsGO, fun _ h => absurd h List.not_mem_nil⟩⟩⟩) ?_
    rw [bx_cons]
    show iI2L.1 _ ls0 (.int a :: [.int (nI 0), .ref o]) _ _ _ _
    rw [eI2L, bx_cons, eLAST]
    refine ⟨kpE_to rfl, a, rfl, ?_⟩
    rw [kpE_lo rfl]
    refine ixr_n (by decide) ?_
    show Zj p l e s m args below meth c Γ sh0 (d + 60) M mh.2.2.1 kr kx t ls0 [] _ _ _
    refine zj_vw (fun H h => h.kpv) ?_
    refine hzj [iC0, iRI] t (t + 2) ls0 [] _ _ _ hdE (List.forall_mem_cons.mpr ⟨hsC0, List.forall_mem_cons.mpr ⟨hsRI, fun _ h => absurd h List.not_mem_nil⟩⟩) ?_
    rw [bx_cons, eC0, bx_cons, eRI, hri]
    exact ⟨trivial, hk a 0 a K' F' hm ht (by omega) (fun _ => rfl)⟩
  · rintro _ _ _ ⟨K', F', rfl, rfl, ht, rfl, hm⟩
    exact ⟨[], ⟨0, pe, h1, 13⟩, [], iaX, htab, fun z hz => absurd hz List.not_mem_nil, by simp [covers, hcv], (show (13 : Nat) ≠ 0 by decide), hC.2.2.2.2.1 _ l13, hca _ (show Cond.castable iaX iaX ∈ ntb from (List.mem_filter.mpr ⟨List.mem_of_getElem? (i := 683) (by decide +kernel), rfl⟩)), fun a => hend 1 iC1 h1 nA (fun _ _ _ _ _ _ _ => rfl) hsC1 hdA a _ _ _ (hk (nI 0) 1 v K' F' hm ht (by omega) (fun e => absurd e (by decide)))⟩

theorem h_gen2 {Γ : Gm} {l : Launch} {d q z : Nat} {K : Iv} {F : Ev} {o : Nat} {v : Int32} {mh mx mm : Mt} {av : List Value} {ls0 : Lv} {b0 : List Ir} {pcc pe t ix h1 nA h2 nB : Nat} {off : Int} {sa : Ir}
    (hcl : mh.1.cls = "HerbWatersLaw") (hri : mh.2.2.2 = some .int) (hG : GdX Γ l) (hN : GN Γ) (hko : Γ.2.2.2.1 99 0 = 0) (h9 : o ≠ 999999) (ho : tyc shN F o = 0) (hst : StX mx mm av 1 2 q z K F)
    (hav : ((.ref 0 :: av ++ [.ref o] : List Value).all fun v => decide (v.category = 1)) = true) (hln : (.ref 0 :: av ++ [.ref o] : List Value).length ≤ mh.2.2.1) (hls : (.ref 0 :: av ++ [.ref o] : List Value).map some ++ List.replicate (mh.2.2.1 - (.ref 0 :: av ++ [.ref o] : List Value).length) none = ls0)
    (hs0 : ∀ ir ∈ b0, SndH "HerbWatersLaw" ir) (hd0 : decB mh.2.1 pcc 0 b0 = true) (hx0 : ∀ (κ : Kt) (I : Iv) (E : Ev) (u : Uv), κ.1 pcc ls0 (av.reverse ++ [.ref 0, .int (nI 0), .ref o]) I E u → bx κ b0 pcc ls0 [] I E u)
    (hcx : "HerbWaters" = mx.1.cls) (hM : Mok mx) (hi : Cond.instanceMethod mx.1 ∈ gtb) (hse : Cond.selects mx.1.cls mx.1 mx.1 ∈ gtb) (hl : Cond.methodLink "HerbWatersLaw" ix mx.1 ∈ gtb) (hn : (parseMethodDescriptor mx.1.desc).map (fun d => d.parameters.length) = some av.length) (hdc : decode mh.2.1 pcc = .ok (.invokevirtual ix, 3))
    (hd1 : decB mh.2.1 (pcc + 8) (pcc + 3) [iI2L, iLAST, iGO off t] = true) (hdE : decB mh.2.1 (t + 2) t [iC0, iRI] = true) (hsa : SndH "HerbWatersLaw" sa) (hxa : ∀ (κ : Kt) (a : Nat) (I : Iv) (E : Ev) (u : Uv) (k : Lv → List Value → Iv → Ev → Uv → Prop), (∀ ls, k ls [] I E u) → sa.1 κ ls0 [.ref a] I E u k)
    (hdA : decB mh.2.1 nA h1 [sa, iC1, iRI] = true) (hdB : decB mh.2.1 nB h2 [sa, iC2, iRI] = true) (hcv : pcc < pe) :
    ∃ (M : Uv) (q' z' : Nat), Cst q z q' z' M ∧ q' ≤ 32 ∧ ∀ (kr : Kr) (kx : Kxx), HAns o q' z' mm av kr → ExW Γ l sh0 (d + 61) M mh [(0, pe, h1, 19), (0, pe, h2, 13)] (.ref 0 :: av ++ [.ref o]) (kpI o v K) (kpE o (flE shN F)) kr kx := by
  obtain ⟨M, q', z', hc, hq, hx⟩ := hst
  refine ⟨M, q', z', hc, hq, fun kr kx hk => ex_ofH (by rw [hcl]; decide +kernel) hav hln hls ?_⟩
  intro p e s m args below meth c hC htab hwd
  rw [hcl] at hC
  have hzj := fun (is : List Ir) (pc nx : Nat) (ls : Lv) (st : List Value) (I : Iv) (E : Ev) (u : Uv) (h1 : decB mh.2.1 nx pc is = true) (h2 : ∀ ir ∈ is, SndH "HerbWatersLaw" ir) (h3 : bx (Zj p l e s m args below meth c Γ sh0 (d + 60) M mh.2.2.1 kr kx, kr, kx, Γ, l, sh0, d + 60, M, mh.2.2.2) is nx ls st I E u) => hbx_sound (l := l) (e := e) (below := below) (go := Zj p l e s m args below meth c Γ sh0 (d + 60) M mh.2.2.1 kr kx) (kr := kr) (kx := kx) (sh := sh0) (d := d + 60) (M := M) hC (fun _ _ _ _ _ _ h => h) is pc ls st I E u h1 h2 h3
  refine hzj b0 0 pcc ls0 [] _ _ _ hd0 hs0 (hx0 _ _ _ _ ?_)
  have hNc : va_Nc iaX nsX s := by
    obtain ⟨H0, hW0⟩ := hwd
    exact va_Nc.moved (u := { s with heap := H0 }) (Vm.Alike.refl s.vm) (hN _ (hC.2.2.2.2.2.1.2.1 ({ s with heap := H0 } : State) (Vm.Alike.refl s.vm) (fun q hq => (hW0.2.1 q (Or.inl hq)).1)))
  have hca : ∀ C, Cond.castable C C ∈ ntb → (Cond.castable C C).before args s = true := fun C h => va_Nw.use rfl (hC.2.2.2.2.2.1.2.2 _ h)
  have hend : ∀ (w : Nat) (ic : Ir) (hp nx : Nat), (∀ (κ : Kt) ls st I E u k, ic.1 κ ls st I E u k = k ls (.int (nI w) :: st) I E u) → SndH "HerbWatersLaw" ic → decB mh.2.1 nx hp [sa, ic, iRI] = true → ∀ (a : Nat) (I : Iv) (E : Ev) (u : Uv), kr (some (.int (nI w))) I E → Zj p l e s m args below meth c Γ sh0 (d + 60) M mh.2.2.1 kr kx hp ls0 [.ref (1000000 + a)] I E u := by
    intro w ic hp nx hic hsi hdp a I E u hkr
    refine hzj [sa, ic, iRI] hp nx ls0 [.ref (1000000 + a)] I E u hdp (List.forall_mem_cons.mpr ⟨hsa, List.forall_mem_cons.mpr ⟨hsi, List.forall_mem_cons.mpr ⟨hsRI, fun _ h => absurd h List.not_mem_nil⟩⟩⟩) ?_
    rw [bx_cons]
    refine hxa _ _ _ _ _ _ (fun ls => ?_)
    rw [bx_cons, hic, bx_cons, eRI, hri]
    exact ⟨trivial, hkr⟩
  refine zj_try (ci := 10) (kr' := fun r I' E' => ∃ a K' F', r = some (.int a) ∧ I' = kpI o v K' ∧ E' = kpE o (flE shN F') ∧ tyc shN F' o = 0 ∧ MAns mm (.ref 500000 :: av) a 0 q' z' K' F') (kx' := fun C I' E' => ∃ K' F', I' = kpI o v K' ∧ E' = kpE o (flE shN F') ∧ tyc shN F' o = 0 ∧ ((C = nsX ∧ MAns mm (.ref 500000 :: av) (nI 0) 1 q' z' K' F') ∨ (C = iaX ∧ MAns mm (.ref 500000 :: av) (nI 0) 2 q' z' K' F'))) _ hC rfl hcx hM hi hse hl hn hdc (by rw [kpE_ty (by intro e0; rw [← e0] at ho; rw [ty_xmain] at ho; cases ho), fl_ty]; exact ty_xmain) (Nat.le_of_ble_eq_true rfl) (by show 0 + M.1 ≤ M.1; omega) (by show 0 + M.2 ≤ M.2; omega)
    (ex_law hko h9 hG ho (fun Γ' hG' => hx Γ' l d _ _ hG' (fun a K' F' hm ht => ⟨a, K', F', rfl, rfl, rfl, ht, hm⟩) (fun K' F' hm ht => ⟨K', F', rfl, rfl, ht, Or.inl ⟨rfl, hm⟩⟩) (fun K' F' hm ht => ⟨K', F', rfl, rfl, ht, Or.inr ⟨rfl, hm⟩⟩))) ?_ ?_
  · rintro _ _ _ ⟨a, K', F', rfl, rfl, rfl, ht, hm⟩
    refine hzj [iI2L, iLAST, iGO off t] (pcc + 3) (pcc + 8) ls0 _ _ _ _ hd1 (List.forall_mem_cons.mpr ⟨hsI2L, List.forall_mem_cons.mpr ⟨hsLAST, List.forall_mem_cons.mpr ⟨hsGO, fun _ h => absurd h List.not_mem_nil⟩⟩⟩) ?_
    rw [bx_cons]
    show iI2L.1 _ ls0 (.int a :: [.int (nI 0), .ref o]) _ _ _ _
    rw [eI2L, bx_cons, eLAST]
    refine ⟨kpE_to rfl, a, rfl, ?_⟩
    rw [kpE_lo rfl]
    refine ixr_n (by decide) ?_
    show Zj p l e s m args below meth c Γ sh0 (d + 60) M mh.2.2.1 kr kx t ls0 [] _ _ _
    refine zj_vw (fun H h => h.kpv) ?_
    refine hzj [iC0, iRI] t (t + 2) ls0 [] _ _ _ hdE (List.forall_mem_cons.mpr ⟨hsC0, List.forall_mem_cons.mpr ⟨hsRI, fun _ h => absurd h List.not_mem_nil⟩⟩) ?_
    rw [bx_cons, eC0, bx_cons, eRI, hri]
    exact ⟨trivial, hk a 0 a K' F' hm ht (by omega) (fun _ => rfl)⟩
  · rintro _ _ _ ⟨K', F', rfl, rfl, ht, ⟨rfl, hm⟩ | ⟨rfl, hm⟩⟩
    · exact ⟨[], ⟨0, pe, h1, 19⟩, [⟨0, pe, h2, 13⟩], nsX, htab, fun z hz => absurd hz List.not_mem_nil, by simp [covers, hcv], (show (19 : Nat) ≠ 0 by decide), hC.2.2.2.2.1 _ l19, hca _ (show Cond.castable nsX nsX ∈ ntb from (List.mem_filter.mpr ⟨List.mem_of_getElem? (i := 1295) (by decide +kernel), rfl⟩)), fun a => hend 1 iC1 h1 nA (fun _ _ _ _ _ _ _ => rfl) hsC1 hdA a _ _ _ (hk (nI 0) 1 v K' F' hm ht (by omega) (fun e => absurd e (by decide)))⟩
    · exact ⟨[⟨0, pe, h1, 19⟩], ⟨0, pe, h2, 13⟩, [], iaX, htab, fun z hz => by rw [List.mem_singleton.mp hz]; exact Or.inr ⟨(show (19 : Nat) ≠ 0 by decide), nsX, hC.2.2.2.2.1 _ l19, hNc⟩, by simp [covers, hcv], (show (13 : Nat) ≠ 0 by decide), hC.2.2.2.2.1 _ l13, hca _ (show Cond.castable iaX iaX ∈ ntb from (List.mem_filter.mpr ⟨List.mem_of_getElem? (i := 683) (by decide +kernel), rfl⟩)), fun a => hend 2 iC2 h2 nB (fun _ _ _ _ _ _ _ => rfl) hsC2 hdB a _ _ _ (hk (nI 0) 2 v K' F' hm ht (by omega) (fun e => absurd e (by decide)))⟩

