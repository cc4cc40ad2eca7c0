/-! THE ENGINE, 1: abstract heaps by ids; the judgement; contracts -/
abbrev Iv : Type := Nat → Nat → Int32
/-- references by id and place (0: null; b + 1: the id b), types and lengths of what was made at run time -/
abbrev Ev : Type := (Nat → Nat → Nat) × (Nat → Nat) × (Nat → Nat)
abbrev Lv : Type := List (Option Value)
abbrev Uv : Type := Nat × Nat
/-- where the world begins and where the model's part of it does, the heap below it, class ids, slots, array class ids, what else is known -/
abbrev Gm : Type := (Nat × Nat) × Heap × (Nat → ClassId) × (Nat → Nat → Nat) × (Nat → ClassId) × (State → Prop)
/-- types (0: by Ev), lengths, references that never change -/
abbrev Sh : Type := (Nat → Nat) × (Nat → Nat) × (Nat → Nat → Option Nat)
abbrev Mt : Type := MethodName × ByteArray × Nat × Option FieldType
abbrev Go : Type := Nat → Lv → List Value → Iv → Ev → Uv → Prop
abbrev Kr : Type := Option Value → Iv → Ev → Prop
abbrev Kxx : Type := String → Iv → Ev → Prop
def ad (B : Nat × Nat) (i : Nat) : Nat := if i < 500000 then B.1 + i else if i < 1000000 then B.2 + (i - 500000) else i - 1000000
def rv (B : Nat × Nat) : Value → Value
  | .ref i => .ref (ad B i)
  | v => v
def isRt : FieldType → Bool
  | .object _ => true
  | .array _ => true
  | _ => false
/-- is the place j of a cell of type code t a reference -/
def rfs (t j : Nat) : Bool :=
  match t with
  | 1 => isRt (hY0 j) | 2 => isRt (hY1 j) | 3 => isRt (hY2 j) | 4 => isRt (hY3 j) | 5 => isRt (hY4 j) | 6 => isRt (hY5 j)
  | 7 => isRt (hY6 j) | 8 => isRt (hY7 j) | 9 => isRt (hY8 j) | 10 => isRt (hY9 j) | 11 => isRt (hY10 j) | 12 => isRt (hY11 j)
  | 105 => true | 106 => true | 107 => true
  | _ => false
def fta (t : Nat) : FieldType :=
  match t with
  | 101 => .int | 102 => .byte | 103 => .boolean | 104 => .long | 105 => .object "HerbWaters$Days" | 106 => .object "HerbWaters$Opinion" | _ => .array .int
def tyc (sh : Sh) (E : Ev) (i : Nat) : Nat := if sh.1 i = 0 then E.2.1 i else sh.1 i
def len (sh : Sh) (E : Ev) (i : Nat) : Nat := if sh.1 i = 0 then E.2.2 i else sh.2.1 i
def rid : Nat → Value
  | 0 => .null
  | b + 1 => .ref b
/-- the reference at place j of i, by ids -/
def rget (sh : Sh) (E : Ev) (i j : Nat) : Value := match sh.2.2 i j with
  | some b => .ref b
  | none => rid (E.1 i j)
def vl (B : Nat × Nat) (sh : Sh) (I : Iv) (E : Ev) (i j : Nat) : Value :=
  if rfs (tyc sh E i) j = true then rv B (rget sh E i j) else if tyc sh E i = 104 then .long (I i j).toInt64 else .int (I i j)
def ck (Γ : Gm) (sh : Sh) (I : Iv) (E : Ev) (i : Nat) (H : Heap) : Prop :=
  if tyc sh E i < 100 then ∃ r : vw_C, hcl[tyc sh E i - 1]? = some r ∧ t_OB (ad Γ.1 i) (Γ.2.2.1 (tyc sh E i - 1)) r.2.2 (Γ.2.2.2.1 (tyc sh E i - 1)) H (vl Γ.1 sh I E i)
  else len sh E i < 2147483648 ∧ H[ad Γ.1 i]? = some (arrV (Γ.2.2.2.2.1 (tyc sh E i)) (len sh E i) (vl Γ.1 sh I E i))
/-- what stays: below the world, and one cell more, where Γ names it -/
def low (Γ : Gm) (q : Nat) : Prop := q < Γ.1.1 ∨ (q + 1 = Γ.2.2.2.1 99 0 ∧ q < Γ.2.1.size)
/-- the heap holds (I, E); at the place 999999 of the lengths stands the heap's size and 1, or 0 where it isn't told -/
def Wd (Γ : Gm) (sh : Sh) (I : Iv) (E : Ev) (H : Heap) : Prop :=
  (Γ.1.1 ≤ H.size ∧ tyc sh E 999999 = 0 ∧ (E.2.2 999999 = 0 ∨ E.2.2 999999 = H.size + 1)) ∧ (∀ q, low Γ q → H[q]? = Γ.2.1[q]? ∧ ∀ i, tyc sh E i ≠ 0 → ad Γ.1 i ≠ q) ∧ (∀ i j, tyc sh E i ≠ 0 → tyc sh E j ≠ 0 → ad Γ.1 i = ad Γ.1 j → i = j) ∧ ∀ i, tyc sh E i ≠ 0 → Γ.1.1 ≤ ad Γ.1 i ∧ ck Γ sh I E i H
abbrev tysG (Γ : Gm) : List (ClassId × FieldType) := [(Γ.2.2.2.2.1 101, .int), (Γ.2.2.2.2.1 102, .byte), (Γ.2.2.2.2.1 103, .boolean), (Γ.2.2.2.2.1 104, .long), (Γ.2.2.2.2.1 105, .object "HerbWaters$Days"), (Γ.2.2.2.2.1 106, .object "HerbWaters$Opinion"), (Γ.2.2.2.2.1 107, .array .int)]
def isNest : Cond → Bool
  | .fieldLinkNest .. => true
  | .methodLinkNest .. => true
  | .stringRef .. => true
  | .castable .. => true
  | _ => false
def ntb : List Cond := lw_tbl.filter isNest
def Kn (Γ : Gm) (U : State) : Prop := va_K (Γ.2.2.1, Γ.2.2.2.1) hcl (tysG Γ) U ∧ (∀ U' : State, U.vm.Alike U'.vm → (∀ q, q < Γ.1.1 → U'.heap[q]? = Γ.2.1[q]?) → Γ.2.2.2.2.2 U') ∧ ∀ w ∈ ntb, va_Nw w U
theorem sr_same {own tx : String} {k : Nat} {u U : State} (hv : u.vm = U.vm) (h : va_Nw (.stringRef own k tx) u) : va_Nw (.stringRef own k tx) U := by
  unfold va_Nw at h ⊢
  first
    | exact va_tabs rfl hv h
    | (simp only [Cond.before, Cond.holds, Cond.value, State.names, State.poolOf?, State.resolvedAt?, hv] at h ⊢; exact h)
theorem sr_warm {own tx : String} {k : Nat} {s U : State} (hW : s.WarmedH U.vm) (h : va_Nw (.stringRef own k tx) s) : va_Nw (.stringRef own k tx) U :=
  sr_same (u := s.setVm U.vm) rfl (Cond.stringRef_warmed (args := #[]) hW h)
theorem Kn.same {Γ : Gm} {u U : State} (hvm : u.vm = U.vm) (h : Kn Γ u) : Kn Γ U := by
  have ha : u.vm.Alike U.vm := hvm ▸ Vm.Alike.refl u.vm
  refine ⟨va_K.moved ha h.1, fun U' h1 h2 => h.2.1 U' (ha.trans h1) h2, fun w hw => ?_⟩
  have hn := (List.mem_filter.mp hw).2
  have hz := h.2.2 w hw
  cases w <;> first | (cases hn; done) | exact va_Nw.same rfl hvm hz | exact sr_same hvm hz
theorem Kn.warm {Γ : Gm} {u U : State} (hW : u.WarmedH U.vm) (h : Kn Γ u) : Kn Γ U := by
  refine ⟨va_K.moved hW.alike h.1, fun U' h1 h2 => h.2.1 U' (hW.alike.trans h1) h2, fun w hw => ?_⟩
  have hn := (List.mem_filter.mp hw).2
  have hz := h.2.2 w hw
  cases w <;> first | (cases hn; done) | exact va_Nw.warmF hW hz | exact va_Nw.warmM hW hz | exact va_Nw.warmC hW hz | exact sr_warm hW hz
def rmd (d : Nat) (M : Uv) : Room := { frames := d, cells := M.1, slots := M.2, locals := 80 * d }
abbrev ExP (Γ : Gm) (sh : Sh) (av : List Value) (I : Iv) (E : Ev) : Array Value → State → Prop := fun a U => a = (av.map (rv Γ.1)).toArray ∧ Wd Γ sh I E U.heap ∧ Kn Γ U
abbrev ExQ (Γ : Gm) (sh : Sh) (kr : Kr) : Array Value → State → Outcome → State → Prop := fun _ _ o t => ∃ (r : Option Value) (I' : Iv) (E' : Ev), o = .returned (r.map (rv Γ.1)) ∧ Wd Γ sh I' E' t.heap ∧ kr r I' E'
abbrev ExX (Γ : Gm) (sh : Sh) (kx : Kxx) : String → State → State → Prop := fun C _ t => ∃ (I' : Iv) (E' : Ev), Wd Γ sh I' E' t.heap ∧ kx C I' E'
/-- the method mt, called with av in the world (I, E), ends: kr, or throws: kx -/
def Ex (Γ : Gm) (l : Launch) (sh : Sh) (d : Nat) (M : Uv) (mt : Mt) (av : List Value) (I : Iv) (E : Ev) (kr : Kr) (kx : Kxx) : Prop :=
  vx_Met l mt.1 (Cond.code mt.1 mt.2.1 mt.2.2.1 mt.2.2.2 :: gtb) (rmd d M) (ExP Γ sh av I E) (ExQ Γ sh kr) (ExX Γ sh kx) M.1 M.2 (fun q => Γ.1.1 ≤ q)
theorem ex_blind {Γ : Gm} {sh : Sh} {av : List Value} {I : Iv} {E : Ev} : FrameBlind (ExP Γ sh av I E) := by
  intro a U g mk ⟨h1, h2, h3⟩
  exact ⟨h1, h2, Kn.same (u := U) (U := U.calling g mk a) rfl h3⟩
/-- the context of a block's words: go, ends, the world's names, the launch, shapes, the depth that callees have, the room, the answer's type -/
abbrev Kt : Type := Go × Kr × Kxx × Gm × Launch × Sh × Nat × Uv × Option FieldType
abbrev Sem : Type := Kt → Lv → List Value → Iv → Ev → Uv → (Lv → List Value → Iv → Ev → Uv → Prop) → Prop
abbrev Ir : Type := Sem × (Instr × Nat) × (Nat → Bool)
def Lok (B : Nat × Nat) (nL : Nat) (ls : Lv) (la : Array Slot) : Prop := ls.length = nL ∧ la.size = nL ∧ lv_wf la ∧ ∀ (i : Nat) (v : Value), ls[i]? = some (some v) → la[i]? = some (.val (rv B v))
def bx (κ : Kt) : List Ir → Nat → Lv → List Value → Iv → Ev → Uv → Prop
  | [], nx => κ.1 nx
  | ir :: is, nx => fun ls st I E u => ir.1 κ ls st I E u (bx κ is nx)
theorem bx_nil {κ : Kt} {nx : Nat} {ls : Lv} {st : List Value} {I : Iv} {E : Ev} {u : Uv} : bx κ [] nx ls st I E u = κ.1 nx ls st I E u := rfl
theorem bx_cons {κ : Kt} {ir : Ir} {is : List Ir} {nx : Nat} {ls : Lv} {st : List Value} {I : Iv} {E : Ev} {u : Uv} : bx κ (ir :: is) nx ls st I E u = ir.1 κ ls st I E u (bx κ is nx) := rfl
def decB (cc : ByteArray) (nx : Nat) : Nat → List Ir → Bool
  | pc, [] => pc == nx
  | pc, ir :: is => decide (decode cc pc = .ok ir.2.1) && (ir.2.2 pc && decB cc nx (pc + ir.2.1.2) is)
section EngA
variable (p : Program) (l : Launch) (e : Env) (s : State) (m : MethodId) (args : Array Value) (below : List Frame) (meth : Method) (c : Code)
/-- what holds in a method's body -/
def Cx (own : String) (Γ : Gm) (nL : Nat) (cc : ByteArray) (ret : Option FieldType) : Prop :=
  p.tables.exec = Jvm.exec ∧ c.code = cc ∧ c.maxLocals = nL ∧ s.vm.findClass own = some m.cls ∧ (∀ w ∈ gtb, w.before args s = true) ∧ Kn Γ s ∧ meth.sig.returnType = ret ∧ meth.locks = false ∧ (∀ x ∈ c.exceptionTable.toList, False) ∧ s.heap.size = s.heap.size
def Zj (Γ : Gm) (sh : Sh) (d : Nat) (M : Uv) (nL : Nat) (kr : Kr) (kx : Kxx) : Go := fun pc ls st I E u =>
  ∀ (H : Heap) (locs : List Loc) (la : Array Slot), Wd Γ sh I E H → (∀ q ∈ locs, Γ.1.1 ≤ q.base) → Lok Γ.1 nL ls la → u.1 ≤ M.1 → u.2 ≤ M.2 →
    W p l e (rmd (d + 1) M) s m args below meth c H locs u.1 u.2 (vx_MQ below (ExQ Γ sh kr) (ExX Γ sh kx) args s M.1 M.2 (fun q => Γ.1.1 ≤ q)) (F0 m pc la (st.map (rv Γ.1)))
end EngA
/-- the word ir does what it says, in every body of the class own -/
def Snd (own : String) (ir : Ir) : Prop :=
  ∀ (p : Program) (l : Launch) (e : Env) (s : State) (m : MethodId) (args : Array Value) (below : List Frame) (meth : Method) (c : Code) (Γ : Gm) (sh : Sh) (d : Nat) (M : Uv) (nL : Nat) (cc : ByteArray) (ret : Option FieldType) (go : Go) (kr : Kr) (kx : Kxx)
    (pc : Nat) (ls : Lv) (st : List Value) (I : Iv) (E : Ev) (u : Uv) (k : Lv → List Value → Iv → Ev → Uv → Prop),
    Cx p s m args meth c own Γ nL cc ret → (∀ pc ls st I E u, go pc ls st I E u → Zj p l e s m args below meth c Γ sh d M nL kr kx pc ls st I E u) →
    decode cc pc = .ok ir.2.1 → ir.2.2 pc = true → ir.1 (go, kr, kx, Γ, l, sh, d, M, ret) ls st I E u k →
    (∀ ls st I E u, k ls st I E u → Zj p l e s m args below meth c Γ sh d M nL kr kx (pc + ir.2.1.2) ls st I E u) →
    Zj p l e s m args below meth c Γ sh d M nL kr kx pc ls st I E u
theorem bx_sound {p : Program} {l : Launch} {e : Env} {s : State} {m : MethodId} {args : Array Value} {below : List Frame} {meth : Method} {c : Code} {own : String} {Γ : Gm} {sh : Sh} {d : Nat} {M : Uv} {nL : Nat} {cc : ByteArray} {ret : Option FieldType} {go : Go} {kr : Kr} {kx : Kxx}
    (hC : Cx p s m args meth c own Γ nL cc ret) (hgo : ∀ pc ls st I E u, go pc ls st I E u → Zj p l e s m args below meth c Γ sh d M nL kr kx pc ls st I E u) {nx : Nat} :
    ∀ (is : List Ir) (pc : Nat) (ls : Lv) (st : List Value) (I : Iv) (E : Ev) (u : Uv), decB cc nx pc is = true → (∀ ir ∈ is, Snd own ir) → bx (go, kr, kx, Γ, l, sh, d, M, ret) is nx ls st I E u → Zj p l e s m args below meth c Γ sh d M nL kr kx pc ls st I E u := by
  intro is
  induction is with
  | nil =>
    intro pc ls st I E u hd _ h
    have h1 : pc = nx := by simpa [decB] using hd
    subst h1
    exact hgo _ _ _ _ _ _ h
  | cons ir is ih =>
    intro pc ls st I E u hd hs h
    simp only [decB, Bool.and_eq_true, decide_eq_true_eq] at hd
    exact hs ir List.mem_cons_self p l e s m args below meth c Γ sh d M nL cc ret go kr kx pc ls st I E u _ hC hgo hd.1 hd.2.1 h
      (fun ls st I E u hk => ih (pc + ir.2.1.2) ls st I E u hd.2.2 (fun x hx => hs x (List.mem_cons_of_mem _ hx)) hk)
abbrev Tb : Type := List (Nat × List Ir × Nat)
def tbf : Tb → Nat → Option (List Ir × Nat)
  | [], _ => none
  | q :: t, pc => if q.1 = pc then some q.2 else tbf t pc
def run (tb : Tb) (κ : Kt) (ct : List Nat) : Nat → Go
  | 0 => κ.1
  | n + 1 => fun pc ls st I E u => if pc ∈ ct then κ.1 pc ls st I E u else match tbf tb pc with
    | some b => bx (run tb κ ct n, κ.2) b.1 b.2 ls st I E u
    | none => κ.1 pc ls st I E u
def Bok (own : String) (cc : ByteArray) (q : Nat × List Ir × Nat) : Prop := decB cc q.2.2 q.1 q.2.1 = true ∧ ∀ ir ∈ q.2.1, Snd own ir
theorem tbf_ok {own : String} {cc : ByteArray} : ∀ {tb : Tb}, (∀ q ∈ tb, Bok own cc q) → ∀ {pc : Nat} {b : List Ir × Nat}, tbf tb pc = some b → Bok own cc (pc, b)
  | [], _, _, _, h => by simp [tbf] at h
  | q :: t, hb, pc, b, h => by
    simp only [tbf] at h
    split at h
    · rename_i h1
      subst h1
      cases h
      exact hb q List.mem_cons_self
    · exact tbf_ok (fun x hx => hb x (List.mem_cons_of_mem _ hx)) h
theorem run_sound {p : Program} {l : Launch} {e : Env} {s : State} {m : MethodId} {args : Array Value} {below : List Frame} {meth : Method} {c : Code} {own : String} {Γ : Gm} {sh : Sh} {d : Nat} {M : Uv} {nL : Nat} {cc : ByteArray} {ret : Option FieldType} {go : Go} {kr : Kr} {kx : Kxx} {tb : Tb}
    (hC : Cx p s m args meth c own Γ nL cc ret) (hT : ∀ q ∈ tb, Bok own cc q) (hgo : ∀ pc ls st I E u, go pc ls st I E u → Zj p l e s m args below meth c Γ sh d M nL kr kx pc ls st I E u) (ct : List Nat) :
    ∀ (n pc : Nat) (ls : Lv) (st : List Value) (I : Iv) (E : Ev) (u : Uv), run tb (go, kr, kx, Γ, l, sh, d, M, ret) ct n pc ls st I E u → Zj p l e s m args below meth c Γ sh d M nL kr kx pc ls st I E u := by
  intro n
  induction n with
  | zero => intro pc ls st I E u h; exact hgo _ _ _ _ _ _ h
  | succ n ih =>
    intro pc ls st I E u h
    simp only [run] at h
    split at h
    · exact hgo _ _ _ _ _ _ h
    · split at h
      · rename_i b hb
        obtain ⟨h1, h2⟩ := tbf_ok hT hb
        exact bx_sound hC ih b.1 pc ls st I E u h1 h2 h
      · exact hgo _ _ _ _ _ _ h
theorem sl_of {B : Nat × Nat} : ∀ {av : List Value}, (∀ v ∈ av, v.category = 1) → lg_sl (av.map (rv B)) = (av.map (rv B)).map Slot.val
  | [], _ => rfl
  | v :: vs, hcat => by
    have hv : (rv B v).category = 1 := by
      have := hcat v List.mem_cons_self
      cases v <;> simpa [rv, Value.category] using this
    have := sl_of (B := B) (fun v hv => hcat v (List.mem_cons_of_mem _ hv))
    simp only [lg_sl, List.map_cons, List.flatMap_cons] at this ⊢
    rw [this]
    simp [hv]
/-- a method's contract out of its blocks: 'go' is what remains to be done at a place -/
theorem ex_of {Γ : Gm} {l : Launch} {sh : Sh} {d : Nat} {M : Uv} {mt : Mt} {av : List Value} {I : Iv} {E : Ev} {kr : Kr} {kx : Kxx} (tb : Tb) (hy : plainName mt.1.cls = true) (hT : ∀ q ∈ tb, Bok mt.1.cls mt.2.1 q)
    (hav : (av.all fun v => decide (v.category = 1)) = true) (hn : av.length ≤ mt.2.2.1) {ls0 : Lv} (hls : av.map some ++ List.replicate (mt.2.2.1 - av.length) none = ls0)
    (body : ∀ go : Go, (∀ (n : Nat) (ct : List Nat) (pc : Nat) (ls : Lv) (st : List Value) (I : Iv) (E : Ev) (u : Uv), (match tbf tb pc with
        | some b => bx (run tb (go, kr, kx, Γ, l, sh, d, M, mt.2.2.2) ct n, kr, kx, Γ, l, sh, d, M, mt.2.2.2) b.1 b.2 ls st I E u
        | none => False) → go pc ls st I E u) → go 0 ls0 [] I E (0, 0)) : Ex Γ l sh (d + 1) M mt av I E kr kx := by
  refine vx_ofW (cc := mt.2.1) (maxL := mt.2.2.1) (ret := mt.2.2.2) hy rfl ?_
  intro p e s m args below meth c s₁ B hml hex hv
  obtain ⟨rfl, hW, hK⟩ := hv
  have hts := atoms_spec (ws := Cond.code mt.1 mt.2.1 mt.2.2.1 mt.2.2.2 :: gtb) B.pre
  have hC : Cx p s m (av.map (rv Γ.1)).toArray meth c mt.1.cls Γ mt.2.2.1 mt.2.1 mt.2.2.2 := ⟨B.exec, B.bytes, hml, findClass_of_methodNamed B.named, fun w hw => hts w (List.mem_cons_of_mem _ hw), hK, B.returns, B.notSynchronized, hex, rfl⟩
  have key := body (Zj p l e s m (av.map (rv Γ.1)).toArray below meth c Γ sh d M mt.2.2.1 kr kx) (fun n ct pc ls st I E u h => by
    split at h
    · rename_i b hb
      obtain ⟨h1, h2⟩ := tbf_ok hT hb
      exact bx_sound hC (run_sound hC hT (fun _ _ _ _ _ _ h => h) ct n) b.1 pc ls st I E u h1 h2 h
    · exact h.elim)
  have hcat : ∀ v ∈ av, v.category = 1 := fun v hv => by simpa using List.all_eq_true.mp hav v hv
  have hsl := sl_of (B := Γ.1) hcat
  have hlen : (lg_sl (av.map (rv Γ.1))).length ≤ mt.2.2.1 := by rw [hsl]; simpa using hn
  have hl := lv_entry (av.map (rv Γ.1)) (n := mt.2.2.1) hlen
  rw [lg_entry_eq]
  have hlok : Lok Γ.1 mt.2.2.1 ls0 (lg_sl (av.map (rv Γ.1)) ++ List.replicate (mt.2.2.1 - (lg_sl (av.map (rv Γ.1))).length) Slot.unset).toArray := by
    refine ⟨by rw [← hls]; simp; omega, hl.1, hl.2.1, fun i v hi => ?_⟩
    rw [← hls] at hi
    have hi' : i < av.length := by
      by_cases h : i < av.length
      · exact h
      · rw [List.getElem?_append_right (by simpa using h)] at hi
        simp [List.getElem?_replicate] at hi
    rw [List.getElem?_append_left (by simpa using hi')] at hi
    simp only [List.getElem?_map] at hi
    rw [hsl]
    simp only [List.getElem?_toArray]
    rw [List.getElem?_append_left (by simpa using hi')]
    simp only [List.getElem?_map]
    cases hx : av[i]? with
    | none => rw [hx] at hi; simp at hi
    | some w =>
      rw [hx] at hi
      simp only [Option.map_some, Option.some.injEq] at hi
      subst hi
      rfl
  exact key s.heap [] _ hW (fun q h => by cases h) hlok (Nat.zero_le _) (Nat.zero_le _)
