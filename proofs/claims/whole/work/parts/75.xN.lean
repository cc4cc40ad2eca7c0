/-! contracts of the class, 6: refusals -/
section CtorX
variable {p : Program} {l : Launch} {e : Env} {R : Room} {s : State} {m₀ : MethodId} {args : Array Value} {below : List Frame} {meth : Method} {c : Code} {W : State} {locs : List Loc} {cells slots : Nat}
set_option maxHeartbeats 4000000 in
/-- a constructor with a text, whose own link to its super is ix, and then the throw (no stack traces); by the library's laws of the chain, of the message and of athrow -/
theorem ctorX (X : Stand p l e R s m₀ args below meth c W locs cells slots) (hexec : p.tables.exec = Jvm.exec) (htr : e.platform.stackTraces = false) {own cls : String} {names : List String} {ic ix : Nat} {rx : ByteArray}
    (x0 : decode rx 0 = .ok (.aload_n 0, 1)) (x1 : decode rx 1 = .ok (.aload_n 1, 1)) (x2 : decode rx 2 = .ok (.invokespecial ix, 3)) (x5 : decode rx 5 = .ok (.return_, 1))
    (hown : s.vm.findClass own = some m₀.cls) (hcls : Bundle.fit cls = true) (hnames : ∀ n ∈ names, Bundle.fit n = true)
    (h : ∀ a ∈ Bundle.ownAtomsX own ic cls ix rx names, a.before args s = true)
    (hlocs : ∀ x ∈ locs, ∀ cell, s.heap[x.base]? = some cell → cell.vm.isStatics = false)
    {a : Addr} {cX : ClassId} {kX : Class} (hfoundX : s.vm.findClass cls = some cX) (hkX : s.vm.classes[cX]? = some kX) (hcell : W.heap[a]? = some (freshCell cX kX)) (hnew : s.heap.size ≤ a)
    {msg : Value} (hmsg : msg.isRef = true)
    {g : JFrame} (hg : g.method = m₀) (hsize : g.locals.size = c.maxLocals) (hlocked : g.locked = none) (hentered : g.entered = []) {rest : List Value} (hstack : g.stack = msg :: .ref a :: .ref a :: rest)
    (hd6 : decode c.code g.pc = .ok (.invokespecial ic, 3)) (hd9 : decode c.code (g.pc + 3) = .ok (.athrow, 1)) (hout : ∀ x ∈ c.exceptionTable.toList, covers x (g.pc + 3) = false)
    (hRframes : names.length + 3 < R.frames) (hRlocals : 2 * g.monitorRoom + ((Value.ref a :: rest).map fun v => v.category).sum + (13 * (names.length + 1) + 42) ≤ R.locals) (hlocks : meth.locks = false) :
    ∃ U : State, Steps p.tables e below (W.setTop g) U ∧ U.status = .running ∧ Ended U below (.threw a) ∧ s.WarmedH U.vm ∧ s.sameButNew ({ U with vm := s.vm } : State) locs cells slots ∧
      ∃ ce, U.heap[a]? = some ce ∧ ce.vm = .none ∧ s.vm.findClass cls = some ce.cls := by
  have howns : e.platform.frameOwnsMonitors = true := by rw [X.admits.platform]
  have hfin : e.platform.finalization = false := by rw [X.admits.platform]
  have hpl : e.platform.magicAccessors = ({} : Platform).magicAccessors := by rw [X.admits.platform]
  have w1 : ∀ x ∈ Bundle.throwableAtoms, x.before args s = true := fun x hx => h x (by simp [Bundle.ownAtomsX, hx])
  have w2 : ∀ x ∈ Bundle.throwableSAtoms, x.before args s = true := fun x hx => h x (by simp [Bundle.ownAtomsX, hx])
  have w3 : ∀ x ∈ Bundle.chainSAtomsX cls ix rx names, x.before args s = true := fun x hx => h x (by simp [Bundle.ownAtomsX, hx])
  have lay : ∀ n d, Cond.lays cls Bundle.tN n d ∈ Bundle.ownAtomsX own ic cls ix rx names → (Cond.lays cls Bundle.tN n d).before args s = true := fun n d hx => h _ hx
  obtain ⟨T, Z0, L, -, Y⟩ := ThrowableC.of_atoms (args := args) howns hfin hpl w1
  obtain ⟨Z, M, LZ, LM, hnZ⟩ := Init0T.ofS_atoms (args := args) hpl L Y w2
  obtain ⟨P1, Ps, hlen, L1, hL, hP1m, hlink1, hlink⟩ := Bundle.chainSX (args := args) hpl hnZ x0 x1 x2 x5 names cls hcls hnames w3
  have hfound : s.vm.findClass cls = some P1.m.cls := findClass_of_methodNamed hP1m
  cases Option.some.inj (hfoundX.symm.trans hfound)
  have wi : (Cond.instantiable cls 6).before args s = true := h _ (by simp [Bundle.ownAtomsX])
  obtain ⟨c1, kX', hc1, hk, hord, -, -, hn6⟩ := Cond.instantiable_spec wi
  cases Option.some.inj (hc1.symm.trans hfound)
  cases Option.some.inj (hkX.symm.trans hk)
  have sel : ∀ (t : MethodName) (mm : MethodId), (Cond.selects cls t t).before args s = true → s.methodNamed? t = some mm → s.methodFound? t.cls t.name t.desc = some mm → selectMethod e.platform s.vm P1.m.cls mm = .method mm := by
    intro t mm hs hn hf
    obtain ⟨c2, r2, m2, q1, q2, q3, q4, -⟩ := Cond.selects_spec hs
    cases Option.some.inj (q1.symm.trans hfound)
    cases Option.some.inj (q2.symm.trans hf)
    cases Option.some.inj (q3.symm.trans hn)
    rw [Launch.admits_selectMethod X.admits]; exact q4
  have ws0 : (Cond.selects cls Bundle.tFill0 Bundle.tFill0).before args s = true := h _ (by simp [Bundle.ownAtomsX])
  have wsF : (Cond.selects cls Bundle.tFill Bundle.tFill).before args s = true := h _ (by simp [Bundle.ownAtomsX])
  have hsel0 := sel _ _ ws0 Y.fill0 (State.methodFound?_of_named Y.fill0 (by decide))
  have hselF := sel _ _ wsF Y.fill (State.methodFound?_of_named Y.fill (by decide))
  obtain ⟨cellS0, hcS0, hiss⟩ := Y.statics
  have wU : (Cond.isRef (.static Bundle.tN "UNASSIGNED_STACK" Bundle.steD)).before args s = true := h _ (by simp [Bundle.ownAtomsX])
  have wN : (Cond.isRef (.static Bundle.tN "SUPPRESSED_SENTINEL" Bundle.listD)).before args s = true := h _ (by simp [Bundle.ownAtomsX])
  obtain ⟨u0, hu0⟩ := Cond.staticRefV Y.unassigned L.unassignedStatic L.statics hcS0 hiss wU
  obtain ⟨sen, hsen⟩ := Cond.staticRefV Y.sentinel L.sentinelStatic L.statics hcS0 hiss wN
  have wb1 : (Cond.fieldLink Bundle.tN 198 Bundle.tN "backtrace" "Ljava/lang/Object;").before args s = true := h _ (by simp [Bundle.ownAtomsX])
  have wb2 : (Cond.lays Bundle.tN Bundle.tN "backtrace" "Ljava/lang/Object;").before args s = true := h _ (by simp [Bundle.ownAtomsX])
  obtain ⟨ci198, i198, fB, hk198, hg198, ha198, hsB, -, hnB, htB, hffB⟩ := Cond.ownField (t := .object "java/lang/Object") Y.found L.cls (by decide +kernel) wb1 wb2 e.platform hpl
  obtain ⟨cellS, hcS', heS, -, hkeep⟩ := X.same.2.2.2.2.2 T.aS cellS0 hcS0
  have hcellS : W.heap[T.aS]? = some cellS := hcS'
  have hout' : ∀ i, (⟨T.aS, i⟩ : Loc) ∉ locs := fun i hmem => by
    have := hlocs _ hmem cellS0 hcS0
    rw [hiss] at this; cases this
  have hknownS : cellS.vm ≠ .unknown := by
    rw [heS]; intro hu
    rw [show cellS0.vm = .unknown from hu] at hiss
    cases hiss
  have hneS : T.aS ≠ a := Nat.ne_of_lt (Nat.lt_of_lt_of_le (Array.getElem?_eq_some_iff.mp hcS0).1 hnew)
  obtain ⟨iM, hffM⟩ := Y.msg
  obtain ⟨tyC, dC, hdC, hdnC⟩ := Cond.laysAt hfound hk Y.cause (lay _ _ (by simp [Bundle.ownAtomsX]))
  obtain ⟨tyS, dS, hdS, hdnS⟩ := Cond.laysAt hfound hk Y.stack (lay _ _ (by simp [Bundle.ownAtomsX]))
  obtain ⟨tyP, dP, hdP, hdnP⟩ := Cond.laysAt hfound hk Y.supp (lay _ _ (by simp [Bundle.ownAtomsX]))
  obtain ⟨tyM, dM, hdM, hdnM⟩ := Cond.laysAt hfound hk hffM (lay _ _ (by simp [Bundle.ownAtomsX]))
  obtain ⟨tyB, dB, hdB, hdnB⟩ := Cond.laysAt hfound hk hffB (lay _ _ (by simp [Bundle.ownAtomsX]))
  have bC := Cond.laysApart hdB hdC hdnB hdnC (by rw [hnB, Y.causeName]; decide)
  have bS := Cond.laysApart hdB hdS hdnB hdnS (by rw [hnB, Y.stackName]; decide)
  have bP := Cond.laysApart hdB hdP hdnB hdnP (by rw [hnB, Y.suppName]; decide)
  have hskip : SkipFacts T e.platform s (fun u => u) u0 ((preparedCellV T.toThrowableT (freshCell P1.m.cls kX) a u0 sen).withEntry W.cur) :=
    ⟨{ ci198 := ci198, i198 := i198, fBack := fB }, ⟨hk198, hg198, ha198, hsB⟩, by
      have := fresh_default (c := P1.m.cls) tyB
      rw [htB] at this
      simpa [preparedCellV, Cell.setSlot, Cell.withEntry, Array.getElem?_setIfInBounds, bC, bS, bP, bC.symm, bS.symm, bP.symm, defaultValue] using this, fun _ _ => rfl⟩
  have wl : (Cond.methodLink own ic (Bundle.initS cls)).before args s = true := h _ (by simp [Bundle.ownAtomsX])
  have wm : (Cond.instanceMethod (Bundle.initS cls)).before args s = true := w3 _ (by cases names <;> simp [Bundle.chainSAtomsX, Bundle.passSAtoms])
  have wc : (Cond.code (Bundle.initS cls) rx 2 none).before args s = true := w3 _ (by cases names <;> simp [Bundle.chainSAtomsX, Bundle.passSAtoms])
  obtain ⟨tm, methC, cdC, kC, vm₁, hnC, -, -, -, -, -, -, -, hW₁, st1⟩ := Steps.initColdS (tb := p.tables) (e := e) (below := below) (s := s) (U := W) X.here hexec X.warmed hpl hown (t := Bundle.initS cls) rfl rfl (Bundle.fit_spec hcls).2 wl wm (bytes := rx) (maxL := 2) wc
    (f := g) hg (a := a) (msg := msg) (rest := .ref a :: rest) hstack hd6
  cases Option.some.inj (hnC.symm.trans hP1m)
  have X₁ := X.noted hW₁
  obtain ⟨vm₂, X₂, st2⟩ := X₁.ctorMessageOffV hexec (g := { g with stack := .ref a :: rest }) hg hsize T L Z LZ M LM (P1 :: Ps)
    (fun P hP => by rcases List.mem_cons.mp hP with rfl | hP; exact L1; exact hL P hP) ⟨hlink1, hlink⟩ (u0 := u0) (sen := sen) (self := a) hmsg (cell := freshCell P1.m.cls kX) (cellS := cellS)
    hcell (fun _ => by simp) (by simp) rfl rfl hsel0 hselF hcellS hneS hknownS (by rw [hkeep _ (hout' _)]; exact hu0) (by rw [hkeep _ (hout' _)]; exact hsen)
    (Takes.of_laid hk hord tyC (by rw [Y.causeType]; rfl)) (Takes.of_laid hk hord tyS (by rw [Y.stackType]; exact fits_refV_array _ u0)) (Takes.of_laid hk hord tyP (by rw [Y.suppType]; exact fits_refV_object _ sen))
    (Takes.of_laid hk hord tyM (by rw [Y.msgType]; exact fits_refV_object _ ⟨msg, hmsg⟩)) Y.objLocals hskip htr [] hd6
    (by simp only [List.length_cons, hlen]; omega) (by simp only [List.length_cons, hlen]; exact hRlocals)
  obtain ⟨hwalk, hrun, hended, hWU, hsame⟩ := X₂.athrowLeaves hexec (g := { g with stack := .ref a :: rest, pc := g.pc + 3 }) hg hlocked hentered hout (a := a) (rest := rest) rfl hd9 hlocks
  have hlt : a < ((W.setVm vm₁).setVm vm₂).heap.size := (Array.getElem?_eq_some_iff.mp hcell).1
  have hU := heapAt_setCell_self (s := (W.setVm vm₁).setVm vm₂) (plainBareV T.toThrowableT (freshCell P1.m.cls kX) a u0 sen msg) hlt
  refine ⟨_, st1 _ (fun acts => ?_), hrun, hended, hWU, hsame.weaken (fun y hy hlt' => ?_) (Nat.le_refl _) (Nat.le_refl _), _, hU, rfl, hfound⟩
  · rw [doInvoke_state]
    exact st2 _ hwalk
  · rcases List.mem_append.mp hy with h1 | h1
    · exact h1
    · exfalso
      have hb : y.base = a := by
        simp only [List.mem_cons, List.not_mem_nil, or_false] at h1
        rcases h1 with rfl | rfl | rfl | rfl | rfl <;> rfl
      rw [hb] at hlt'
      exact Nat.not_lt.mpr hnew hlt'
end CtorX
def vx_atSX (own : String) (ic : Nat) (X : String) (ix : Nat) (rx : ByteArray) (names : List String) : List Cond := (Bundle.ownAtomsX own ic X ix rx names).filter vx_no
section ThrowX
variable {p : Program} {l : Launch} {e : Env} {R : Room} {s : State} {m : MethodId} {args : Array Value} {below : List Frame} {meth : Method} {c : Code} {H : Heap} {locs : List Loc} {cells slots : Nat} {Qc : Array Value → State → Outcome → State → Prop} {XC : String → State → State → Prop} {free : Addr → Prop} {ls : Array Slot}
/-- as vx_throwSW, the super's link ix -/
theorem throwX {cc : ByteArray} {pc : Nat} (hexec : p.tables.exec = Jvm.exec) (hb : c.code = cc) (hl : l.stackTraces = false) {own cls text : String} {names : List String} {ik is ic ix mc ms sa : Nat} {rx : ByteArray} {A : Nat → Prop}
    (x0 : decode rx 0 = .ok (.aload_n 0, 1)) (x1 : decode rx 1 = .ok (.aload_n 1, 1)) (x2 : decode rx 2 = .ok (.invokespecial ix, 3)) (x5 : decode rx 5 = .ok (.return_, 1))
    (hown : s.vm.findClass own = some m.cls) (hcls : Bundle.fit cls = true) (hnames : ∀ n ∈ names, Bundle.fit n = true)
    (hk : (Cond.classLink own ik cls).before args s = true) (hini : (Cond.initialized cls).before args s = true) (hstr : vk_R own is text sa s) (hat : ∀ w ∈ vx_atSX own ic cls ix rx names, w.before args s = true)
    (hgood : ∀ w ∈ Cond.classLink own ik cls :: Cond.initialized cls :: vx_atSX own ic cls ix rx names, vx_ot w = true)
    (hU : vx_Zq Bundle.tN "UNASSIGNED_STACK" Bundle.steD A s s.heap) (hN : vx_Zq Bundle.tN "SUPPRESSED_SENTINEL" Bundle.listD A s s.heap) (hS : va_S A s.heap H locs) (hsize : ls.size = c.maxLocals)
    (d0 : decode cc pc = .ok (.new ik, 3)) (d3 : decode cc (pc + 3) = .ok (.dup, 1)) (d4 : decode cc (pc + 4) = .ok (.ldc_w is, 3)) (d7 : decode cc (pc + 7) = .ok (.invokespecial ic, 3)) (d10 : decode cc (pc + 10) = .ok (.athrow, 1))
    (hout : ∀ x ∈ c.exceptionTable.toList, covers x (pc + 10) = false)
    (hRframes : names.length + 3 < R.frames) (hRlocals : 13 * (names.length + 1) + 43 ≤ R.locals) (hRcells : cells + 1 ≤ R.cells) (hRslots : slots + 6 ≤ R.slots) (hlocks : meth.locks = false)
    (hx : ∀ t : State, s.vm.Alike t.vm → H.size ≤ t.heap.size → (∀ q : Nat, q < H.size → t.heap[q]? = H[q]?) → XC cls s t)
    (hf : ∀ z ∈ locs, free z.base) (hc : cells + 1 ≤ mc) (hs : slots + 6 ≤ ms) :
    W p l e R s m args below meth c H locs cells slots (vx_MQ below Qc XC args s mc ms free) (F0 m pc ls []) := by
  intro T hT X
  have htr : e.platform.stackTraces = false := (show e.platform.stackTraces = l.stackTraces by rw [X.admits.platform]).trans hl
  have Y := vx_rebase X (R' := { frames := R.frames, locals := R.locals, cells := 1, slots := 6 }) (Nat.le_refl _) (Nat.le_refl _) hRcells hRslots
  obtain ⟨s', hA⟩ : ∃ z, z = (T.setVm s.vm).setFrames (.invoking m args :: below) := ⟨_, rfl⟩
  rw [← hA] at Y
  have hvm : s'.vm = s.vm := by rw [hA]; rfl
  have hhp : s'.heap = H := by rw [hA]; exact hT
  have hW0 : s.WarmedH s'.vm := by rw [hvm]; exact State.WarmedH.refl s
  have mv : ∀ w, w ∈ Cond.classLink own ik cls :: Cond.initialized cls :: vx_atSX own ic cls ix rx names → w.before args s = true → w.before args s' = true := fun w hw h => vx_ot_at hW0 hvm.symm (hgood w hw) h
  have hU' : vx_Zq Bundle.tN "UNASSIGNED_STACK" Bundle.steD A s' s'.heap := by rw [hhp]; exact vx_Zq.moved hW0.alike (hU.kept hS.2.1)
  have hN' : vx_Zq Bundle.tN "SUPPRESSED_SENTINEL" Bundle.listD A s' s'.heap := by rw [hhp]; exact vx_Zq.moved hW0.alike (hN.kept hS.2.1)
  have h : ∀ w ∈ Bundle.ownAtomsX own ic cls ix rx names, w.before args s' = true := vx_own (fun w hw => mv w (List.mem_cons_of_mem _ (List.mem_cons_of_mem _ hw)) (hat w hw)) (vx_isRefq hU'.1) (vx_isRefq hN'.1) hU'.2.word hN'.2.word
  have hown' : s'.vm.findClass own = some m.cls := by rw [hvm]; exact hown
  have hins : (Cond.instantiable cls 6).before args s' = true := h _ (by simp [Bundle.ownAtomsX])
  obtain ⟨vm₁, cX, kX, hfX, hkX, -, -, X₁, st1⟩ := Y.newCold hexec (own := own) (C := cls) (index := ik) (n := 6) hown' (mv _ List.mem_cons_self hk) hins (mv _ (List.mem_cons_of_mem _ List.mem_cons_self) hini)
    (g := F0 m pc ls []) rfl (by rw [hb]; exact d0) (Nat.le_refl _) (Nat.le_refl _)
  generalize hT1 : (T.setVm vm₁).pushCell { cls := cX, slots := kX.instanceTypes.map defaultValue, vm := .none } = T1 at X₁ st1
  have hcat : (Value.ref T.heap.size).category = 1 := rfl
  have hcellA : T1.heap[T.heap.size]? = some (freshCell cX kX) := by rw [← hT1]; exact State.heap_pushCell_size _ _
  have d3' : decode c.code (pc + 3) = .ok (.dup, 1) := by rw [hb]; exact d3
  have d4' : decode c.code (pc + 4) = .ok (.ldc_w is, 3) := by rw [hb]; exact d4
  have hstr' : vk_R own is text sa s' := vk_R.warm hW0 hstr
  obtain ⟨U, hsteps, hrun, hend, hW, hsame, ce, hce, hO, hOc⟩ := ctorX X₁ hexec htr (own := own) (cls := cls) (names := names) (ic := ic) x0 x1 x2 x5 hown' hcls hnames h (fun x hx => nomatch hx) hfX hkX hcellA (by rw [hhp, hT]; exact Nat.le_refl _) (msg := .ref sa) rfl
    (g := { method := m, pc := pc + 7, locals := ls, stack := .ref sa :: .ref T.heap.size :: .ref T.heap.size :: [], locked := none }) rfl hsize rfl rfl (rest := []) rfl
    (by rw [hb]; exact d7) (by rw [hb]; exact d10) hout hRframes (by simp only [List.map_cons, List.sum_cons, hcat, List.map_nil, List.sum_nil]; show 2 * 0 + _ + _ ≤ _; omega) hlocks
  obtain ⟨f1, f2⟩ := vx_frame hsame
  rw [hhp] at f1 f2
  have hWs : s.WarmedH U.vm := State.WarmedH.trans hW0 hW
  have hcl : s.vm.findClass cls = some ce.cls := by rw [hvm] at hOc; exact hOc
  have hall : s.sameButNew ({ U with vm := s.vm } : State) locs mc ms := by
    subst hA
    obtain ⟨e1, e2⟩ := hsame
    rw [State.setFrames_setFrames] at e1
    have h2 : (T.setVm s.vm).sameButNew ({ U with vm := s.vm } : State) [] (0 + 1) (0 + 6) := ⟨e1, e2⟩
    have h3 := X.same.trans h2
    rw [List.append_nil] at h3
    exact h3.mono hc hs
  refine ⟨U, ?_, .threw T.heap.size, hrun, hend, Or.inr ⟨T.heap.size, rfl, cls, ce, locs, hx U hWs.alike f1 (fun q hq => f2 q hq (fun z hz => nomatch hz)), hce, hO, hcl, hWs, hall, hf⟩⟩
  refine st1 _ ?_
  show Steps p.tables e below (T1.setTop { method := m, pc := pc + 3, locals := ls, stack := .ref T.heap.size :: [], locked := none }) _
  jvm_step X₁.here [X₁.here.top, hexec, d3', Value.category]
  exact X₁.ldcStringW hexec (own := own) (text := text) (index := is) (a := sa) hown' hstr'.1 hstr'.2
    (g := { method := m, pc := pc + 4, locals := ls, stack := .ref T.heap.size :: .ref T.heap.size :: [], locked := none }) rfl d4' _ hsteps
end ThrowX
def dcs : List Cond := [.declares (Bundle.initS "java/lang/RuntimeException"), .declares (Bundle.initS "java/lang/Exception"), .declares (Bundle.initS "java/lang/Throwable")]
/-- constructors that are declared -/
def GY (Γ : Gm) : Prop := ∀ U, Γ.2.2.2.2.2 U → ∀ w ∈ dcs, va_Nw w U
/-- 'throw new cls(text)' at pc -/
theorem zj_throwX {p : Program} {l : Launch} {e : Env} {s : State} {m : MethodId} {args : Array Value} {below : List Frame} {meth : Method} {c : Code} {own : String} {Γ : Gm} {sh : Sh} {d : Nat} {M : Uv} {nL : Nat} {cc : ByteArray} {ret : Option FieldType} {kr : Kr} {kx : Kxx} {pc ik is ic ix : Nat} {rx : ByteArray} {cls text : String} {names : List String}
    (hG : GW Γ) (hY : GY Γ) (hl : l.stackTraces = false) (x0 : decode rx 0 = .ok (.aload_n 0, 1)) (x1 : decode rx 1 = .ok (.aload_n 1, 1)) (x2 : decode rx 2 = .ok (.invokespecial ix, 3)) (x5 : decode rx 5 = .ok (.return_, 1))
    (hC : Cx p s m args meth c own Γ nL cc ret) (hs0 : ∀ q, q < Γ.1.1 → s.heap[q]? = Γ.2.1[q]?) (hcls : Bundle.fit cls = true) (hnames : ∀ n ∈ names, Bundle.fit n = true)
    (hk : Cond.classLink own ik cls ∈ gtb) (hini : Cond.initialized cls ∈ gtb) (hstr : Cond.stringRef own is text ∈ ntb) (hgt : ∀ w ∈ (vx_atSX own ic cls ix rx names).filter goodWord, w ∈ gtb) (hca : Cond.castable cls cls ∈ ntb)
    (hot : ∀ w ∈ (vx_atSX own ic cls ix rx names).filter (fun w => !goodWord w), w ∈ Cond.castable cls cls :: dcs)
    (hgood : ((Cond.classLink own ik cls :: Cond.initialized cls :: vx_atSX own ic cls ix rx names).all vx_ot) = true)
    (d0 : decode cc pc = .ok (.new ik, 3)) (d3 : decode cc (pc + 3) = .ok (.dup, 1)) (d4 : decode cc (pc + 4) = .ok (.ldc_w is, 3)) (d7 : decode cc (pc + 7) = .ok (.invokespecial ic, 3)) (d10 : decode cc (pc + 10) = .ok (.athrow, 1))
    (hnl : names.length ≤ 3) (hd : 7 ≤ d) {ls : Lv} {I : Iv} {E : Ev} {u : Uv} (h1 : u.1 + 1 ≤ M.1) (h2 : u.2 + 6 ≤ M.2) (h : kx cls I (unE E)) : Zj p l e s m args below meth c Γ sh d M nL kr kx pc ls [] I E u := by
  intro H locs la hW hL hlo _ _ T hT X
  have hz := hG s (hC.2.2.2.2.2.1.2.1 s (Vm.Alike.refl s.vm) hs0)
  obtain ⟨sa, hsa⟩ := sr_at hC.2.2.2.1 (hC.2.2.2.2.2.1.2.2 _ hstr)
  have hf := vx_frame (U := T) X.same
  have hS : va_S (fun q => Γ.1.1 ≤ q) s.heap H locs := by
    refine ⟨by rw [← hT]; exact hf.1, fun q _ hq => ?_, hL⟩
    have hq' : q < Γ.1.1 := by omega
    rw [hs0 q hq', (hW.2.1 q (Or.inl hq')).1]
  refine throwX (own := own) (cls := cls) (text := text) (names := names) (ik := ik) (is := is) (ic := ic) (ix := ix) (rx := rx) (sa := sa) (A := fun q => Γ.1.1 ≤ q) hC.1 hC.2.1 hl x0 x1 x2 x5 hC.2.2.2.1 hcls hnames (hC.2.2.2.2.1 _ hk) (hC.2.2.2.2.1 _ hini) hsa ?_ (fun w hw => List.all_eq_true.mp hgood w hw) hz.2.2.2.2.2.1 hz.2.2.2.2.2.2.1 hS (by rw [hC.2.2.1]; exact hlo.2.1) d0 d3 d4 d7 d10 (fun x hx => (hC.2.2.2.2.2.2.2.2.1 x hx).elim) (by show _ + 3 < d + 1; omega) (by show 13 * (names.length + 1) + 43 ≤ 80 * (d + 1); omega) h1 h2 hC.2.2.2.2.2.2.2.1 (fun t _ ht ho => ⟨I, unE E, hW.grow ht ho, h⟩) hL h1 h2 T hT X
  refine vx_hat (fun w hw => hC.2.2.2.2.1 w (hgt w hw)) hot (fun w hw => ?_)
  rcases List.mem_cons.mp hw with h1 | h1
  · rw [h1]
    exact va_Nw.use rfl (hC.2.2.2.2.2.1.2.2 _ hca)
  · have hz2 := hY s (hC.2.2.2.2.2.1.2.1 s (Vm.Alike.refl s.vm) hs0) w h1
    have hd : w.onTables = true := by
      have : (dcs.all fun w => w.onTables) = true := by decide +kernel
      exact List.all_eq_true.mp this w h1
    exact va_Nw.use hd hz2
/-- words of a list among the tables' -/
theorem gtb_all {L : List Cond} (h : (L.all fun w => decide (w ∈ lw_tbl) && goodWord w) = true) : ∀ w ∈ L, w ∈ gtb := fun w hw => by
  have h1 := List.all_eq_true.mp h w hw
  simp only [Bool.and_eq_true, decide_eq_true_eq] at h1
  exact List.mem_filter.mpr h1
def rx7 : ByteArray := ⟨#[0x2a, 0x2b, 0xb7, 0x00, 0x07, 0xb1]⟩
def rx13 : ByteArray := ⟨#[0x2a, 0x2b, 0xb7, 0x00, 0x0d, 0xb1]⟩
abbrev nmX : List String := ["java/lang/RuntimeException", "java/lang/Exception"]
abbrev iaX : String := "java/lang/IllegalArgumentException"
abbrev nsX : String := "java/util/NoSuchElementException"
set_option maxRecDepth 100000 in
theorem ia_g : ∀ w ∈ (vx_atSX "HerbWaters" 367 iaX 7 rx7 nmX).filter goodWord, w ∈ gtb := gtb_all (by decide +kernel)
set_option maxRecDepth 100000 in
theorem ns_g : ∀ w ∈ (vx_atSX "HerbWaters" 360 nsX 13 rx13 nmX).filter goodWord, w ∈ gtb := gtb_all (by decide +kernel)
theorem ia_o : ∀ w ∈ (vx_atSX "HerbWaters" 367 iaX 7 rx7 nmX).filter (fun w => !goodWord w), w ∈ Cond.castable iaX iaX :: dcs := by decide +kernel
theorem ns_o : ∀ w ∈ (vx_atSX "HerbWaters" 360 nsX 13 rx13 nmX).filter (fun w => !goodWord w), w ∈ Cond.castable nsX nsX :: dcs := by decide +kernel
section XN
variable {Γ : Gm} {l : Launch} {b : Bool} {d : Nat} {I : Iv} {E : Ev} {kr : Kr} {kx : Kxx}
theorem callN {g : Go} {kr : Kr} {kx : Kxx} {Γ : Gm} {l : Launch} {sh : Sh} {d : Nat} {M : Uv} {ret : Option FieldType} {mt : Mt} {av : List Value} {I : Iv} {E : Ev} {u : Uv} {k : Option Value → Iv → Ev → Uv → Prop} (m1 m2 : Nat) (h1 : u.1 + m1 ≤ M.1) (h2 : u.2 + m2 ≤ M.2)
    (h : Ex Γ l sh d (m1, m2) mt av I E (fun w I' E' => k w I' E' (u.1 + m1, u.2 + m2)) kx) : Call (g, kr, kx, Γ, l, sh, d, M, ret) mt av I E u k := ⟨m1, m2, fun _ => h1, fun _ => h2, h⟩
theorem x_needIn {x lo hi : Int32} (hin : lo ≤ x ∧ x ≤ hi) (h : kr none I E) : Ex Γ l (shB b) (d + 1) (0, 0) mH_needIn [.ref 0, .int x, .int lo, .int hi] I E kr kx := by
  refine ex_of (ls0 := [some (.ref 0), some (.int x), some (.int lo), some (.int hi)]) tH_needIn (by decide +kernel) kH_needIn rfl (Nat.le_of_ble_eq_true rfl) rfl ?_
  intro go hgo
  refine hgo 20 [] 0 _ _ _ _ _ ?_
  simp only [ixr_of, run_s, run_0, rH_needIn, rok_i, rok_z, bx_cons, bx_nil, eADD, eC1, eDUPr, eGI, jICle, jIClt, eLA0, eLI1, eLI2, eLI3, ePI, eRV, fH_needIn_0, fH_needIn_5, fH_needIn_10, fH_needIn_31, bH_needIn_0, bH_needIn_5, bH_needIn_10, bH_needIn_31, ln_ximages, ln_xthought, rg_xmain_0, rg_xmain_1, rg_xmain_10, rg_xmain_2, rg_xmain_3, rg_xmain_4, rg_xmain_5, rg_xmain_6, rg_xmain_7, ty_xaqueduct, ty_xdiary, ty_xforesight, ty_ximages, ty_xmain, ty_xnow, ty_xopinionReader, ty_xtape, ty_xtasters, ty_xthought, Option.toList_some, Option.toList_none, List.cons_append, List.nil_append, List.length_cons, List.length_nil, List.mem_cons, List.not_mem_nil, or_false, false_or, or_true, true_or, ↓reduceIte, true_and, and_true, Nat.reduceEqDiff, Nat.reduceAdd, Nat.reduceLeDiff, Nat.reduceLT, dl_i, dl_r, dl_n, dl_u, eq_self, not_true_eq_false, not_false_eq_true, n10, n01, nm0, n0m, imp_t, imp_f]
  exact ⟨fun q => absurd hin.1 (i32_nle.mpr q), fun _ => ⟨fun _ => h, fun q => absurd hin.2 q⟩⟩
theorem x_needInX {x lo hi : Int32} (hG : GW Γ) (hY : GY Γ) (hl : l.stackTraces = false) (hin : ¬ (lo ≤ x ∧ x ≤ hi)) (h : kx iaX (up I 0 14 (I 0 14 + nI 1)) (unE E)) : Ex Γ l (shB b) (d + 8) (1, 6) mH_needIn [.ref 0, .int x, .int lo, .int hi] I E kr kx := by
  refine ex_ofT (ls0 := [some (.ref 0), some (.int x), some (.int lo), some (.int hi)]) tH_needIn (by decide +kernel) kH_needIn rfl (Nat.le_of_ble_eq_true rfl) rfl 20 (fun I' E' u => I' = up I 0 14 (I 0 14 + nI 1) ∧ E' = E ∧ u = (0, 0)) ?_ ?_
  · intro p e s m args below meth c hC hs0 ls I' E' u hP
    obtain ⟨rfl, rfl, rfl⟩ := hP
    exact zj_throwX (own := "HerbWaters") (cls := iaX) (text := "no such number") (names := nmX) (ik := 363) (is := 365) (ic := 367) (ix := 7) (rx := rx7) hG hY hl (by decide +kernel) (by decide +kernel) (by decide +kernel) (by decide +kernel) hC hs0 (by decide +kernel) (by decide +kernel) (gtb_mem 1120 (by decide +kernel) rfl) (gtb_mem 111 (by decide +kernel) rfl) (List.mem_filter.mpr ⟨List.mem_of_getElem? (i := 1121) (by decide +kernel), rfl⟩) ia_g (List.mem_filter.mpr ⟨List.mem_of_getElem? (i := 683) (by decide +kernel), rfl⟩) ia_o (by decide +kernel) (by decide +kernel) (by decide +kernel) (by decide +kernel) (by decide +kernel) (by decide +kernel) (by decide) (by omega) (by decide) (by decide) h
  · intro go hgo ht
    have out : go 10 [some (.ref 0), some (.int x), some (.int lo), some (.int hi)] [] I E (0, 0) := by
      refine hgo 20 [20] 10 _ _ _ _ _ ?_
      simp only [ixr_of, run_s, run_0, rH_needIn, rok_i, rok_z, bx_cons, bx_nil, eADD, eC1, eDUPr, eGI, jICle, jIClt, eLA0, eLI1, eLI2, eLI3, ePI, eRV, fH_needIn_0, fH_needIn_5, fH_needIn_10, fH_needIn_31, bH_needIn_0, bH_needIn_5, bH_needIn_10, bH_needIn_31, ln_ximages, ln_xthought, rg_xmain_0, rg_xmain_1, rg_xmain_10, rg_xmain_2, rg_xmain_3, rg_xmain_4, rg_xmain_5, rg_xmain_6, rg_xmain_7, ty_xaqueduct, ty_xdiary, ty_xforesight, ty_ximages, ty_xmain, ty_xnow, ty_xopinionReader, ty_xtape, ty_xtasters, ty_xthought, Option.toList_some, Option.toList_none, List.cons_append, List.nil_append, List.length_cons, List.length_nil, List.mem_cons, List.not_mem_nil, or_false, false_or, or_true, true_or, ↓reduceIte, true_and, and_true, Nat.reduceEqDiff, Nat.reduceAdd, Nat.reduceLeDiff, Nat.reduceLT, dl_i, dl_r, dl_n, dl_u, eq_self, not_true_eq_false, not_false_eq_true, n10, n01, nm0, n0m, imp_t, imp_f]
      exact ht _ _ _ _ ⟨rfl, rfl, rfl⟩
    refine hgo 20 [10] 0 _ _ _ _ _ ?_
    simp only [ixr_of, run_s, run_0, rH_needIn, rok_i, rok_z, bx_cons, bx_nil, eADD, eC1, eDUPr, eGI, jICle, jIClt, eLA0, eLI1, eLI2, eLI3, ePI, eRV, fH_needIn_0, fH_needIn_5, fH_needIn_10, fH_needIn_31, bH_needIn_0, bH_needIn_5, bH_needIn_10, bH_needIn_31, ln_ximages, ln_xthought, rg_xmain_0, rg_xmain_1, rg_xmain_10, rg_xmain_2, rg_xmain_3, rg_xmain_4, rg_xmain_5, rg_xmain_6, rg_xmain_7, ty_xaqueduct, ty_xdiary, ty_xforesight, ty_ximages, ty_xmain, ty_xnow, ty_xopinionReader, ty_xtape, ty_xtasters, ty_xthought, Option.toList_some, Option.toList_none, List.cons_append, List.nil_append, List.length_cons, List.length_nil, List.mem_cons, List.not_mem_nil, or_false, false_or, or_true, true_or, ↓reduceIte, true_and, and_true, Nat.reduceEqDiff, Nat.reduceAdd, Nat.reduceLeDiff, Nat.reduceLT, dl_i, dl_r, dl_n, dl_u, eq_self, not_true_eq_false, not_false_eq_true, n10, n01, nm0, n0m, imp_t, imp_f]
    exact ⟨fun _ => out, fun q => ⟨fun q2 => absurd ⟨i32_nlt.mp q, q2⟩ hin, fun _ => out⟩⟩
theorem x_needVillage {x : Int32} {t : Nat} {nV : Nat} (ht : rget (shB b) E 3 0 = .ref t) (hty : tyc (shB b) E t = 10) (hv : I t 10 = nI nV) (hin : nI 0 ≤ x ∧ x < nI nV) (h : kr none I E) : Ex Γ l (shB b) (d + 1) (0, 0) mH_needVillage [.ref 0, .int x] I E kr kx := by
  refine ex_of (ls0 := [some (.ref 0), some (.int x)]) tH_needVillage (by decide +kernel) kH_needVillage rfl (Nat.le_of_ble_eq_true rfl) rfl ?_
  intro go hgo
  refine hgo 20 [] 0 _ _ _ _ _ ?_
  simp only [ixr_of, run_s, run_0, rH_needVillage, rok_i, rok_z, bx_cons, bx_nil, eADD, eC1, eDUPr, eGI, eGR, jIClt, jIFlt, eLA0, eLI1, ePI, eRV, fH_needVillage_0, fH_needVillage_4, fH_needVillage_18, fH_needVillage_39, bH_needVillage_0, bH_needVillage_4, bH_needVillage_18, bH_needVillage_39, ln_ximages, ln_xthought, rg_xmain_0, rg_xmain_1, rg_xmain_10, rg_xmain_2, rg_xmain_3, rg_xmain_4, rg_xmain_5, rg_xmain_6, rg_xmain_7, ty_xaqueduct, ty_xdiary, ty_xforesight, ty_ximages, ty_xmain, ty_xnow, ty_xopinionReader, ty_xtape, ty_xtasters, ty_xthought, Option.toList_some, Option.toList_none, List.cons_append, List.nil_append, List.length_cons, List.length_nil, List.mem_cons, List.not_mem_nil, or_false, false_or, or_true, true_or, ↓reduceIte, true_and, and_true, Nat.reduceEqDiff, Nat.reduceAdd, Nat.reduceLeDiff, Nat.reduceLT, dl_i, dl_r, dl_n, dl_u, eq_self, not_true_eq_false, not_false_eq_true, n10, n01, nm0, n0m, ht, hty, hv, imp_t, imp_f]
  exact ⟨fun q => absurd hin.1 (i32_nle.mpr q), fun _ => ⟨fun _ => h, fun q => absurd hin.2 q⟩⟩
theorem x_needVillageX {x : Int32} {t : Nat} {nV : Nat} (hG : GW Γ) (hY : GY Γ) (hl : l.stackTraces = false) (ht : rget (shB b) E 3 0 = .ref t) (hty : tyc (shB b) E t = 10) (hv : I t 10 = nI nV) (hin : ¬ (nI 0 ≤ x ∧ x < nI nV)) (h : kx nsX (up I 0 13 (I 0 13 + nI 1)) (unE E)) : Ex Γ l (shB b) (d + 8) (1, 6) mH_needVillage [.ref 0, .int x] I E kr kx := by
  refine ex_ofT (ls0 := [some (.ref 0), some (.int x)]) tH_needVillage (by decide +kernel) kH_needVillage rfl (Nat.le_of_ble_eq_true rfl) rfl 28 (fun I' E' u => I' = up I 0 13 (I 0 13 + nI 1) ∧ E' = E ∧ u = (0, 0)) ?_ ?_
  · intro p e s m args below meth c hC hs0 ls I' E' u hP
    obtain ⟨rfl, rfl, rfl⟩ := hP
    exact zj_throwX (own := "HerbWaters") (cls := nsX) (text := "no such village") (names := nmX) (ik := 356) (is := 358) (ic := 360) (ix := 13) (rx := rx13) hG hY hl (by decide +kernel) (by decide +kernel) (by decide +kernel) (by decide +kernel) hC hs0 (by decide +kernel) (by decide +kernel) (gtb_mem 1293 (by decide +kernel) rfl) (gtb_mem 118 (by decide +kernel) rfl) (List.mem_filter.mpr ⟨List.mem_of_getElem? (i := 1302) (by decide +kernel), rfl⟩) ns_g (List.mem_filter.mpr ⟨List.mem_of_getElem? (i := 1295) (by decide +kernel), rfl⟩) ns_o (by decide +kernel) (by decide +kernel) (by decide +kernel) (by decide +kernel) (by decide +kernel) (by decide +kernel) (by decide) (by omega) (by decide) (by decide) h
  · intro go hgo ht'
    have out : go 18 [some (.ref 0), some (.int x)] [] I E (0, 0) := by
      refine hgo 20 [28] 18 _ _ _ _ _ ?_
      simp only [ixr_of, run_s, run_0, rH_needVillage, rok_i, rok_z, bx_cons, bx_nil, eADD, eC1, eDUPr, eGI, eGR, jIClt, jIFlt, eLA0, eLI1, ePI, eRV, fH_needVillage_0, fH_needVillage_4, fH_needVillage_18, fH_needVillage_39, bH_needVillage_0, bH_needVillage_4, bH_needVillage_18, bH_needVillage_39, ln_ximages, ln_xthought, rg_xmain_0, rg_xmain_1, rg_xmain_10, rg_xmain_2, rg_xmain_3, rg_xmain_4, rg_xmain_5, rg_xmain_6, rg_xmain_7, ty_xaqueduct, ty_xdiary, ty_xforesight, ty_ximages, ty_xmain, ty_xnow, ty_xopinionReader, ty_xtape, ty_xtasters, ty_xthought, Option.toList_some, Option.toList_none, List.cons_append, List.nil_append, List.length_cons, List.length_nil, List.mem_cons, List.not_mem_nil, or_false, false_or, or_true, true_or, ↓reduceIte, true_and, and_true, Nat.reduceEqDiff, Nat.reduceAdd, Nat.reduceLeDiff, Nat.reduceLT, dl_i, dl_r, dl_n, dl_u, eq_self, not_true_eq_false, not_false_eq_true, n10, n01, nm0, n0m, imp_t, imp_f]
      exact ht' _ _ _ _ ⟨rfl, rfl, rfl⟩
    refine hgo 20 [18] 0 _ _ _ _ _ ?_
    simp only [ixr_of, run_s, run_0, rH_needVillage, rok_i, rok_z, bx_cons, bx_nil, eADD, eC1, eDUPr, eGI, eGR, jIClt, jIFlt, eLA0, eLI1, ePI, eRV, fH_needVillage_0, fH_needVillage_4, fH_needVillage_18, fH_needVillage_39, bH_needVillage_0, bH_needVillage_4, bH_needVillage_18, bH_needVillage_39, ln_ximages, ln_xthought, rg_xmain_0, rg_xmain_1, rg_xmain_10, rg_xmain_2, rg_xmain_3, rg_xmain_4, rg_xmain_5, rg_xmain_6, rg_xmain_7, ty_xaqueduct, ty_xdiary, ty_xforesight, ty_ximages, ty_xmain, ty_xnow, ty_xopinionReader, ty_xtape, ty_xtasters, ty_xthought, Option.toList_some, Option.toList_none, List.cons_append, List.nil_append, List.length_cons, List.length_nil, List.mem_cons, List.not_mem_nil, or_false, false_or, or_true, true_or, ↓reduceIte, true_and, and_true, Nat.reduceEqDiff, Nat.reduceAdd, Nat.reduceLeDiff, Nat.reduceLT, dl_i, dl_r, dl_n, dl_u, eq_self, not_true_eq_false, not_false_eq_true, n10, n01, nm0, n0m, ht, hty, hv, imp_t, imp_f]
    exact ⟨fun _ => out, fun q => ⟨fun q2 => absurd ⟨i32_nlt.mp q, q2⟩ hin, fun _ => out⟩⟩
end XN
