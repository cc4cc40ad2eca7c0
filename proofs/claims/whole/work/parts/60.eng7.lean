/-! THE ENGINE, 7: constructors; throws; by program (wip/whole/gen_eng7.py) -/
/-- in constructors -/
def SndI (own : String) (ir : Ir) : Prop :=
  ∀ (p : Program) (l : Launch) (e : Env) (s : State) (m : MethodId) (args : Array Value) (below : List Frame) (meth : Method) (c : Code) (Γ : Gm) (sh : Sh) (d : Nat) (M : Uv) (nL : Nat) (cc : ByteArray) (ret : Option FieldType) (go : Go) (kr : Kr) (kx : Kxx)
    (pc : Nat) (ls : Lv) (st : List Value) (I : Iv) (E : Ev) (u : Uv) (k : Lv → List Value → Iv → Ev → Uv → Prop),
    meth.name = "<init>" → Cx p s m args meth c own Γ nL cc ret → (∀ pc ls st I E u, go pc ls st I E u → Zj p l e s m args below meth c Γ sh d M nL kr kx pc ls st I E u) →
    decode cc pc = .ok ir.2.1 → ir.2.2 pc = true → ir.1 (go, kr, kx, Γ, l, sh, d, M, ret) ls st I E u k →
    (∀ ls st I E u, k ls st I E u → Zj p l e s m args below meth c Γ sh d M nL kr kx (pc + ir.2.1.2) ls st I E u) →
    Zj p l e s m args below meth c Γ sh d M nL kr kx pc ls st I E u
theorem Snd.i {own : String} {ir : Ir} (h : Snd own ir) : SndI own ir := fun p l e s m args below meth c Γ sh d M nL cc ret go kr kx pc ls st I E u k _ => h p l e s m args below meth c Γ sh d M nL cc ret go kr kx pc ls st I E u k
theorem bxi_sound {p : Program} {l : Launch} {e : Env} {s : State} {m : MethodId} {args : Array Value} {below : List Frame} {meth : Method} {c : Code} {own : String} {Γ : Gm} {sh : Sh} {d : Nat} {M : Uv} {nL : Nat} {cc : ByteArray} {ret : Option FieldType} {go : Go} {kr : Kr} {kx : Kxx}
    (hN : meth.name = "<init>") (hC : Cx p s m args meth c own Γ nL cc ret) (hgo : ∀ pc ls st I E u, go pc ls st I E u → Zj p l e s m args below meth c Γ sh d M nL kr kx pc ls st I E u) {nx : Nat} :
    ∀ (is : List Ir) (pc : Nat) (ls : Lv) (st : List Value) (I : Iv) (E : Ev) (u : Uv), decB cc nx pc is = true → (∀ ir ∈ is, SndI own ir) → bx (go, kr, kx, Γ, l, sh, d, M, ret) is nx ls st I E u → Zj p l e s m args below meth c Γ sh d M nL kr kx pc ls st I E u := by
  intro is
  induction is with
  | nil =>
    intro pc ls st I E u hd _ h
    have h1 : pc = nx := by simpa [decB] using hd
    subst h1
    exact hgo _ _ _ _ _ _ h
  | cons ir is ih =>
    intro pc ls st I E u hd hs h
    simp only [decB, Bool.and_eq_true, decide_eq_true_eq] at hd
    exact hs ir List.mem_cons_self p l e s m args below meth c Γ sh d M nL cc ret go kr kx pc ls st I E u _ hN hC hgo hd.1 hd.2.1 h
      (fun ls st I E u hk => ih (pc + ir.2.1.2) ls st I E u hd.2.2 (fun x hx => hs x (List.mem_cons_of_mem _ hx)) hk)
def BokI (own : String) (cc : ByteArray) (q : Nat × List Ir × Nat) : Prop := decB cc q.2.2 q.1 q.2.1 = true ∧ ∀ ir ∈ q.2.1, SndI own ir
theorem tbf_okI {own : String} {cc : ByteArray} : ∀ {tb : Tb}, (∀ q ∈ tb, BokI own cc q) → ∀ {pc : Nat} {b : List Ir × Nat}, tbf tb pc = some b → BokI own cc (pc, b)
  | [], _, _, _, h => by simp [tbf] at h
  | q :: t, hb, pc, b, h => by
    simp only [tbf] at h
    split at h
    · rename_i h1
      subst h1
      cases h
      exact hb q List.mem_cons_self
    · exact tbf_okI (fun x hx => hb x (List.mem_cons_of_mem _ hx)) h
theorem runi_sound {p : Program} {l : Launch} {e : Env} {s : State} {m : MethodId} {args : Array Value} {below : List Frame} {meth : Method} {c : Code} {own : String} {Γ : Gm} {sh : Sh} {d : Nat} {M : Uv} {nL : Nat} {cc : ByteArray} {ret : Option FieldType} {go : Go} {kr : Kr} {kx : Kxx} {tb : Tb}
    (hN : meth.name = "<init>") (hC : Cx p s m args meth c own Γ nL cc ret) (hT : ∀ q ∈ tb, BokI own cc q) (hgo : ∀ pc ls st I E u, go pc ls st I E u → Zj p l e s m args below meth c Γ sh d M nL kr kx pc ls st I E u) (ct : List Nat) :
    ∀ (n pc : Nat) (ls : Lv) (st : List Value) (I : Iv) (E : Ev) (u : Uv), run tb (go, kr, kx, Γ, l, sh, d, M, ret) ct n pc ls st I E u → Zj p l e s m args below meth c Γ sh d M nL kr kx pc ls st I E u := by
  intro n
  induction n with
  | zero => intro pc ls st I E u h; exact hgo _ _ _ _ _ _ h
  | succ n ih =>
    intro pc ls st I E u h
    simp only [run] at h
    split at h
    · exact hgo _ _ _ _ _ _ h
    · split at h
      · rename_i b hb
        obtain ⟨h1, h2⟩ := tbf_okI hT hb
        exact bxi_sound hN hC ih b.1 pc ls st I E u h1 h2 h
      · exact hgo _ _ _ _ _ _ h
/-- the start of a body: its locals -/
theorem lok_0 {B : Nat × Nat} {av : List Value} {n : Nat} (hav : (av.all fun v => decide (v.category = 1)) = true) (hn : av.length ≤ n) {ls0 : Lv} (hls : av.map some ++ List.replicate (n - av.length) none = ls0) :
    (lg_sl (av.map (rv B))).length ≤ n ∧ Lok B n ls0 (lg_sl (av.map (rv B)) ++ List.replicate (n - (lg_sl (av.map (rv B))).length) Slot.unset).toArray := by
  have hcat : ∀ v ∈ av, v.category = 1 := fun v hv => by simpa using List.all_eq_true.mp hav v hv
  have hsl := sl_of (B := B) hcat
  have hlen : (lg_sl (av.map (rv B))).length ≤ n := by rw [hsl]; simpa using hn
  have hl := lv_entry (av.map (rv B)) (n := n) hlen
  refine ⟨hlen, by rw [← hls]; simp; omega, hl.1, hl.2.1, fun i v hi => ?_⟩
  rw [← hls] at hi
  have hi' : i < av.length := by
    by_cases h : i < av.length
    · exact h
    · rw [List.getElem?_append_right (by simpa using h)] at hi
      simp [List.getElem?_replicate] at hi
  rw [List.getElem?_append_left (by simpa using hi')] at hi
  simp only [List.getElem?_map] at hi
  rw [hsl]
  simp only [List.getElem?_toArray]
  rw [List.getElem?_append_left (by simpa using hi')]
  simp only [List.getElem?_map]
  cases hx : av[i]? with
  | none => rw [hx] at hi; simp at hi
  | some w =>
    rw [hx] at hi
    simp only [Option.map_some, Option.some.injEq] at hi
    subst hi
    rfl
/-- a constructor's contract out of its blocks -/
theorem ex_ofI {Γ : Gm} {l : Launch} {sh : Sh} {d : Nat} {M : Uv} {mt : Mt} {av : List Value} {I : Iv} {E : Ev} {kr : Kr} {kx : Kxx} (tb : Tb) (hy : plainName mt.1.cls = true) (hnm : mt.1.name = "<init>") (hT : ∀ q ∈ tb, BokI mt.1.cls mt.2.1 q)
    (hav : (av.all fun v => decide (v.category = 1)) = true) (hn : av.length ≤ mt.2.2.1) {ls0 : Lv} (hls : av.map some ++ List.replicate (mt.2.2.1 - av.length) none = ls0)
    (body : ∀ go : Go, (∀ (n : Nat) (ct : List Nat) (pc : Nat) (ls : Lv) (st : List Value) (I : Iv) (E : Ev) (u : Uv), (match tbf tb pc with
        | some b => bx (run tb (go, kr, kx, Γ, l, sh, d, M, mt.2.2.2) ct n, kr, kx, Γ, l, sh, d, M, mt.2.2.2) b.1 b.2 ls st I E u
        | none => False) → go pc ls st I E u) → go 0 ls0 [] I E (0, 0)) : Ex Γ l sh (d + 1) M mt av I E kr kx := by
  refine vx_ofW (cc := mt.2.1) (maxL := mt.2.2.1) (ret := mt.2.2.2) hy rfl ?_
  intro p e s m args below meth c s₁ B hml hex hv
  obtain ⟨rfl, hW, hK⟩ := hv
  have hts := atoms_spec (ws := Cond.code mt.1 mt.2.1 mt.2.2.1 mt.2.2.2 :: gtb) B.pre
  have hC : Cx p s m (av.map (rv Γ.1)).toArray meth c mt.1.cls Γ mt.2.2.1 mt.2.1 mt.2.2.2 := ⟨B.exec, B.bytes, hml, findClass_of_methodNamed B.named, fun w hw => hts w (List.mem_cons_of_mem _ hw), hK, B.returns, B.notSynchronized, hex, rfl⟩
  have hN : meth.name = "<init>" := ((name_of_methodNamed B.named B.method).1).trans hnm
  have key := body (Zj p l e s m (av.map (rv Γ.1)).toArray below meth c Γ sh d M mt.2.2.1 kr kx) (fun n ct pc ls st I E u h => by
    split at h
    · rename_i b hb
      obtain ⟨h1, h2⟩ := tbf_okI hT hb
      exact bxi_sound hN hC (runi_sound hN hC hT (fun _ _ _ _ _ _ h => h) ct n) b.1 pc ls st I E u h1 h2 h
    · exact h.elim)
  obtain ⟨hlen, hlok⟩ := lok_0 (B := Γ.1) hav hn hls
  rw [lg_entry_eq]
  exact key s.heap [] _ hW (fun q h => by cases h) hlok (Nat.zero_le _) (Nat.zero_le _)
/-- a final field that holds a reference, in its own constructor -/
def iPRF (ix c j : Nat) : Ir := (fun κ ls st I E u k => match st with | .ref b :: .ref i :: r => tyc κ.2.2.2.2.2.1 E i = c + 1 ∧ κ.2.2.2.2.2.1.2.2 i j = none ∧ k ls r I (upR E.1 i j (b + 1), E.2) u | _ => False, (.putfield ix, 3), fun _ => (hcl[c]?).any (fun q => decide (j < q.2.2)) && rfs (c + 1) j)
theorem ePRF {g : Go} {kr : Kr} {kx : Kxx} {Γ : Gm} {l : Launch} {sh : Sh} {d : Nat} {M : Uv} {ret : Option FieldType} {ls : Lv} {r : List Value} {I : Iv} {E : Ev} {u : Uv} {k : Lv → List Value → Iv → Ev → Uv → Prop} {ix c j i b : Nat} : (iPRF ix c j).1 (g, kr, kx, Γ, l, sh, d, M, ret) ls (.ref b :: .ref i :: r) I E u k = (tyc sh E i = c + 1 ∧ sh.2.2 i j = none ∧ k ls r I (upR E.1 i j (b + 1), E.2) u) := rfl
theorem sPRF {own : String} {ix c j : Nat} (q : vw_C) (hc : hcl[c]? = some q) (hf : (q.2.1 j).2.2.2 = true) (hde : (q.2.1 j).1 = own) (hw : Cond.fieldLink own ix (q.2.1 j).1 (q.2.1 j).2.1 (q.2.1 j).2.2.1 ∈ gtb) : SndI own (iPRF ix c j) := by
  intro p l e s m args below meth cd Γ sh d M nL cc ret go kr kx pc ls st I E u k hN hC hgo hd hq h hk
  simp only [iPRF] at h hq
  split at h
  · rename_i b i r
    intro H locs la hW hL hlo h1 h2
    rw [hc, Bool.and_eq_true] at hq
    have hj : j < q.2.2 := by simpa using hq.1
    obtain ⟨hB, cell, q1, q2, q3, q4⟩ := hW.obj h.1 hc
    obtain ⟨hin, ⟨ty, hty, hrt⟩, hnm⟩ := clf c q hc
    obtain ⟨hS, hfc, kC, hkC, hkind⟩ := hC.2.2.2.2.2.1.1.1 c q hc
    obtain ⟨cf, kf, fi, f, hi, hsl⟩ := hS j hj
    have hst := (u_facts hfc hkC (u_lays hC.2.2.2.2.1 hin hj) hi).1
    have hlay := hC.2.2.2.2.1 _ (hin _ (u_in_lay hj))
    unfold u_lay at hlay
    rw [if_pos hf] at hlay
    have hcf : m.cls = cf := by
      obtain ⟨_, _, c', _, _, _, -, -, hf', -, -, -, hown2, -⟩ := Cond.laysFinal_spec hlay
      have e1 : c' = cf := by have := hi.symm.trans hf'; simp at this; exact this.1.symm
      rw [hde] at hown2
      rw [← e1]; exact Option.some.inj (hC.2.2.2.1.symm.trans hown2)
    obtain ⟨hnr, hft⟩ := isRt_narrow (a := ad Γ.1 b) ((hrt j).symm.trans hq.2)
    have h6 := u_fits hfc hkC hkind (Or.inr hlay) hi (hty j hj) hnr hft
    have hap := va_apart (own := own) hC.2.2.2.2.1 hin ty hty hnm hC.2.2.2.2.2.1.1 hc
    have hnz : tyc sh E i ≠ 0 := by rw [h.1]; omega
    refine W.putFinK hC.1 hC.2.1 hC.2.2.2.1 (hC.2.2.2.2.1 _ hw) hi hst hcf hN (v := .ref (ad Γ.1 b)) (by rw [q2]; exact h6) q1 q3 (by rw [hsl]; exact k2_hasslot (q4 j hj)) rfl rfl hd fun H' e1 e2 e3 => ?_
    rw [hsl] at e1 ⊢
    refine hk _ _ _ _ _ h.2.2 H' _ la (hW.upd (fun _ => rfl) (fun _ => rfl) hnz ?_ e2 e3 (fun a ha b => vl_upR_ne ha)) (mem_locs hL hB) hlo h1 h2
    unfold ck
    have hlt := hcl_lt hc
    have ht : tyc sh (upR E.1 i j (b + 1), E.2) i = tyc sh E i := rfl
    rw [ht, if_pos (by rw [h.1]; omega), h.1, Nat.add_sub_cancel]
    exact ⟨q, hc, t_OB.to (V := updV (vl Γ.1 sh I E i) j (.ref (ad Γ.1 b))) ⟨_, e1, q2, q3, t_set q4 hap hj _⟩ (fun b _ => (vl_upR (by rw [h.1]; exact hq.2) h.2.1 b).symm)⟩
  · exact h.elim
/-- Object's own constructor -/
def iOI (ix : Nat) : Ir := (fun κ ls st I E u k => match st with | .ref _ :: r => r.length ≤ 4 ∧ k ls r I E u | _ => False, (.invokespecial ix, 3), fun _ => true)
theorem eOI {g : Go} {kr : Kr} {kx : Kxx} {Γ : Gm} {l : Launch} {sh : Sh} {d : Nat} {M : Uv} {ret : Option FieldType} {ls : Lv} {r : List Value} {I : Iv} {E : Ev} {u : Uv} {k : Lv → List Value → Iv → Ev → Uv → Prop} {ix i : Nat} : (iOI ix).1 (g, kr, kx, Γ, l, sh, d, M, ret) ls (.ref i :: r) I E u k = (r.length ≤ 4 ∧ k ls r I E u) := rfl
theorem sOI {own : String} {ix : Nat} (hw : Cond.methodLink own ix Lib.objectInit ∈ gtb) (hi : Cond.instanceMethod Lib.objectInit ∈ gtb) (hc : Cond.code Lib.objectInit ⟨#[0xb1]⟩ 1 none ∈ gtb) : Snd own (iOI ix) := by
  intro p l e s m args below meth cd Γ sh d M nL cc ret go kr kx pc ls st I E u k hC hgo hd hq h hk
  simp only [iOI] at h
  split at h
  · rename_i i r
    intro H locs la hW hL hlo h1 h2
    have := ccat (B := Γ.1) r
    exact W.objInit hC.1 hC.2.1 hC.2.2.2.1 (hC.2.2.2.2.1 _ hw) (hC.2.2.2.2.1 _ hi) (hC.2.2.2.2.1 _ hc) rfl (by rw [hC.2.2.1]; exact hlo.2.1) rfl hd (by show 1 ≤ d + 1; omega) (by show 2 * 0 + _ + 12 ≤ 80 * (d + 1); omega) (hk _ _ _ _ _ h.2 H locs la hW hL hlo h1 h2)
  · exact h.elim
/-- what never throws -/
theorem ex_met {Γ : Gm} {l : Launch} {sh : Sh} {d : Nat} {M : Uv} {mt : Mt} {av : List Value} {I : Iv} {E : Ev} {kr : Kr} (h : Ex Γ l sh d M mt av I E kr (fun _ _ _ => False)) :
    Met l mt.1 (Cond.code mt.1 mt.2.1 mt.2.2.1 mt.2.2.2 :: gtb) (rmd d M) (ExP Γ sh av I E) (ExQ Γ sh kr) M.1 M.2 (fun q => Γ.1.1 ≤ q) := by
  intro p e ha hc hk s m args below hf happ hP ht
  obtain ⟨n, o, h1, h2, h3, hQ⟩ := h p e ha hc hk s m args below hf happ hP ht
  refine ⟨n, o, h1, h2, h3, ?_⟩
  rcases hQ with hQ | ⟨q, -, E', ce, L, ⟨I1, E1, -, hF⟩, -⟩
  · exact hQ
  · exact hF.elim
section CallI
variable {p : Program} {l : Launch} {e : Env} {R : Room} {s : State} {m : MethodId} {args : Array Value} {below : List Frame} {meth : Method} {c : Code} {H : Heap} {locs : List Loc}
theorem calli_sound {Γ : Gm} {sh : Sh} {u : Uv} {m1 m2 : Nat} {kr' : Kr} {Q : State → Prop} {pc : Nat} {la : Array Slot} {st0 rest : List Value} {a : Array Value}
    (hr : va_Run p l e R s m args below meth c H locs u.1 u.2 m1 m2 (F0 m pc la st0) rest (ExQ Γ sh kr' a) (fun q => Γ.1.1 ≤ q)) (hL : ∀ q ∈ locs, Γ.1.1 ≤ q.base)
    (kk : ∀ (w : Option Value) (I' : Iv) (E' : Ev), kr' w I' E' → ∀ (H1 : Heap) (locs1 : List Loc), Wd Γ sh I' E' H1 → (∀ q ∈ locs1, Γ.1.1 ≤ q.base) → W p l e R s m args below meth c H1 locs1 (u.1 + m1) (u.2 + m2) Q (F0 m (pc + 3) la ((w.map (rv Γ.1)).toList ++ rest))) :
    W p l e R s m args below meth c H locs u.1 u.2 Q (F0 m pc la st0) := by
  intro T hT X
  obtain ⟨v, st₀, t, T', L, h0, X', hL', e1, e2, ⟨w, I', E', hw, hWd, hkr⟩, st⟩ := hr T hT X
  have hv : v = w.map (rv Γ.1) := Outcome.returned.inj hw
  subst hv
  obtain ⟨t2, a1, b1⟩ := kk w I' E' hkr T'.heap (locs ++ L) (by rw [e1]; exact hWd) (t_lL hL hL') T' rfl X'
  exact ⟨t2, st t2 a1, b1⟩
end CallI
def CallI (κ : Kt) (mt : Mt) (av : List Value) (I : Iv) (E : Ev) (u : Uv) (k : Iv → Ev → Uv → Prop) : Prop :=
  ∃ m1 m2 : Nat, u.1 + m1 ≤ κ.2.2.2.2.2.2.2.1.1 ∧ u.2 + m2 ≤ κ.2.2.2.2.2.2.2.1.2 ∧ Ex κ.2.2.2.1 κ.2.2.2.2.1 κ.2.2.2.2.2.1 κ.2.2.2.2.2.2.1 (m1, m2) mt av I E (fun w I' E' => w = none ∧ k I' E' (u.1 + m1, u.2 + m2)) (fun _ _ _ => False)
theorem calli_n {g : Go} {kr : Kr} {kx : Kxx} {Γ : Gm} {l : Launch} {sh : Sh} {d : Nat} {M : Uv} {ret : Option FieldType} {mt : Mt} {av : List Value} {I : Iv} {E : Ev} {u : Uv} {k : Iv → Ev → Uv → Prop} (m1 m2 : Nat) (h1 : u.1 + m1 ≤ M.1) (h2 : u.2 + m2 ≤ M.2)
    (h : Ex Γ l sh d (m1, m2) mt av I E (fun w I' E' => w = none ∧ k I' E' (u.1 + m1, u.2 + m2)) (fun _ _ _ => False)) : CallI (g, kr, kx, Γ, l, sh, d, M, ret) mt av I E u k := ⟨m1, m2, h1, h2, h⟩
def iCI0 (ix : Nat) (mt : Mt) : Ir := (fun κ ls st I E u k => match st with | .ref i :: r => r.length ≤ 4 ∧ CallI κ mt [.ref i] I E u (fun I' E' u' => k ls r I' E' u') | _ => False, (.invokespecial ix, 3), fun _ => decide ((parseMethodDescriptor mt.1.desc).map (fun d => d.parameters.length) = some 0) && decide (mt.2.2.2 = none))
theorem eCI0 {g : Go} {kr : Kr} {kx : Kxx} {Γ : Gm} {l : Launch} {sh : Sh} {d : Nat} {M : Uv} {ret : Option FieldType} {ls : Lv} {r : List Value} {I : Iv} {E : Ev} {u : Uv} {k : Lv → List Value → Iv → Ev → Uv → Prop} {ix i : Nat} {mt : Mt} : (iCI0 ix mt).1 (g, kr, kx, Γ, l, sh, d, M, ret) ls (.ref i :: r) I E u k = (r.length ≤ 4 ∧ CallI (g, kr, kx, Γ, l, sh, d, M, ret) mt [.ref i] I E u (fun I' E' u' => k ls r I' E' u')) := rfl
theorem sCI0 {own : String} {ix : Nat} {mt : Mt} (hnm : mt.1.name = "<init>") (hM : Mok mt) (hi : Cond.instanceMethod mt.1 ∈ gtb) (hl : Cond.methodLink own ix mt.1 ∈ gtb) : Snd own (iCI0 ix mt) := by
  intro p l e s m args below meth cd Γ sh d M nL cc ret go kr kx pc ls st I E u k hC hgo hd hq h hk
  simp only [iCI0] at h hq
  split at h
  · rename_i i r
    obtain ⟨hr4, m1, m2, hm1, hm2, hex⟩ := h
    intro H locs la hW hL hlo h1 h2
    simp only [Bool.and_eq_true, decide_eq_true_eq] at hq
    obtain ⟨hn, hrt⟩ := hq
    have hex' := ex_met hex
    rw [hrt] at hex'
    have hcb := hM.callB (d := d) (M := M) (m1 := m1) (m2 := m2) hC.2.2.2.2.1 hl hn
    refine calli_sound (kr' := fun w I' E' => w = none ∧ k ls r I' E' (u.1 + m1, u.2 + m2)) (va_runI (As := []) (rest := r.map (rv Γ.1)) ⟨hC.1, hC.2.1, hC.2.2.1, hC.2.2.2.1, hC.2.2.2.2.1⟩ hex' ⟨hrt ▸ hcb, hnm, hC.2.2.2.2.1 _ hi⟩
      ⟨ex_blind, fun U hU hWm => ⟨rfl, by rw [hU]; exact hW, hC.2.2.2.2.2.1.warm hWm⟩⟩ rfl rfl hlo.2.1 rfl (lv_room (Nat.le_trans (ccat r) (by omega))) hd ⟨hm1, hm2⟩) hL (fun w I' E' hk' H1 locs1 hW1 hL1 => ?_)
    obtain ⟨rfl, hk'⟩ := hk'
    exact hk _ _ _ _ _ hk' H1 locs1 la hW1 hL1 hlo hm1 hm2
  · exact h.elim
theorem sCI0N {own : String} {ix : Nat} {mt : Mt} (hnm : mt.1.name = "<init>") (hM : Mok mt) (hi : Cond.instanceMethod mt.1 ∈ gtb) (host : String) (hl : Cond.methodLinkNest own ix mt.1 host ∈ ntb) : Snd own (iCI0 ix mt) := by
  intro p l e s m args below meth cd Γ sh d M nL cc ret go kr kx pc ls st I E u k hC hgo hd hq h hk
  simp only [iCI0] at h hq
  split at h
  · rename_i i r
    obtain ⟨hr4, m1, m2, hm1, hm2, hex⟩ := h
    intro H locs la hW hL hlo h1 h2
    simp only [Bool.and_eq_true, decide_eq_true_eq] at hq
    obtain ⟨hn, hrt⟩ := hq
    have hex' := ex_met hex
    rw [hrt] at hex'
    refine calli_sound (kr' := fun w I' E' => w = none ∧ k ls r I' E' (u.1 + m1, u.2 + m2)) (va_runIN (As := []) (rest := r.map (rv Γ.1)) ⟨hC.1, hC.2.1, hC.2.2.1, hC.2.2.2.1, hC.2.2.2.2.1⟩ hex' ⟨va_cnB (Ts := gtb) (ws := Cond.code mt.1 mt.2.1 mt.2.2.1 none :: gtb) (ws' := gtb) _ hC.2.2.2.2.1 (gtb_good (hrt ▸ hM.1)) rfl rfl rfl (hC.2.2.2.2.2.1.2.2 _ hl) (hC.2.2.2.2.1 _ hM.2.1) ⟨hM.2.2.1.1, hM.2.2.1.2, hn⟩ ⟨Nat.le_refl _, by show 8 + (mt.2.2.1 + 11) + 80 * d ≤ 80 * (d + 1); have := hM.2.2.2; omega⟩, hnm, hC.2.2.2.2.1 _ hi⟩
      ⟨ex_blind, fun U hU hWm => ⟨rfl, by rw [hU]; exact hW, hC.2.2.2.2.2.1.warm hWm⟩⟩ rfl rfl hlo.2.1 rfl (lv_room (Nat.le_trans (ccat r) (by omega))) hd ⟨hm1, hm2⟩) hL (fun w I' E' hk' H1 locs1 hW1 hL1 => ?_)
    obtain ⟨rfl, hk'⟩ := hk'
    exact hk _ _ _ _ _ hk' H1 locs1 la hW1 hL1 hlo hm1 hm2
  · exact h.elim
def iCI1 (ix : Nat) (mt : Mt) : Ir := (fun κ ls st I E u k => match st with | b1 :: .ref i :: r => r.length ≤ 4 ∧ CallI κ mt [.ref i, b1] I E u (fun I' E' u' => k ls r I' E' u') | _ => False, (.invokespecial ix, 3), fun _ => decide ((parseMethodDescriptor mt.1.desc).map (fun d => d.parameters.length) = some 1) && decide (mt.2.2.2 = none))
theorem eCI1 {g : Go} {kr : Kr} {kx : Kxx} {Γ : Gm} {l : Launch} {sh : Sh} {d : Nat} {M : Uv} {ret : Option FieldType} {ls : Lv} {r : List Value} {I : Iv} {E : Ev} {u : Uv} {k : Lv → List Value → Iv → Ev → Uv → Prop} {ix i : Nat} {mt : Mt} {b1 : Value} : (iCI1 ix mt).1 (g, kr, kx, Γ, l, sh, d, M, ret) ls (b1 :: .ref i :: r) I E u k = (r.length ≤ 4 ∧ CallI (g, kr, kx, Γ, l, sh, d, M, ret) mt [.ref i, b1] I E u (fun I' E' u' => k ls r I' E' u')) := rfl
theorem sCI1 {own : String} {ix : Nat} {mt : Mt} (hnm : mt.1.name = "<init>") (hM : Mok mt) (hi : Cond.instanceMethod mt.1 ∈ gtb) (hl : Cond.methodLink own ix mt.1 ∈ gtb) : Snd own (iCI1 ix mt) := by
  intro p l e s m args below meth cd Γ sh d M nL cc ret go kr kx pc ls st I E u k hC hgo hd hq h hk
  simp only [iCI1] at h hq
  split at h
  · rename_i b1 i r
    obtain ⟨hr4, m1, m2, hm1, hm2, hex⟩ := h
    intro H locs la hW hL hlo h1 h2
    simp only [Bool.and_eq_true, decide_eq_true_eq] at hq
    obtain ⟨hn, hrt⟩ := hq
    have hex' := ex_met hex
    rw [hrt] at hex'
    have hcb := hM.callB (d := d) (M := M) (m1 := m1) (m2 := m2) hC.2.2.2.2.1 hl hn
    refine calli_sound (kr' := fun w I' E' => w = none ∧ k ls r I' E' (u.1 + m1, u.2 + m2)) (va_runI (As := [rv Γ.1 b1]) (rest := r.map (rv Γ.1)) ⟨hC.1, hC.2.1, hC.2.2.1, hC.2.2.2.1, hC.2.2.2.2.1⟩ hex' ⟨hrt ▸ hcb, hnm, hC.2.2.2.2.1 _ hi⟩
      ⟨ex_blind, fun U hU hWm => ⟨rfl, by rw [hU]; exact hW, hC.2.2.2.2.2.1.warm hWm⟩⟩ rfl rfl hlo.2.1 rfl (lv_room (Nat.le_trans (ccat r) (by omega))) hd ⟨hm1, hm2⟩) hL (fun w I' E' hk' H1 locs1 hW1 hL1 => ?_)
    obtain ⟨rfl, hk'⟩ := hk'
    exact hk _ _ _ _ _ hk' H1 locs1 la hW1 hL1 hlo hm1 hm2
  · exact h.elim
theorem sCI1N {own : String} {ix : Nat} {mt : Mt} (hnm : mt.1.name = "<init>") (hM : Mok mt) (hi : Cond.instanceMethod mt.1 ∈ gtb) (host : String) (hl : Cond.methodLinkNest own ix mt.1 host ∈ ntb) : Snd own (iCI1 ix mt) := by
  intro p l e s m args below meth cd Γ sh d M nL cc ret go kr kx pc ls st I E u k hC hgo hd hq h hk
  simp only [iCI1] at h hq
  split at h
  · rename_i b1 i r
    obtain ⟨hr4, m1, m2, hm1, hm2, hex⟩ := h
    intro H locs la hW hL hlo h1 h2
    simp only [Bool.and_eq_true, decide_eq_true_eq] at hq
    obtain ⟨hn, hrt⟩ := hq
    have hex' := ex_met hex
    rw [hrt] at hex'
    refine calli_sound (kr' := fun w I' E' => w = none ∧ k ls r I' E' (u.1 + m1, u.2 + m2)) (va_runIN (As := [rv Γ.1 b1]) (rest := r.map (rv Γ.1)) ⟨hC.1, hC.2.1, hC.2.2.1, hC.2.2.2.1, hC.2.2.2.2.1⟩ hex' ⟨va_cnB (Ts := gtb) (ws := Cond.code mt.1 mt.2.1 mt.2.2.1 none :: gtb) (ws' := gtb) _ hC.2.2.2.2.1 (gtb_good (hrt ▸ hM.1)) rfl rfl rfl (hC.2.2.2.2.2.1.2.2 _ hl) (hC.2.2.2.2.1 _ hM.2.1) ⟨hM.2.2.1.1, hM.2.2.1.2, hn⟩ ⟨Nat.le_refl _, by show 8 + (mt.2.2.1 + 11) + 80 * d ≤ 80 * (d + 1); have := hM.2.2.2; omega⟩, hnm, hC.2.2.2.2.1 _ hi⟩
      ⟨ex_blind, fun U hU hWm => ⟨rfl, by rw [hU]; exact hW, hC.2.2.2.2.2.1.warm hWm⟩⟩ rfl rfl hlo.2.1 rfl (lv_room (Nat.le_trans (ccat r) (by omega))) hd ⟨hm1, hm2⟩) hL (fun w I' E' hk' H1 locs1 hW1 hL1 => ?_)
    obtain ⟨rfl, hk'⟩ := hk'
    exact hk _ _ _ _ _ hk' H1 locs1 la hW1 hL1 hlo hm1 hm2
  · exact h.elim
def iCI2 (ix : Nat) (mt : Mt) : Ir := (fun κ ls st I E u k => match st with | b2 :: b1 :: .ref i :: r => r.length ≤ 4 ∧ CallI κ mt [.ref i, b1, b2] I E u (fun I' E' u' => k ls r I' E' u') | _ => False, (.invokespecial ix, 3), fun _ => decide ((parseMethodDescriptor mt.1.desc).map (fun d => d.parameters.length) = some 2) && decide (mt.2.2.2 = none))
theorem eCI2 {g : Go} {kr : Kr} {kx : Kxx} {Γ : Gm} {l : Launch} {sh : Sh} {d : Nat} {M : Uv} {ret : Option FieldType} {ls : Lv} {r : List Value} {I : Iv} {E : Ev} {u : Uv} {k : Lv → List Value → Iv → Ev → Uv → Prop} {ix i : Nat} {mt : Mt} {b1 b2 : Value} : (iCI2 ix mt).1 (g, kr, kx, Γ, l, sh, d, M, ret) ls (b2 :: b1 :: .ref i :: r) I E u k = (r.length ≤ 4 ∧ CallI (g, kr, kx, Γ, l, sh, d, M, ret) mt [.ref i, b1, b2] I E u (fun I' E' u' => k ls r I' E' u')) := rfl
theorem sCI2 {own : String} {ix : Nat} {mt : Mt} (hnm : mt.1.name = "<init>") (hM : Mok mt) (hi : Cond.instanceMethod mt.1 ∈ gtb) (hl : Cond.methodLink own ix mt.1 ∈ gtb) : Snd own (iCI2 ix mt) := by
  intro p l e s m args below meth cd Γ sh d M nL cc ret go kr kx pc ls st I E u k hC hgo hd hq h hk
  simp only [iCI2] at h hq
  split at h
  · rename_i b2 b1 i r
    obtain ⟨hr4, m1, m2, hm1, hm2, hex⟩ := h
    intro H locs la hW hL hlo h1 h2
    simp only [Bool.and_eq_true, decide_eq_true_eq] at hq
    obtain ⟨hn, hrt⟩ := hq
    have hex' := ex_met hex
    rw [hrt] at hex'
    have hcb := hM.callB (d := d) (M := M) (m1 := m1) (m2 := m2) hC.2.2.2.2.1 hl hn
    refine calli_sound (kr' := fun w I' E' => w = none ∧ k ls r I' E' (u.1 + m1, u.2 + m2)) (va_runI (As := [rv Γ.1 b1, rv Γ.1 b2]) (rest := r.map (rv Γ.1)) ⟨hC.1, hC.2.1, hC.2.2.1, hC.2.2.2.1, hC.2.2.2.2.1⟩ hex' ⟨hrt ▸ hcb, hnm, hC.2.2.2.2.1 _ hi⟩
      ⟨ex_blind, fun U hU hWm => ⟨rfl, by rw [hU]; exact hW, hC.2.2.2.2.2.1.warm hWm⟩⟩ rfl rfl hlo.2.1 rfl (lv_room (Nat.le_trans (ccat r) (by omega))) hd ⟨hm1, hm2⟩) hL (fun w I' E' hk' H1 locs1 hW1 hL1 => ?_)
    obtain ⟨rfl, hk'⟩ := hk'
    exact hk _ _ _ _ _ hk' H1 locs1 la hW1 hL1 hlo hm1 hm2
  · exact h.elim
theorem sCI2N {own : String} {ix : Nat} {mt : Mt} (hnm : mt.1.name = "<init>") (hM : Mok mt) (hi : Cond.instanceMethod mt.1 ∈ gtb) (host : String) (hl : Cond.methodLinkNest own ix mt.1 host ∈ ntb) : Snd own (iCI2 ix mt) := by
  intro p l e s m args below meth cd Γ sh d M nL cc ret go kr kx pc ls st I E u k hC hgo hd hq h hk
  simp only [iCI2] at h hq
  split at h
  · rename_i b2 b1 i r
    obtain ⟨hr4, m1, m2, hm1, hm2, hex⟩ := h
    intro H locs la hW hL hlo h1 h2
    simp only [Bool.and_eq_true, decide_eq_true_eq] at hq
    obtain ⟨hn, hrt⟩ := hq
    have hex' := ex_met hex
    rw [hrt] at hex'
    refine calli_sound (kr' := fun w I' E' => w = none ∧ k ls r I' E' (u.1 + m1, u.2 + m2)) (va_runIN (As := [rv Γ.1 b1, rv Γ.1 b2]) (rest := r.map (rv Γ.1)) ⟨hC.1, hC.2.1, hC.2.2.1, hC.2.2.2.1, hC.2.2.2.2.1⟩ hex' ⟨va_cnB (Ts := gtb) (ws := Cond.code mt.1 mt.2.1 mt.2.2.1 none :: gtb) (ws' := gtb) _ hC.2.2.2.2.1 (gtb_good (hrt ▸ hM.1)) rfl rfl rfl (hC.2.2.2.2.2.1.2.2 _ hl) (hC.2.2.2.2.1 _ hM.2.1) ⟨hM.2.2.1.1, hM.2.2.1.2, hn⟩ ⟨Nat.le_refl _, by show 8 + (mt.2.2.1 + 11) + 80 * d ≤ 80 * (d + 1); have := hM.2.2.2; omega⟩, hnm, hC.2.2.2.2.1 _ hi⟩
      ⟨ex_blind, fun U hU hWm => ⟨rfl, by rw [hU]; exact hW, hC.2.2.2.2.2.1.warm hWm⟩⟩ rfl rfl hlo.2.1 rfl (lv_room (Nat.le_trans (ccat r) (by omega))) hd ⟨hm1, hm2⟩) hL (fun w I' E' hk' H1 locs1 hW1 hL1 => ?_)
    obtain ⟨rfl, hk'⟩ := hk'
    exact hk _ _ _ _ _ hk' H1 locs1 la hW1 hL1 hlo hm1 hm2
  · exact h.elim
/-- the heap has grown by what nobody looks at -/
theorem Wd.grow {Γ : Gm} {sh : Sh} {I : Iv} {E : Ev} {H H' : Heap} (h : Wd Γ sh I E H) (hs : H.size ≤ H'.size) (ho : ∀ q, q < H.size → H'[q]? = H[q]?) : Wd Γ sh I (unE E) H' := by
  have hu := h.un
  obtain ⟨⟨k1, k2, k3⟩, h2, h3, h4⟩ := hu
  refine ⟨⟨by omega, k2, Or.inl (show (if (999999 : Nat) = 999999 then 0 else E.2.2 999999) = 0 from if_pos rfl)⟩, fun q hq => ⟨by rw [ho q (low_lt k1 hq (h2 q hq).1)]; exact (h2 q hq).1, (h2 q hq).2⟩, h3, fun i hi => ⟨(h4 i hi).1, ?_⟩⟩
  have hlt := h.un.lt hi
  have h5 := (h4 i hi).2
  unfold ck at h5 ⊢
  by_cases ht : tyc sh (unE E) i < 100
  · rw [if_pos ht] at h5 ⊢
    obtain ⟨r, h6, h7⟩ := h5
    exact ⟨r, h6, h7.kept (ho _ hlt)⟩
  · rw [if_neg ht] at h5 ⊢
    rw [ho _ hlt]
    exact h5
/-- a contract of a body that throws at the place pT -/
theorem ex_ofT {Γ : Gm} {l : Launch} {sh : Sh} {d : Nat} {M : Uv} {mt : Mt} {av : List Value} {I : Iv} {E : Ev} {kr : Kr} {kx : Kxx} (tb : Tb) (hy : plainName mt.1.cls = true) (hT : ∀ q ∈ tb, Bok mt.1.cls mt.2.1 q)
    (hav : (av.all fun v => decide (v.category = 1)) = true) (hn : av.length ≤ mt.2.2.1) {ls0 : Lv} (hls : av.map some ++ List.replicate (mt.2.2.1 - av.length) none = ls0) (pT : Nat) (P : Iv → Ev → Uv → Prop)
    (hth : ∀ (p : Program) (e : Env) (s : State) (m : MethodId) (args : Array Value) (below : List Frame) (meth : Method) (c : Code), Cx p s m args meth c mt.1.cls Γ mt.2.2.1 mt.2.1 mt.2.2.2 → (∀ q, q < Γ.1.1 → s.heap[q]? = Γ.2.1[q]?) → ∀ ls I E u, P I E u → Zj p l e s m args below meth c Γ sh d M mt.2.2.1 kr kx pT ls [] I E u)
    (body : ∀ go : Go, (∀ (n : Nat) (ct : List Nat) (pc : Nat) (ls : Lv) (st : List Value) (I : Iv) (E : Ev) (u : Uv), (match tbf tb pc with
        | some b => bx (run tb (go, kr, kx, Γ, l, sh, d, M, mt.2.2.2) ct n, kr, kx, Γ, l, sh, d, M, mt.2.2.2) b.1 b.2 ls st I E u
        | none => False) → go pc ls st I E u) → (∀ ls I E u, P I E u → go pT ls [] I E u) → go 0 ls0 [] I E (0, 0)) : Ex Γ l sh (d + 1) M mt av I E kr kx := by
  refine vx_ofW (cc := mt.2.1) (maxL := mt.2.2.1) (ret := mt.2.2.2) hy rfl ?_
  intro p e s m args below meth c s₁ B hml hex hv
  obtain ⟨rfl, hW, hK⟩ := hv
  have hts := atoms_spec (ws := Cond.code mt.1 mt.2.1 mt.2.2.1 mt.2.2.2 :: gtb) B.pre
  have hC : Cx p s m (av.map (rv Γ.1)).toArray meth c mt.1.cls Γ mt.2.2.1 mt.2.1 mt.2.2.2 := ⟨B.exec, B.bytes, hml, findClass_of_methodNamed B.named, fun w hw => hts w (List.mem_cons_of_mem _ hw), hK, B.returns, B.notSynchronized, hex, rfl⟩
  have key := body (Zj p l e s m (av.map (rv Γ.1)).toArray below meth c Γ sh d M mt.2.2.1 kr kx) (fun n ct pc ls st I E u h => by
    split at h
    · rename_i b hb
      obtain ⟨h1, h2⟩ := tbf_ok hT hb
      exact bx_sound hC (run_sound hC hT (fun _ _ _ _ _ _ h => h) ct n) b.1 pc ls st I E u h1 h2 h
    · exact h.elim) (fun ls I E u hP => hth p e s m _ below meth c hC (fun q hq => (hW.2.1 q (Or.inl hq)).1) ls I E u hP)
  obtain ⟨hlen, hlok⟩ := lok_0 (B := Γ.1) hav hn hls
  rw [lg_entry_eq]
  exact key s.heap [] _ hW (fun q h => by cases h) hlok (Nat.zero_le _) (Nat.zero_le _)
theorem sr_at {own tx : String} {k : Nat} {s : State} {m : MethodId} (hown : s.vm.findClass own = some m.cls) (h : va_Nw (.stringRef own k tx) s) : ∃ a, vk_R own k tx a s := by
  obtain ⟨k1, cf, j, a, -, -, -, -, -, hev⟩ := Cond.stringRef_spec hown h
  exact ⟨a, h, hev⟩
/-- 'throw new cls(text)' at pc -/
theorem zj_throw {p : Program} {l : Launch} {e : Env} {s : State} {m : MethodId} {args : Array Value} {below : List Frame} {meth : Method} {c : Code} {own : String} {Γ : Gm} {sh : Sh} {d : Nat} {M : Uv} {nL : Nat} {cc : ByteArray} {ret : Option FieldType} {kr : Kr} {kx : Kxx} {pc ik is ic : Nat} {cls text : String} {names : List String}
    (hG : GW Γ) (hl : l.stackTraces = false) (hC : Cx p s m args meth c own Γ nL cc ret) (hs0 : ∀ q, q < Γ.1.1 → s.heap[q]? = Γ.2.1[q]?) (hcls : Bundle.fit cls = true) (hnames : ∀ n ∈ names, Bundle.fit n = true)
    (hk : Cond.classLink own ik cls ∈ gtb) (hini : Cond.initialized cls ∈ gtb) (hstr : Cond.stringRef own is text ∈ ntb) (ps : List Nat) (hps : (vx_atS own ic cls names).filter goodWord = ps.filterMap (fun i => lw_tbl[i]?)) (hca : Cond.castable cls cls ∈ ntb)
    (hot : ∀ w ∈ (vx_atS own ic cls names).filter (fun w => !goodWord w), w ∈ [Cond.castable cls cls])
    (hgood : ((Cond.classLink own ik cls :: Cond.initialized cls :: vx_atS own ic cls names).all vx_ot) = true)
    (d0 : decode cc pc = .ok (.new ik, 3)) (d3 : decode cc (pc + 3) = .ok (.dup, 1)) (d4 : decode cc (pc + 4) = .ok (.ldc is, 2)) (d6 : decode cc (pc + 6) = .ok (.invokespecial ic, 3)) (d9 : decode cc (pc + 9) = .ok (.athrow, 1))
    (hnl : names.length ≤ 3) (hd : 7 ≤ d) {ls : Lv} {I : Iv} {E : Ev} {u : Uv} (h1 : u.1 + 1 ≤ M.1) (h2 : u.2 + 6 ≤ M.2) (h : kx cls I (unE E)) : Zj p l e s m args below meth c Γ sh d M nL kr kx pc ls [] I E u := by
  intro H locs la hW hL hlo _ _ T hT X
  have hz := hG s (hC.2.2.2.2.2.1.2.1 s (Vm.Alike.refl s.vm) hs0)
  obtain ⟨sa, hsa⟩ := sr_at hC.2.2.2.1 (hC.2.2.2.2.2.1.2.2 _ hstr)
  have hf := vx_frame (U := T) X.same
  have hS : va_S (fun q => Γ.1.1 ≤ q) s.heap H locs := by
    refine ⟨by rw [← hT]; exact hf.1, fun q _ hq => ?_, hL⟩
    have hq' : q < Γ.1.1 := by omega
    rw [hs0 q hq', (hW.2.1 q (Or.inl hq')).1]
  refine vx_throwS (own := own) (cls := cls) (text := text) (names := names) (ik := ik) (is := is) (ic := ic) (sa := sa) (A := fun q => Γ.1.1 ≤ q) (rest := []) hC.1 hC.2.1 hl hC.2.2.2.1 hcls hnames (hC.2.2.2.2.1 _ hk) (hC.2.2.2.2.1 _ hini) hsa ?_ (fun w hw => List.all_eq_true.mp hgood w hw) hz.2.2.2.2.2.1 hz.2.2.2.2.2.2.1 hS (by rw [hC.2.2.1]; exact hlo.2.1) d0 d3 d4 d6 d9 (fun x hx => (hC.2.2.2.2.2.2.2.2.1 x hx).elim) (by show _ + 3 < d + 1; omega) (by show 0 + (13 * (names.length + 1) + 43) ≤ 80 * (d + 1); omega) h1 h2 hC.2.2.2.2.2.2.2.1 (fun t _ ht ho => ⟨I, unE E, hW.grow ht ho, h⟩) hL h1 h2 T hT X
  refine vx_hat (fun w hw => ?_) hot (fun w hw => ?_)
  · refine hC.2.2.2.2.1 w ?_
    have hg := (List.mem_filter.mp hw).2
    rw [hps] at hw
    obtain ⟨i, -, hi⟩ := List.mem_filterMap.mp hw
    exact gtb_mem i hi hg
  · rw [List.mem_singleton.mp hw]
    exact va_Nw.use rfl (hC.2.2.2.2.2.1.2.2 _ hca)
def mxI (x y : Int32) : Int32 := if x < y then y else x
def miI (x y : Int32) : Int32 := if y < x then y else x
theorem mxI_n {a b : Nat} (ha : a < 2147483648) (hb : b < 2147483648) : mxI (nI a) (nI b) = nI (max a b) := by
  unfold mxI
  by_cases c : a < b
  · rw [if_pos (nI_lt c hb), show max a b = b by omega]
  · rw [if_neg (nI_nlt (by omega) ha), show max a b = a by omega]
theorem miI_n {a b : Nat} (ha : a < 2147483648) (hb : b < 2147483648) : miI (nI a) (nI b) = nI (min a b) := by
  unfold miI
  by_cases c : b < a
  · rw [if_pos (nI_lt c ha), show min a b = b by omega]
  · rw [if_neg (nI_nlt (by omega) hb), show min a b = a by omega]
def iMAX (ix : Nat) : Ir := (fun κ ls st I E u k => match st with | .int y :: .int x :: r => r.length ≤ 4 ∧ k ls (.int (mxI x y) :: r) I E u | _ => False, (.invokestatic ix, 3), fun _ => true)
theorem eMAX {g : Go} {kr : Kr} {kx : Kxx} {Γ : Gm} {l : Launch} {sh : Sh} {d : Nat} {M : Uv} {ret : Option FieldType} {ls : Lv} {r : List Value} {I : Iv} {E : Ev} {u : Uv} {k : Lv → List Value → Iv → Ev → Uv → Prop} {ix : Nat} {x y : Int32} : (iMAX ix).1 (g, kr, kx, Γ, l, sh, d, M, ret) ls (.int y :: .int x :: r) I E u k = (r.length ≤ 4 ∧ k ls (.int (mxI x y) :: r) I E u) := rfl
theorem sMAX {own : String} {ix : Nat} (hl : Cond.methodLink own ix Lib.Math.max.name ∈ gtb) (hs : Cond.static Lib.Math.max.name ∈ gtb) (hi : Cond.initialized "java/lang/Math" ∈ gtb) (hc : Cond.code Lib.Math.max.name Lib.Math.max.code 2 (some .int) ∈ gtb) : Snd own (iMAX ix) := by
  intro p l e s m args below meth cd Γ sh d M nL cc ret go kr kx pc ls st I E u k hC hgo hd hq h hk
  simp only [iMAX] at h
  split at h
  · rename_i y x r
    intro H locs la hW hL hlo h1 h2
    have := ccat (B := Γ.1) r
    have h4 := h.1
    exact va_mmax hC.1 hC.2.1 (hC.2.2.1.trans hlo.2.1.symm) hC.2.2.2.1 (hC.2.2.2.2.1 _ hl) (hC.2.2.2.2.1 _ hs) (hC.2.2.2.2.1 _ hi) (hC.2.2.2.2.1 _ hc) (by show 1 ≤ d + 1; omega) (by show _ + 13 ≤ 80 * (d + 1); omega) h1 h2 hd (hk _ _ _ _ _ h.2 H locs la hW hL hlo h1 h2)
  · exact h.elim
def iMIN (ix : Nat) : Ir := (fun κ ls st I E u k => match st with | .int y :: .int x :: r => r.length ≤ 4 ∧ k ls (.int (miI x y) :: r) I E u | _ => False, (.invokestatic ix, 3), fun _ => true)
theorem eMIN {g : Go} {kr : Kr} {kx : Kxx} {Γ : Gm} {l : Launch} {sh : Sh} {d : Nat} {M : Uv} {ret : Option FieldType} {ls : Lv} {r : List Value} {I : Iv} {E : Ev} {u : Uv} {k : Lv → List Value → Iv → Ev → Uv → Prop} {ix : Nat} {x y : Int32} : (iMIN ix).1 (g, kr, kx, Γ, l, sh, d, M, ret) ls (.int y :: .int x :: r) I E u k = (r.length ≤ 4 ∧ k ls (.int (miI x y) :: r) I E u) := rfl
theorem sMIN {own : String} {ix : Nat} (hl : Cond.methodLink own ix Lib.Math.min.name ∈ gtb) (hs : Cond.static Lib.Math.min.name ∈ gtb) (hi : Cond.initialized "java/lang/Math" ∈ gtb) (hc : Cond.code Lib.Math.min.name Lib.Math.min.code 2 (some .int) ∈ gtb) : Snd own (iMIN ix) := by
  intro p l e s m args below meth cd Γ sh d M nL cc ret go kr kx pc ls st I E u k hC hgo hd hq h hk
  simp only [iMIN] at h
  split at h
  · rename_i y x r
    intro H locs la hW hL hlo h1 h2
    have := ccat (B := Γ.1) r
    have h4 := h.1
    exact va_mmin hC.1 hC.2.1 (hC.2.2.1.trans hlo.2.1.symm) hC.2.2.2.1 (hC.2.2.2.2.1 _ hl) (hC.2.2.2.2.1 _ hs) (hC.2.2.2.2.1 _ hi) (hC.2.2.2.2.1 _ hc) (by show 1 ≤ d + 1; omega) (by show _ + 13 ≤ 80 * (d + 1); omega) h1 h2 hd (hk _ _ _ _ _ h.2 H locs la hW hL hlo h1 h2)
  · exact h.elim
