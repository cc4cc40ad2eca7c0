/-! THE ENGINE, 5: words of the class: statics, references compared, rows copied -/
/-- the words' names, what they ask for, whether a clause begins with them, their texts -/
def wnl : List String := ["MINT", "RUE", "SAGE", "WATER", "DAY", "PUT", "SPRING", "VILLAGE", "CHANNEL", "TAP", "LEAK", "LAG", "FROG", "FILTER", "FEAST", "IF", "OR", "AND", "NOT", "OTHER"]
def wtl : List (List Int32) := [[109, 105, 110, 116], [114, 117, 101], [115, 97, 103, 101], [119, 97, 116, 101, 114], [100, 97, 121], [112, 117, 116], [115, 112, 114, 105, 110, 103], [118, 105, 108, 108, 97, 103, 101], [99, 104, 97, 110, 110, 101, 108], [116, 97, 112], [108, 101, 97, 107], [108, 97, 103], [102, 114, 111, 103], [102, 105, 108, 116, 101, 114], [102, 101, 97, 115, 116], [105, 102], [111, 114], [97, 110, 100], [110, 111, 116], []]
def wnm (k : Nat) : String := wnl.getD k ""
def wak (k : Nat) : Int32 := if k < 7 then nI k else -1
def wbc (k : Nat) : Int32 := if 6 ≤ k ∧ k ≤ 14 then nI 1 else nI 0
def wtx (k : Nat) : List Int32 := wtl.getD k []
/-- a word's address, its text's, that one's row -/
def wad (Γ : Gm) (k : Nat) : Nat := Γ.2.2.2.2.1 (200 + k)
def wst' (Γ : Gm) (k : Nat) : Nat := Γ.2.2.2.2.1 (300 + k)
def wsv (Γ : Gm) (k : Nat) : Nat := Γ.2.2.2.2.1 (400 + k)
def wAL (Γ : Gm) : Nat := Γ.2.2.2.2.1 500
abbrev wdD : String := "LHerbWaters$Word;"
abbrev wdC : String := "HerbWaters$Word"
def WZ (Γ : Gm) (U : State) : Prop :=
  (∀ k, k < 20 → va_Z wdC (wnm k) wdD (.ref (wad Γ k)) (fun q => Γ.1.1 ≤ q) U U.heap ∧ va_OF wdC "asked" "I" (.int (wak k)) (wad Γ k) (fun q => Γ.1.1 ≤ q) U U.heap ∧ va_OF wdC "beginsClause" "Z" (.int (wbc k)) (wad Γ k) (fun q => Γ.1.1 ≤ q) U U.heap ∧ va_OF wdC "text" "Ljava/lang/String;" (.ref (wst' Γ k)) (wad Γ k) (fun q => Γ.1.1 ≤ q) U U.heap ∧ va_O wdC (wad Γ k) (fun q => Γ.1.1 ≤ q) U U.heap) ∧
  (∀ i j, i < 20 → j < 20 → wad Γ i = wad Γ j → i = j) ∧ va_Z wdC "ALL" "[LHerbWaters$Word;" (.ref (wAL Γ)) (fun q => Γ.1.1 ≤ q) U U.heap ∧ va_T (.object wdC) (wAL Γ) 20 (fun j => .ref (wad Γ j)) (fun q => Γ.1.1 ≤ q) U U.heap ∧
  vk_S 20 (wtl.map List.length) wtl (wst' Γ) (wsv Γ) (fun q => Γ.1.1 ≤ q) U U.heap ∧
  vx_Zq Bundle.tN "UNASSIGNED_STACK" Bundle.steD (fun q => Γ.1.1 ≤ q) U U.heap ∧ vx_Zq Bundle.tN "SUPPRESSED_SENTINEL" Bundle.listD (fun q => Γ.1.1 ≤ q) U U.heap ∧
  va_Z "java/lang/String" "COMPACT_STRINGS" "Z" (.int 1) (fun q => Γ.1.1 ≤ q) U U.heap ∧ va_Zq "jdk/internal/util/Preconditions" "SIOOBE_FORMATTER" "Ljava/util/function/BiFunction;" (fun q => Γ.1.1 ≤ q) U U.heap ∧
  va_AO "HerbWaters$Days" U ∧ va_AO "HerbWaters$Opinion" U ∧ va_Nw (.arrayOver (.array .int)) U
def GW (Γ : Gm) : Prop := ∀ U, Γ.2.2.2.2.2 U → WZ Γ U
/-- a word as a reference -/
abbrev wrf (Γ : Gm) (k : Nat) : Nat := 1000000 + wad Γ k
theorem wrf_ad {Γ : Gm} {k : Nat} {B : Nat × Nat} : ad B (wrf Γ k) = wad Γ k := by
  unfold ad wrf
  rw [if_neg (by omega), if_neg (by omega)]
  omega
theorem wz_at {Γ : Gm} {sh : Sh} {I : Iv} {E : Ev} {H : Heap} {s : State} (hG : GW Γ) (hK : Kn Γ s) (hW : Wd Γ sh I E H) : WZ Γ ({ s with heap := H } : State) := hG _ (hK.2.1 _ (Vm.Alike.refl s.vm) (fun q hq => (hW.2.1 q (Or.inl hq)).1))
def iGS (ix w : Nat) : Ir := (fun κ ls st I E u k => GW κ.2.2.2.1 ∧ k ls (.ref (wrf κ.2.2.2.1 w) :: st) I E u, (.getstatic ix, 3), fun _ => decide (w < 20))
theorem eGS {g : Go} {kr : Kr} {kx : Kxx} {Γ : Gm} {l : Launch} {sh : Sh} {d : Nat} {M : Uv} {ret : Option FieldType} {ls : Lv} {r : List Value} {I : Iv} {E : Ev} {u : Uv} {k : Lv → List Value → Iv → Ev → Uv → Prop} {ix w : Nat} : (iGS ix w).1 (g, kr, kx, Γ, l, sh, d, M, ret) ls r I E u k = (GW Γ ∧ k ls (.ref (wrf Γ w) :: r) I E u) := rfl
theorem sGS {own : String} {ix w : Nat} (hw : Cond.fieldLink own ix wdC (wnm w) wdD ∈ gtb) : Snd own (iGS ix w) := by
  intro p l e s m args below meth c Γ sh d M nL cc ret go kr kx pc ls st I E u k hC hgo hd hq h hk
  simp only [iGS, decide_eq_true_eq] at h hq
  intro H locs la hW hL hlo h1 h2
  have hz := ((wz_at h.1 hC.2.2.2.2.2.1 hW).1 w hq).1
  obtain ⟨cf, kf, fi, f, a, cell, q1, q2, q3, q4, q5, q6, q7, q8⟩ := va_Z.moved (U := s) (Vm.Alike.refl s.vm) hz
  have hk' := hk _ _ _ _ _ h.2 H locs la hW hL hlo h1 h2
  rw [List.map_cons, show rv Γ.1 (.ref (wrf Γ w)) = .ref (ad Γ.1 (wrf Γ w)) from rfl, wrf_ad] at hk'
  exact W.gets hC.1 hC.2.1 hC.2.2.2.1 (hC.2.2.2.2.1 _ hw) q1 q2 q3 q4 q5 (fun e => by rw [e] at q6; cases q6) q7 rfl hd hk'
def iAL (ix : Nat) : Ir := (fun κ ls st I E u k => GW κ.2.2.2.1 ∧ k ls (.ref (1000000 + wAL κ.2.2.2.1) :: st) I E u, (.getstatic ix, 3), fun _ => true)
theorem eAL {g : Go} {kr : Kr} {kx : Kxx} {Γ : Gm} {l : Launch} {sh : Sh} {d : Nat} {M : Uv} {ret : Option FieldType} {ls : Lv} {r : List Value} {I : Iv} {E : Ev} {u : Uv} {k : Lv → List Value → Iv → Ev → Uv → Prop} {ix : Nat} : (iAL ix).1 (g, kr, kx, Γ, l, sh, d, M, ret) ls r I E u k = (GW Γ ∧ k ls (.ref (1000000 + wAL Γ) :: r) I E u) := rfl
theorem ad_far {B : Nat × Nat} {a : Nat} : ad B (1000000 + a) = a := by
  unfold ad
  rw [if_neg (by omega), if_neg (by omega)]
  omega
theorem sAL {own : String} {ix : Nat} (hw : Cond.fieldLinkNest own ix wdC "ALL" "[LHerbWaters$Word;" "HerbWaters" ∈ ntb) : Snd own (iAL ix) := by
  intro p l e s m args below meth c Γ sh d M nL cc ret go kr kx pc ls st I E u k hC hgo hd hq h hk
  simp only [iAL] at h
  intro H locs la hW hL hlo h1 h2
  have hz := (wz_at h.1 hC.2.2.2.2.2.1 hW).2.2.1
  obtain ⟨cf, kf, fi, f, a, cell, q1, q2, q3, q4, q5, q6, q7, q8⟩ := va_Z.moved (U := s) (Vm.Alike.refl s.vm) hz
  have hk' := hk _ _ _ _ _ h.2 H locs la hW hL hlo h1 h2
  rw [List.map_cons, show rv Γ.1 (.ref (1000000 + wAL Γ)) = .ref (ad Γ.1 (1000000 + wAL Γ)) from rfl, ad_far] at hk'
  exact va_WgetsN hC.1 hC.2.1 hC.2.2.2.1 (va_Nw.use rfl (hC.2.2.2.2.2.1.2.2 _ hw)) q1 q2 q3 q4 q5 (fun e => by rw [e] at q6; cases q6) q7 rfl hd hk'
/-- a word's own fields: of a word that is known -/
def wfv (Γ : Gm) (fd w : Nat) : Value := if fd = 0 then .int (wak w) else if fd = 1 then .int (wbc w) else .ref (1000000 + wst' Γ w)
def wfn (fd : Nat) : String × String := if fd = 0 then ("asked", "I") else if fd = 1 then ("beginsClause", "Z") else ("text", "Ljava/lang/String;")
def iGW (ix fd : Nat) : Ir := (fun κ ls st I E u k => match st with | .ref i :: r => GW κ.2.2.2.1 ∧ ∃ w, w < 20 ∧ i = wrf κ.2.2.2.1 w ∧ k ls (wfv κ.2.2.2.1 fd w :: r) I E u | _ => False, (.getfield ix, 3), fun _ => decide (fd < 3))
theorem eGW {g : Go} {kr : Kr} {kx : Kxx} {Γ : Gm} {l : Launch} {sh : Sh} {d : Nat} {M : Uv} {ret : Option FieldType} {ls : Lv} {r : List Value} {I : Iv} {E : Ev} {u : Uv} {k : Lv → List Value → Iv → Ev → Uv → Prop} {ix fd i : Nat} : (iGW ix fd).1 (g, kr, kx, Γ, l, sh, d, M, ret) ls (.ref i :: r) I E u k = (GW Γ ∧ ∃ w, w < 20 ∧ i = wrf Γ w ∧ k ls (wfv Γ fd w :: r) I E u) := rfl
theorem sGW {own : String} {ix fd : Nat} (host : String) (hw : Cond.fieldLinkNest own ix wdC (wfn fd).1 (wfn fd).2 host ∈ ntb) : Snd own (iGW ix fd) := by
  intro p l e s m args below meth c Γ sh d M nL cc ret go kr kx pc ls st I E u k hC hgo hd hq h hk
  simp only [iGW, decide_eq_true_eq] at h hq
  split at h
  · rename_i i r
    obtain ⟨hG, w, hw20, rfl, h⟩ := h
    intro H locs la hW hL hlo h1 h2
    have hz := (wz_at hG hC.2.2.2.2.2.1 hW).1 w hw20
    have hk' := hk _ _ _ _ _ h H locs la hW hL hlo h1 h2
    have hof : va_OF wdC (wfn fd).1 (wfn fd).2 (rv Γ.1 (wfv Γ fd w)) (wad Γ w) (fun q => Γ.1.1 ≤ q) ({ s with heap := H } : State) H := by
      have e3 : fd = 0 ∨ fd = 1 ∨ fd = 2 := by omega
      rcases e3 with rfl | rfl | rfl
      · exact hz.2.1
      · exact hz.2.2.1
      · have : rv Γ.1 (wfv Γ 2 w) = .ref (wst' Γ w) := by
          show Value.ref (ad Γ.1 (1000000 + wst' Γ w)) = _
          rw [ad_far]
        rw [this]
        exact hz.2.2.2.1
    obtain ⟨cf, kf, fi, f, cell, q1, q2, q3, q4, q5, q6⟩ := va_OF.moved (U := s) (Vm.Alike.refl s.vm) hof
    rw [List.map_cons, show rv Γ.1 (.ref (wrf Γ w)) = .ref (ad Γ.1 (wrf Γ w)) from rfl, wrf_ad]
    exact va_Wgetf hC.1 hC.2.1 hC.2.2.2.1 (va_Nw.use rfl (hC.2.2.2.2.2.1.2.2 _ hw)) q1 q2 q3 q4 q5 rfl rfl hd hk'
  · exact h.elim
/-- its own class reads them without a nest -/
theorem sGWo {own : String} {ix fd : Nat} (hw : Cond.fieldLink own ix wdC (wfn fd).1 (wfn fd).2 ∈ gtb) : Snd own (iGW ix fd) := by
  intro p l e s m args below meth c Γ sh d M nL cc ret go kr kx pc ls st I E u k hC hgo hd hq h hk
  simp only [iGW, decide_eq_true_eq] at h hq
  split at h
  · rename_i i r
    obtain ⟨hG, w, hw20, rfl, h⟩ := h
    intro H locs la hW hL hlo h1 h2
    have hz := (wz_at hG hC.2.2.2.2.2.1 hW).1 w hw20
    have hk' := hk _ _ _ _ _ h H locs la hW hL hlo h1 h2
    have hof : va_OF wdC (wfn fd).1 (wfn fd).2 (rv Γ.1 (wfv Γ fd w)) (wad Γ w) (fun q => Γ.1.1 ≤ q) ({ s with heap := H } : State) H := by
      have e3 : fd = 0 ∨ fd = 1 ∨ fd = 2 := by omega
      rcases e3 with rfl | rfl | rfl
      · exact hz.2.1
      · exact hz.2.2.1
      · have : rv Γ.1 (wfv Γ 2 w) = .ref (wst' Γ w) := by
          show Value.ref (ad Γ.1 (1000000 + wst' Γ w)) = _
          rw [ad_far]
        rw [this]
        exact hz.2.2.2.1
    obtain ⟨cf, kf, fi, f, cell, q1, q2, q3, q4, q5, q6⟩ := va_OF.moved (U := s) (Vm.Alike.refl s.vm) hof
    rw [List.map_cons, show rv Γ.1 (.ref (wrf Γ w)) = .ref (ad Γ.1 (wrf Γ w)) from rfl, wrf_ad]
    exact W.getf hC.1 hC.2.1 hC.2.2.2.1 (hC.2.2.2.2.1 _ hw) q1 q2 q3 q4 q5 rfl rfl hd hk'
  · exact h.elim
/-- references that lie below the world, compared -/
def iACne (off : Int) (t : Nat) : Ir := (fun κ ls st I E u k => match st with | .ref j :: .ref i :: r => ∃ a b : Nat, i = 1000000 + a ∧ j = 1000000 + b ∧ imp (¬ a = b) (κ.1 t ls r I E u) ∧ imp (a = b) (k ls r I E u) | _ => False, (.if_acmp .ne off, 3), fun pc => decide ((pc : Int) + off = (t : Int)))
theorem eACne {κ : Kt} {ls : Lv} {r : List Value} {I : Iv} {E : Ev} {u : Uv} {k : Lv → List Value → Iv → Ev → Uv → Prop} {off : Int} {t i j : Nat} : (iACne off t).1 κ ls (.ref j :: .ref i :: r) I E u k = (∃ a b : Nat, i = 1000000 + a ∧ j = 1000000 + b ∧ imp (¬ a = b) (κ.1 t ls r I E u) ∧ imp (a = b) (k ls r I E u)) := rfl
theorem sACne {own : String} {off : Int} {t : Nat} : Snd own (iACne off t) := by
  intro p l e s m args below meth c Γ sh d M nL cc ret go kr kx pc ls st I E u k hC hgo hd hq h hk
  simp only [iACne, decide_eq_true_eq] at h hq
  split at h
  · rename_i j i r
    obtain ⟨a, b, rfl, rfl, hn, hy⟩ := h
    intro H locs la hW hL hlo h1 h2
    have e1 : rv Γ.1 (.ref (1000000 + a)) = va_rf (some a) := by show Value.ref (ad Γ.1 _) = _; rw [ad_far]; rfl
    have e2 : rv Γ.1 (.ref (1000000 + b)) = va_rf (some b) := by show Value.ref (ad Γ.1 _) = _; rw [ad_far]; rfl
    rw [List.map_cons, List.map_cons, e1, e2]
    refine lv_acmp_ne hC.1 hC.2.1 hd hq (fun c => ?_) (fun c => ?_)
    · exact hgo _ _ _ _ _ _ (hn (fun e => c (by rw [e]))) H locs la hW hL hlo h1 h2
    · exact hk _ _ _ _ _ (hy (Option.some.inj c)) H locs la hW hL hlo h1 h2
  · exact h.elim
/-- a row copied -/
def acp (I : Iv) (s sp d dp n : Nat) : Iv := fun a b => if a = d ∧ dp ≤ b ∧ b < dp + n then I s (sp + (b - dp)) else I a b
def acr (sp dp n : Int32) (ls ld : Nat) (P : Nat → Nat → Nat → Prop) : Prop := ∃ a b c : Nat, sp = nI a ∧ dp = nI b ∧ n = nI c ∧ a + c ≤ ls ∧ b + c ≤ ld ∧ P a b c
theorem acr_n {a b c ls ld : Nat} {P : Nat → Nat → Nat → Prop} (h1 : a + c ≤ ls) (h2 : b + c ≤ ld) (h : P a b c) : acr (nI a) (nI b) (nI c) ls ld P := ⟨a, b, c, rfl, rfl, rfl, h1, h2, h⟩
def iACP (ix : Nat) : Ir := (fun κ ls st I E u k => match st with | .int n :: .int dp :: .ref d :: .int sp :: .ref s :: r => tyc κ.2.2.2.2.2.1 E s = 101 ∧ tyc κ.2.2.2.2.2.1 E d = 101 ∧ r.length ≤ 4 ∧ acr sp dp n (len κ.2.2.2.2.2.1 E s) (len κ.2.2.2.2.2.1 E d) (fun a b c => k ls r (acp I s a d b c) E u) | _ => False, (.invokestatic ix, 3), fun _ => true)
theorem eACP {g : Go} {kr : Kr} {kx : Kxx} {Γ : Gm} {l : Launch} {sh : Sh} {d : Nat} {M : Uv} {ret : Option FieldType} {ls : Lv} {r : List Value} {I : Iv} {E : Ev} {u : Uv} {k : Lv → List Value → Iv → Ev → Uv → Prop} {ix s t : Nat} {n dp sp : Int32} : (iACP ix).1 (g, kr, kx, Γ, l, sh, d, M, ret) ls (.int n :: .int dp :: .ref t :: .int sp :: .ref s :: r) I E u k = (tyc sh E s = 101 ∧ tyc sh E t = 101 ∧ r.length ≤ 4 ∧ acr sp dp n (len sh E s) (len sh E t) (fun a b c => k ls r (acp I s a t b c) E u)) := rfl
theorem vl_int {B : Nat × Nat} {sh : Sh} {I : Iv} {E : Ev} {i : Nat} (h : tyc sh E i = 101) : vl B sh I E i = fun j => .int (I i j) := by
  funext j
  unfold vl
  rw [h]
  rfl
theorem sACP {own : String} {ix : Nat} (hl : Cond.methodLink own ix arraycopyName ∈ gtb) (hn : Cond.native arraycopyName ∈ gtb) (hs : Cond.static arraycopyName ∈ gtb) (hi : Cond.initialized "java/lang/System" ∈ gtb) : Snd own (iACP ix) := by
  intro p l e s m args below meth c Γ sh d M nL cc ret go kr kx pc ls st I E u k hC hgo hd hq h hk
  simp only [iACP] at h
  split at h
  · rename_i n dp q1 sp q0 r
    obtain ⟨t0, t1, hr4, a, b, cn, rfl, rfl, rfl, hla, hlb, h⟩ := h
    intro H locs la hW hL hlo h1 h2
    obtain ⟨hB0, hl0, hc0⟩ := hW.arr t0 (by decide)
    obtain ⟨hB1, hl1, hc1⟩ := hW.arr t1 (by decide)
    rw [vl_int t0] at hc0
    rw [vl_int t1] at hc1
    have ht0 := (hC.2.2.2.2.2.1.1.2 0 _ rfl).1
    obtain ⟨-, k0, hk0, cm0, hkk0⟩ := ht0 (len sh E q0) (fun j => .int (I q0 j))
    obtain ⟨-, k1, hk1, cm1, hkk1⟩ := ht0 (len sh E q1) (fun j => .int (I q1 j))
    have ca : (nI a).toNatClampNeg = a := nI_clamp (by omega)
    have cb : (nI b).toNatClampNeg = b := nI_clamp (by omega)
    have cc' : (nI cn).toNatClampNeg = cn := nI_clamp (by omega)
    have ta : (nI a).toInt = (a : Int) := nI_toInt (by omega)
    have tb : (nI b).toInt = (b : Int) := nI_toInt (by omega)
    have tc : (nI cn).toInt = (cn : Int) := nI_toInt (by omega)
    intro T hT X
    obtain ⟨vm', X', step⟩ := X.arraycopy hC.1 hC.2.2.2.1 (hC.2.2.2.2.1 _ hl) (hC.2.2.2.2.1 _ hn) (hC.2.2.2.2.1 _ hs) (hC.2.2.2.2.1 _ hi) (src := ad Γ.1 q0) (dst := ad Γ.1 q1) (cs := arrV (Γ.2.2.2.2.1 101) (len sh E q0) (fun j => .int (I q0 j))) (cd := arrV (Γ.2.2.2.2.1 101) (len sh E q1) (fun j => .int (I q1 j))) (srcPos := nI a) (destPos := nI b) (n := nI cn) (by rw [hT]; exact hc0) (by rw [hT]; exact hc1)
      (fun _ h => by cases h) (fun _ h => by cases h) (fun h => by cases h) (fun h => by cases h) hk0 hk1 hkk0 hkk1 (by simp) (nI_pos (by omega)) (nI_pos (by omega)) (nI_pos (by omega))
      (by rw [ta, tc, arrV_size]; omega) (by rw [tb, tc, arrV_size]; omega)
      (fun vm₁ _ i hi => by
        rw [cc'] at hi
        have e : (arrV (Γ.2.2.2.2.1 101) (len sh E q0) (fun j => .int (I q0 j))).slots.getD ((nI a).toNatClampNeg + i) .null = .int (I q0 (a + i)) := by
          rw [ca, Array.getD_eq_getD_getElem?, arrV_read _ _ (by omega)]
          rfl
        refine ⟨?_, ?_⟩
        · rw [e]; rfl
        · rw [e]; exact trivial)
      (g := F0 m pc la (.int (nI cn) :: .int (nI b) :: .ref (ad Γ.1 q1) :: .int (nI a) :: .ref (ad Γ.1 q0) :: r.map (rv Γ.1))) rfl (by rw [hC.2.2.1]; exact hlo.2.1) (rest := r.map (rv Γ.1)) rfl (by rw [hC.2.1]; exact hd) (by show 1 ≤ d + 1; omega) (by
        have := ccat (B := Γ.1) r
        show 2 * 0 + _ + _ ≤ 80 * (d + 1)
        have hnf : nativeFrameWords "java/lang/System" "arraycopy" 5 + 11 ≤ 72 := by decide
        omega)
    have e1 := va_copied (fun z => .int z) (Γ.2.2.2.2.1 101) (Γ.2.2.2.2.1 101) (I q0) (I q1) (n0 := len sh E q0) (n1 := len sh E q1) (sp := (nI a).toNatClampNeg) (dp := (nI b).toNatClampNeg) (n := (nI cn).toNatClampNeg) (by rw [ca, cc']; exact hla)
    have e1' : copied (arrV (Γ.2.2.2.2.1 101) (len sh E q0) (fun j => .int (I q0 j))) (arrV (Γ.2.2.2.2.1 101) (len sh E q1) (fun j => .int (I q1 j))) (nI a) (nI b) (nI cn) = arrV (Γ.2.2.2.2.1 101) (len sh E q1) (fun j => .int (acp I q0 a q1 b cn q1 j)) := by
      refine e1.trans ?_
      refine arrV_ext (fun j _ => ?_)
      rw [ca, cb, cc']
      unfold acp va_cpy
      by_cases hj : b ≤ j ∧ j < b + cn
      · rw [if_pos hj, if_pos ⟨rfl, hj.1, hj.2⟩]
      · rw [if_neg hj, if_neg (fun c => hj c.2)]
    rw [e1'] at X' step
    have hlt : ad Γ.1 q1 < H.size := (Array.getElem?_eq_some_iff.mp hc1).1
    obtain ⟨H1, hH1⟩ : ∃ H1, H1 = H.setIfInBounds (ad Γ.1 q1) (arrV (Γ.2.2.2.2.1 101) (len sh E q1) (fun j => .int (acp I q0 a q1 b cn q1 j))) := ⟨_, rfl⟩
    have hW1 : Wd Γ sh (acp I q0 a q1 b cn) E H1 := by
      refine hW.upd (fun _ => rfl) (fun _ => rfl) (by rw [t1]; decide) ?_ (by rw [hH1]; simp) (fun q hq => by rw [hH1]; simp [Array.getElem?_setIfInBounds, Ne.symm hq]) (fun x hx j => ?_)
      · unfold ck
        rw [if_neg (by rw [t1]; decide), t1, vl_int t1]
        exact ⟨hl1, by rw [hH1]; simp [Array.getElem?_setIfInBounds, hlt]⟩
      · unfold vl
        rw [show acp I q0 a q1 b cn x j = I x j from if_neg (fun c => hx c.1)]
    obtain ⟨t, a1, b1⟩ := hk _ _ _ _ _ h H1 _ la hW1 (fun z hz => by
      rcases List.mem_append.mp hz with h | h
      · exact hL z h
      · obtain ⟨y, -, hy⟩ := List.mem_map.mp h
        rw [← hy]
        exact hB1) hlo h1 h2 _ (by rw [hH1, ← hT]; rfl) X'
    exact ⟨t, step t a1, b1⟩
  · exact h.elim
/-! constant texts: their fields, rows; the words' row -/
def iSB (ix : Nat) : Ir := (fun κ ls st I E u k => GW κ.2.2.2.1 ∧ k ls (.int (nI 1) :: st) I E u, (.getstatic ix, 3), fun _ => true)
theorem eSB {g : Go} {kr : Kr} {kx : Kxx} {Γ : Gm} {l : Launch} {sh : Sh} {d : Nat} {M : Uv} {ret : Option FieldType} {ls : Lv} {r : List Value} {I : Iv} {E : Ev} {u : Uv} {k : Lv → List Value → Iv → Ev → Uv → Prop} {ix : Nat} : (iSB ix).1 (g, kr, kx, Γ, l, sh, d, M, ret) ls r I E u k = (GW Γ ∧ k ls (.int (nI 1) :: r) I E u) := rfl
theorem sSB {own : String} {ix : Nat} (hw : Cond.fieldLink own ix "java/lang/String" "COMPACT_STRINGS" "Z" ∈ gtb) : Snd own (iSB ix) := by
  intro p l e s m args below meth c Γ sh d M nL cc ret go kr kx pc ls st I E u k hC hgo hd hq h hk
  simp only [iSB] at h
  intro H locs la hW hL hlo h1 h2
  have hz := (wz_at h.1 hC.2.2.2.2.2.1 hW).2.2.2.2.2.2.2.1
  obtain ⟨cf, kf, fi, f, a, cell, q1, q2, q3, q4, q5, q6, q7, q8⟩ := va_Z.moved (U := s) (Vm.Alike.refl s.vm) hz
  exact W.gets hC.1 hC.2.1 hC.2.2.2.1 (hC.2.2.2.2.1 _ hw) q1 q2 q3 q4 q5 (fun e => by rw [e] at q6; cases q6) q7 rfl hd (hk _ _ _ _ _ h.2 H locs la hW hL hlo h1 h2)
def isF (v : Value) : Prop := v = .null ∨ ∃ t, v = .ref (1000000 + t)
def iSF (ix : Nat) : Ir := (fun κ ls st I E u k => GW κ.2.2.2.1 ∧ ∀ v, isF v → k ls (v :: st) I E u, (.getstatic ix, 3), fun _ => true)
theorem eSF {g : Go} {kr : Kr} {kx : Kxx} {Γ : Gm} {l : Launch} {sh : Sh} {d : Nat} {M : Uv} {ret : Option FieldType} {ls : Lv} {r : List Value} {I : Iv} {E : Ev} {u : Uv} {k : Lv → List Value → Iv → Ev → Uv → Prop} {ix : Nat} : (iSF ix).1 (g, kr, kx, Γ, l, sh, d, M, ret) ls r I E u k = (GW Γ ∧ ∀ v, isF v → k ls (v :: r) I E u) := rfl
theorem sSF {own : String} {ix : Nat} (hw : Cond.fieldLink own ix "jdk/internal/util/Preconditions" "SIOOBE_FORMATTER" "Ljava/util/function/BiFunction;" ∈ gtb) : Snd own (iSF ix) := by
  intro p l e s m args below meth c Γ sh d M nL cc ret go kr kx pc ls st I E u k hC hgo hd hq h hk
  simp only [iSF] at h
  intro H locs la hW hL hlo h1 h2
  have hz := (wz_at h.1 hC.2.2.2.2.2.1 hW).2.2.2.2.2.2.2.2.1
  rcases va_Zq.moved (U := s) (Vm.Alike.refl s.vm) hz with hz | ⟨t, hz⟩
  · obtain ⟨cf, kf, fi, f, a, cell, q1, q2, q3, q4, q5, q6, q7, q8⟩ := hz
    exact W.gets hC.1 hC.2.1 hC.2.2.2.1 (hC.2.2.2.2.1 _ hw) q1 q2 q3 q4 q5 (fun e => by rw [e] at q6; cases q6) q7 rfl hd (hk _ _ _ _ _ (h.2 _ (Or.inl rfl)) H locs la hW hL hlo h1 h2)
  · obtain ⟨cf, kf, fi, f, a, cell, q1, q2, q3, q4, q5, q6, q7, q8⟩ := hz
    have hk' := hk _ _ _ _ _ (h.2 _ (Or.inr ⟨t, rfl⟩)) H locs la hW hL hlo h1 h2
    rw [List.map_cons, show rv Γ.1 (.ref (1000000 + t)) = .ref (ad Γ.1 (1000000 + t)) from rfl, ad_far] at hk'
    exact W.gets hC.1 hC.2.1 hC.2.2.2.1 (hC.2.2.2.2.1 _ hw) q1 q2 q3 q4 q5 (fun e => by rw [e] at q6; cases q6) q7 rfl hd hk'
abbrev tyS : String := "java/lang/String"
def iSV (ix : Nat) : Ir := (fun κ ls st I E u k => match st with | .ref i :: r => GW κ.2.2.2.1 ∧ ∃ w, w < 20 ∧ i = 1000000 + wst' κ.2.2.2.1 w ∧ k ls (.ref (1000000 + wsv κ.2.2.2.1 w) :: r) I E u | _ => False, (.getfield ix, 3), fun _ => true)
theorem eSV {g : Go} {kr : Kr} {kx : Kxx} {Γ : Gm} {l : Launch} {sh : Sh} {d : Nat} {M : Uv} {ret : Option FieldType} {ls : Lv} {r : List Value} {I : Iv} {E : Ev} {u : Uv} {k : Lv → List Value → Iv → Ev → Uv → Prop} {ix i : Nat} : (iSV ix).1 (g, kr, kx, Γ, l, sh, d, M, ret) ls (.ref i :: r) I E u k = (GW Γ ∧ ∃ w, w < 20 ∧ i = 1000000 + wst' Γ w ∧ k ls (.ref (1000000 + wsv Γ w) :: r) I E u) := rfl
def iSC (ix : Nat) : Ir := (fun κ ls st I E u k => match st with | .ref i :: r => GW κ.2.2.2.1 ∧ ∃ w, w < 20 ∧ i = 1000000 + wst' κ.2.2.2.1 w ∧ k ls (.int (nI 0) :: r) I E u | _ => False, (.getfield ix, 3), fun _ => true)
theorem eSC {g : Go} {kr : Kr} {kx : Kxx} {Γ : Gm} {l : Launch} {sh : Sh} {d : Nat} {M : Uv} {ret : Option FieldType} {ls : Lv} {r : List Value} {I : Iv} {E : Ev} {u : Uv} {k : Lv → List Value → Iv → Ev → Uv → Prop} {ix i : Nat} : (iSC ix).1 (g, kr, kx, Γ, l, sh, d, M, ret) ls (.ref i :: r) I E u k = (GW Γ ∧ ∃ w, w < 20 ∧ i = 1000000 + wst' Γ w ∧ k ls (.int (nI 0) :: r) I E u) := rfl
theorem sSV {own : String} {ix : Nat} (hw : Cond.fieldLink own ix tyS "value" "[B" ∈ gtb) : Snd own (iSV ix) := by
  intro p l e s m args below meth c Γ sh d M nL cc ret go kr kx pc ls st I E u k hC hgo hd hq h hk
  simp only [iSV] at h
  split at h
  · rename_i i r
    obtain ⟨hG, w, hw20, rfl, h⟩ := h
    intro H locs la hW hL hlo h1 h2
    have hz := ((wz_at hG hC.2.2.2.2.2.1 hW).2.2.2.2.1.1 w hw20).2.2.1
    have hk' := hk _ _ _ _ _ h H locs la hW hL hlo h1 h2
    rw [List.map_cons, show rv Γ.1 (.ref (1000000 + wsv Γ w)) = .ref (ad Γ.1 (1000000 + wsv Γ w)) from rfl, ad_far] at hk'
    obtain ⟨cf, kf, fi, f, cell, q1, q2, q3, q4, q5, q6⟩ := va_OF.moved (U := s) (Vm.Alike.refl s.vm) hz
    rw [List.map_cons, show rv Γ.1 (.ref (1000000 + wst' Γ w)) = .ref (ad Γ.1 (1000000 + wst' Γ w)) from rfl, ad_far]
    exact W.getf hC.1 hC.2.1 hC.2.2.2.1 (hC.2.2.2.2.1 _ hw) q1 q2 q3 q4 q5 rfl rfl hd hk'
  · exact h.elim
theorem sSC {own : String} {ix : Nat} (hw : Cond.fieldLink own ix tyS "coder" "B" ∈ gtb) : Snd own (iSC ix) := by
  intro p l e s m args below meth c Γ sh d M nL cc ret go kr kx pc ls st I E u k hC hgo hd hq h hk
  simp only [iSC] at h
  split at h
  · rename_i i r
    obtain ⟨hG, w, hw20, rfl, h⟩ := h
    intro H locs la hW hL hlo h1 h2
    have hz := ((wz_at hG hC.2.2.2.2.2.1 hW).2.2.2.2.1.1 w hw20).2.1
    have hk' := hk _ _ _ _ _ h H locs la hW hL hlo h1 h2
    skip
    obtain ⟨cf, kf, fi, f, cell, q1, q2, q3, q4, q5, q6⟩ := va_OF.moved (U := s) (Vm.Alike.refl s.vm) hz
    rw [List.map_cons, show rv Γ.1 (.ref (1000000 + wst' Γ w)) = .ref (ad Γ.1 (1000000 + wst' Γ w)) from rfl, ad_far]
    exact W.getf hC.1 hC.2.1 hC.2.2.2.1 (hC.2.2.2.2.1 _ hw) q1 q2 q3 q4 q5 rfl rfl hd hk'
  · exact h.elim
theorem ix_in {n N S : Nat} (h : n < N) (hS : N ≤ S) (hN : N < 2147483648) : ¬ (nI n < 0 ∨ S ≤ (nI n).toNatClampNeg) := by
  have h1 : n < 2 ^ 31 := by omega
  rw [nI_clamp h1]
  intro q
  rcases q with q | q
  · exact nI_pos h1 q
  · omega
theorem wtl_len : ∀ w, w < 20 → (wtl.map List.length).getD w 0 = (wtx w).length ∧ (wtx w).length < 8 := by decide +kernel
def iSL : Ir := (fun κ ls st I E u k => match st with | .ref i :: r => GW κ.2.2.2.1 ∧ ∃ w, w < 20 ∧ i = 1000000 + wsv κ.2.2.2.1 w ∧ k ls (.int (nI (wtx w).length) :: r) I E u | _ => False, (.arraylength, 1), fun _ => true)
theorem eSL {g : Go} {kr : Kr} {kx : Kxx} {Γ : Gm} {l : Launch} {sh : Sh} {d : Nat} {M : Uv} {ret : Option FieldType} {ls : Lv} {r : List Value} {I : Iv} {E : Ev} {u : Uv} {k : Lv → List Value → Iv → Ev → Uv → Prop} {i : Nat} : iSL.1 (g, kr, kx, Γ, l, sh, d, M, ret) ls (.ref i :: r) I E u k = (GW Γ ∧ ∃ w, w < 20 ∧ i = 1000000 + wsv Γ w ∧ k ls (.int (nI (wtx w).length) :: r) I E u) := rfl
theorem sSL {own : String} : Snd own iSL := by
  intro p l e s m args below meth c Γ sh d M nL cc ret go kr kx pc ls st I E u k hC hgo hd hq h hk
  simp only [iSL] at h
  split at h
  · rename_i i r
    obtain ⟨hG, w, hw20, rfl, h⟩ := h
    intro H locs la hW hL hlo h1 h2
    have hz := ((wz_at hG hC.2.2.2.2.2.1 hW).2.2.2.2.1.1 w hw20).2.2.2
    rw [(wtl_len w hw20).1] at hz
    obtain ⟨cell, q1, q2, q3, q4, q5, q6, q7⟩ := va_T.moved (U := s) (Vm.Alike.refl s.vm) hz
    rw [List.map_cons, show rv Γ.1 (.ref (1000000 + wsv Γ w)) = .ref (ad Γ.1 (1000000 + wsv Γ w)) from rfl, ad_far]
    exact W.alen hC.1 hC.2.1 q1 q2 q5 rfl rfl hd (hk _ _ _ _ _ h H locs la hW hL hlo h1 h2)
  · exact h.elim
def iSA : Ir := (fun κ ls st I E u k => match st with | .int x :: .ref i :: r => GW κ.2.2.2.1 ∧ ∃ w, w < 20 ∧ i = 1000000 + wsv κ.2.2.2.1 w ∧ ixr x (wtx w).length (fun n => k ls (.int ((wtx w).getD n 0) :: r) I E u) | _ => False, (.baload, 1), fun _ => true)
theorem eSA {g : Go} {kr : Kr} {kx : Kxx} {Γ : Gm} {l : Launch} {sh : Sh} {d : Nat} {M : Uv} {ret : Option FieldType} {ls : Lv} {r : List Value} {I : Iv} {E : Ev} {u : Uv} {k : Lv → List Value → Iv → Ev → Uv → Prop} {i : Nat} {x : Int32} : iSA.1 (g, kr, kx, Γ, l, sh, d, M, ret) ls (.int x :: .ref i :: r) I E u k = (GW Γ ∧ ∃ w, w < 20 ∧ i = 1000000 + wsv Γ w ∧ ixr x (wtx w).length (fun n => k ls (.int ((wtx w).getD n 0) :: r) I E u)) := rfl
theorem sSA {own : String} : Snd own iSA := by
  intro p l e s m args below meth c Γ sh d M nL cc ret go kr kx pc ls st I E u k hC hgo hd hq h hk
  simp only [iSA] at h
  split at h
  · rename_i x i r
    obtain ⟨hG, w, hw20, rfl, n, rfl, hn, h⟩ := h
    intro H locs la hW hL hlo h1 h2
    have hz := ((wz_at hG hC.2.2.2.2.2.1 hW).2.2.2.2.1.1 w hw20).2.2.2
    have hwl := wtl_len w hw20
    rw [hwl.1] at hz
    obtain ⟨cell, q1, q2, q3, q4, q5, q6, q7⟩ := va_T.moved (U := s) (Vm.Alike.refl s.vm) hz
    rw [List.map_cons, List.map_cons, show rv Γ.1 (.ref (1000000 + wsv Γ w)) = .ref (ad Γ.1 (1000000 + wsv Γ w)) from rfl, ad_far]
    have hcl : (nI n).toNatClampNeg = n := nI_clamp (by omega)
    exact W.bald (v := .int ((wtx w).getD n 0)) hC.1 hC.2.1 q1 q2 q3 (ix_in hn q4 (by omega)) (by rw [hcl]; exact q6 n hn) rfl rfl hd (hk _ _ _ _ _ h H locs la hW hL hlo h1 h2)
  · exact h.elim
def iWL : Ir := (fun κ ls st I E u k => match st with | .ref i :: r => GW κ.2.2.2.1 ∧ i = 1000000 + wAL κ.2.2.2.1 ∧ k ls (.int (nI 20) :: r) I E u | _ => False, (.arraylength, 1), fun _ => true)
theorem eWL {g : Go} {kr : Kr} {kx : Kxx} {Γ : Gm} {l : Launch} {sh : Sh} {d : Nat} {M : Uv} {ret : Option FieldType} {ls : Lv} {r : List Value} {I : Iv} {E : Ev} {u : Uv} {k : Lv → List Value → Iv → Ev → Uv → Prop} {i : Nat} : iWL.1 (g, kr, kx, Γ, l, sh, d, M, ret) ls (.ref i :: r) I E u k = (GW Γ ∧ i = 1000000 + wAL Γ ∧ k ls (.int (nI 20) :: r) I E u) := rfl
theorem sWL {own : String} : Snd own iWL := by
  intro p l e s m args below meth c Γ sh d M nL cc ret go kr kx pc ls st I E u k hC hgo hd hq h hk
  simp only [iWL] at h
  split at h
  · rename_i i r
    obtain ⟨hG, rfl, h⟩ := h
    intro H locs la hW hL hlo h1 h2
    have hz := (wz_at hG hC.2.2.2.2.2.1 hW).2.2.2.1
    obtain ⟨cell, q1, q2, q3, q4, q5, q6, q7⟩ := va_T.moved (U := s) (Vm.Alike.refl s.vm) hz
    rw [List.map_cons, show rv Γ.1 (.ref (1000000 + wAL Γ)) = .ref (ad Γ.1 (1000000 + wAL Γ)) from rfl, ad_far]
    exact W.alen hC.1 hC.2.1 q1 q2 q5 rfl rfl hd (hk _ _ _ _ _ h H locs la hW hL hlo h1 h2)
  · exact h.elim
def iWA : Ir := (fun κ ls st I E u k => match st with | .int x :: .ref i :: r => GW κ.2.2.2.1 ∧ i = 1000000 + wAL κ.2.2.2.1 ∧ ixr x 20 (fun n => k ls (.ref (wrf κ.2.2.2.1 n) :: r) I E u) | _ => False, (.aaload, 1), fun _ => true)
theorem eWA {g : Go} {kr : Kr} {kx : Kxx} {Γ : Gm} {l : Launch} {sh : Sh} {d : Nat} {M : Uv} {ret : Option FieldType} {ls : Lv} {r : List Value} {I : Iv} {E : Ev} {u : Uv} {k : Lv → List Value → Iv → Ev → Uv → Prop} {i : Nat} {x : Int32} : iWA.1 (g, kr, kx, Γ, l, sh, d, M, ret) ls (.int x :: .ref i :: r) I E u k = (GW Γ ∧ i = 1000000 + wAL Γ ∧ ixr x 20 (fun n => k ls (.ref (wrf Γ n) :: r) I E u)) := rfl
theorem sWA {own : String} : Snd own iWA := by
  intro p l e s m args below meth c Γ sh d M nL cc ret go kr kx pc ls st I E u k hC hgo hd hq h hk
  simp only [iWA] at h
  split at h
  · rename_i x i r
    obtain ⟨hG, rfl, n, rfl, hn, h⟩ := h
    intro H locs la hW hL hlo h1 h2
    have hz := (wz_at hG hC.2.2.2.2.2.1 hW).2.2.2.1
    obtain ⟨cell, q1, q2, q3, q4, q5, q6, q7⟩ := va_T.moved (U := s) (Vm.Alike.refl s.vm) hz
    have hk' := hk _ _ _ _ _ h H locs la hW hL hlo h1 h2
    rw [List.map_cons, show rv Γ.1 (.ref (wrf Γ n)) = .ref (ad Γ.1 (wrf Γ n)) from rfl, wrf_ad] at hk'
    rw [List.map_cons, List.map_cons, show rv Γ.1 (.ref (1000000 + wAL Γ)) = .ref (ad Γ.1 (1000000 + wAL Γ)) from rfl, ad_far]
    have hcl : (nI n).toNatClampNeg = n := nI_clamp (by omega)
    exact W.aald (v := .ref (wad Γ n)) hC.1 hC.2.1 q1 q2 rfl q3 (ix_in hn q4 (by omega)) (by rw [hcl]; exact q6 n hn) rfl rfl hd hk'
  · exact h.elim
def iI2C : Ir := (fun κ ls st I E u k => match st with | .int x :: r => k ls (.int (x.toUInt32 % 65536).toInt32 :: r) I E u | _ => False, (.i2c, 1), fun _ => true)
theorem eI2C {g : Go} {kr : Kr} {kx : Kxx} {Γ : Gm} {l : Launch} {sh : Sh} {d : Nat} {M : Uv} {ret : Option FieldType} {ls : Lv} {r : List Value} {I : Iv} {E : Ev} {u : Uv} {k : Lv → List Value → Iv → Ev → Uv → Prop} {x : Int32} : iI2C.1 (g, kr, kx, Γ, l, sh, d, M, ret) ls (.int x :: r) I E u k = k ls (.int (x.toUInt32 % 65536).toInt32 :: r) I E u := rfl
theorem sI2C {own : String} : Snd own iI2C := by
  intro p l e s m args below meth c Γ sh d M nL cc ret go kr kx pc ls st I E u k hC hgo hd hq h hk
  simp only [iI2C] at h
  split at h
  · rename_i x r
    intro H locs la hW hL hlo h1 h2
    exact lv_i2c hC.1 hC.2.1 hd rfl (hk _ _ _ _ _ h H locs la hW hL hlo h1 h2)
  · exact h.elim
def iCT0 (ix : Nat) (mt : Mt) : Ir := (fun κ ls st I E u k => match st with | .ref i :: r => GW κ.2.2.2.1 ∧ (∃ w, w < 20 ∧ i = 1000000 + wst' κ.2.2.2.1 w) ∧ r.length ≤ 4 ∧ Call κ mt [.ref i] I E u (fun w I' E' u' => k ls (w.toList ++ r) I' E' u') | _ => False, (.invokevirtual ix, 3), fun _ => decide ((parseMethodDescriptor mt.1.desc).map (fun d => d.parameters.length) = some 0))
theorem eCT0 {g : Go} {kr : Kr} {kx : Kxx} {Γ : Gm} {l : Launch} {sh : Sh} {d : Nat} {M : Uv} {ret : Option FieldType} {ls : Lv} {r : List Value} {I : Iv} {E : Ev} {u : Uv} {k : Lv → List Value → Iv → Ev → Uv → Prop} {ix i : Nat} {mt : Mt} : (iCT0 ix mt).1 (g, kr, kx, Γ, l, sh, d, M, ret) ls (.ref i :: r) I E u k = (GW Γ ∧ (∃ w, w < 20 ∧ i = 1000000 + wst' Γ w) ∧ r.length ≤ 4 ∧ Call (g, kr, kx, Γ, l, sh, d, M, ret) mt [.ref i] I E u (fun w I' E' u' => k ls (w.toList ++ r) I' E' u')) := rfl
theorem sCT0 {own : String} {ix : Nat} {mt : Mt} (hcls : mt.1.cls = "java/lang/String") (hM : Mok mt) (hi : Cond.instanceMethod mt.1 ∈ gtb) (hse : Cond.selects mt.1.cls mt.1 mt.1 ∈ gtb) (hl : Cond.methodLink own ix mt.1 ∈ gtb) : Snd own (iCT0 ix mt) := by
  intro p l e s m args below meth cd Γ sh d M nL cc ret go kr kx pc ls st I E u k hC hgo hd hq h hk
  simp only [iCT0] at h hq
  split at h
  · rename_i i r
    obtain ⟨hG, ⟨w, hw20, rfl⟩, hr4, m1, m2, hm1, hm2, hex⟩ := h
    intro H locs la hW hL hlo h1 h2
    obtain ⟨cell, q1, q2, q3, -⟩ := va_O.moved (U := s) (Vm.Alike.refl s.vm) ((wz_at hG hC.2.2.2.2.2.1 hW).2.2.2.2.1.1 w hw20).1
    have hn := of_decide_eq_true hq
    refine call_sound (kr' := fun w I' E' => k ls (w.toList ++ r) I' E' (u.1 + m1, u.2 + m2)) (vx_runV (As := []) (rest := r.map (rv Γ.1)) ⟨hC.1, hC.2.1, hC.2.2.1, hC.2.2.2.1, hC.2.2.2.2.1⟩ hex ⟨hM.callB hC.2.2.2.2.1 hl hn, hC.2.2.2.2.1 _ hi, hC.2.2.2.2.1 _ hse⟩
      ⟨ex_blind, ⟨cell, by rw [ad_far]; exact q1, q2, by rw [hcls]; exact q3⟩, fun U hU hWm => ⟨rfl, by rw [hU]; exact hW, hC.2.2.2.2.2.1.warm hWm⟩⟩ rfl rfl hlo.2.1 rfl (lv_room (Nat.le_trans (ccat r) (by omega))) hd ⟨hm1 h1, hm2 h2⟩) hC.2.2.2.2.2.2.2.2.1 hC.2.2.2.2.2.2.2.1 hL (hm1 h1) (hm2 h2) (fun w I' E' hk' H1 locs1 hW1 hL1 => ?_)
    have h9 := hk _ _ _ _ _ hk' H1 locs1 la hW1 hL1 hlo (hm1 h1) (hm2 h2)
    rw [List.map_append] at h9
    cases w <;> exact h9
  · exact h.elim
def iCT1 (ix : Nat) (mt : Mt) : Ir := (fun κ ls st I E u k => match st with | b1 :: .ref i :: r => GW κ.2.2.2.1 ∧ (∃ w, w < 20 ∧ i = 1000000 + wst' κ.2.2.2.1 w) ∧ r.length ≤ 4 ∧ Call κ mt [.ref i, b1] I E u (fun w I' E' u' => k ls (w.toList ++ r) I' E' u') | _ => False, (.invokevirtual ix, 3), fun _ => decide ((parseMethodDescriptor mt.1.desc).map (fun d => d.parameters.length) = some 1))
theorem eCT1 {g : Go} {kr : Kr} {kx : Kxx} {Γ : Gm} {l : Launch} {sh : Sh} {d : Nat} {M : Uv} {ret : Option FieldType} {ls : Lv} {r : List Value} {I : Iv} {E : Ev} {u : Uv} {k : Lv → List Value → Iv → Ev → Uv → Prop} {ix i : Nat} {mt : Mt} {b1 : Value} : (iCT1 ix mt).1 (g, kr, kx, Γ, l, sh, d, M, ret) ls (b1 :: .ref i :: r) I E u k = (GW Γ ∧ (∃ w, w < 20 ∧ i = 1000000 + wst' Γ w) ∧ r.length ≤ 4 ∧ Call (g, kr, kx, Γ, l, sh, d, M, ret) mt [.ref i, b1] I E u (fun w I' E' u' => k ls (w.toList ++ r) I' E' u')) := rfl
theorem sCT1 {own : String} {ix : Nat} {mt : Mt} (hcls : mt.1.cls = "java/lang/String") (hM : Mok mt) (hi : Cond.instanceMethod mt.1 ∈ gtb) (hse : Cond.selects mt.1.cls mt.1 mt.1 ∈ gtb) (hl : Cond.methodLink own ix mt.1 ∈ gtb) : Snd own (iCT1 ix mt) := by
  intro p l e s m args below meth cd Γ sh d M nL cc ret go kr kx pc ls st I E u k hC hgo hd hq h hk
  simp only [iCT1] at h hq
  split at h
  · rename_i b1 i r
    obtain ⟨hG, ⟨w, hw20, rfl⟩, hr4, m1, m2, hm1, hm2, hex⟩ := h
    intro H locs la hW hL hlo h1 h2
    obtain ⟨cell, q1, q2, q3, -⟩ := va_O.moved (U := s) (Vm.Alike.refl s.vm) ((wz_at hG hC.2.2.2.2.2.1 hW).2.2.2.2.1.1 w hw20).1
    have hn := of_decide_eq_true hq
    refine call_sound (kr' := fun w I' E' => k ls (w.toList ++ r) I' E' (u.1 + m1, u.2 + m2)) (vx_runV (As := [rv Γ.1 b1]) (rest := r.map (rv Γ.1)) ⟨hC.1, hC.2.1, hC.2.2.1, hC.2.2.2.1, hC.2.2.2.2.1⟩ hex ⟨hM.callB hC.2.2.2.2.1 hl hn, hC.2.2.2.2.1 _ hi, hC.2.2.2.2.1 _ hse⟩
      ⟨ex_blind, ⟨cell, by rw [ad_far]; exact q1, q2, by rw [hcls]; exact q3⟩, fun U hU hWm => ⟨rfl, by rw [hU]; exact hW, hC.2.2.2.2.2.1.warm hWm⟩⟩ rfl rfl hlo.2.1 rfl (lv_room (Nat.le_trans (ccat r) (by omega))) hd ⟨hm1 h1, hm2 h2⟩) hC.2.2.2.2.2.2.2.2.1 hC.2.2.2.2.2.2.2.1 hL (hm1 h1) (hm2 h2) (fun w I' E' hk' H1 locs1 hW1 hL1 => ?_)
    have h9 := hk _ _ _ _ _ hk' H1 locs1 la hW1 hL1 hlo (hm1 h1) (hm2 h2)
    rw [List.map_append] at h9
    cases w <;> exact h9
  · exact h.elim
def iCW0 (ix : Nat) (mt : Mt) : Ir := (fun κ ls st I E u k => match st with | .ref i :: r => GW κ.2.2.2.1 ∧ (∃ w, w < 20 ∧ i = 1000000 + wad κ.2.2.2.1 w) ∧ r.length ≤ 4 ∧ Call κ mt [.ref i] I E u (fun w I' E' u' => k ls (w.toList ++ r) I' E' u') | _ => False, (.invokevirtual ix, 3), fun _ => decide ((parseMethodDescriptor mt.1.desc).map (fun d => d.parameters.length) = some 0))
theorem eCW0 {g : Go} {kr : Kr} {kx : Kxx} {Γ : Gm} {l : Launch} {sh : Sh} {d : Nat} {M : Uv} {ret : Option FieldType} {ls : Lv} {r : List Value} {I : Iv} {E : Ev} {u : Uv} {k : Lv → List Value → Iv → Ev → Uv → Prop} {ix i : Nat} {mt : Mt} : (iCW0 ix mt).1 (g, kr, kx, Γ, l, sh, d, M, ret) ls (.ref i :: r) I E u k = (GW Γ ∧ (∃ w, w < 20 ∧ i = 1000000 + wad Γ w) ∧ r.length ≤ 4 ∧ Call (g, kr, kx, Γ, l, sh, d, M, ret) mt [.ref i] I E u (fun w I' E' u' => k ls (w.toList ++ r) I' E' u')) := rfl
theorem sCW0 {own : String} {ix : Nat} {mt : Mt} (hcls : mt.1.cls = "HerbWaters$Word") (hM : Mok mt) (hi : Cond.instanceMethod mt.1 ∈ gtb) (hse : Cond.selects mt.1.cls mt.1 mt.1 ∈ gtb) (hl : Cond.methodLink own ix mt.1 ∈ gtb) : Snd own (iCW0 ix mt) := by
  intro p l e s m args below meth cd Γ sh d M nL cc ret go kr kx pc ls st I E u k hC hgo hd hq h hk
  simp only [iCW0] at h hq
  split at h
  · rename_i i r
    obtain ⟨hG, ⟨w, hw20, rfl⟩, hr4, m1, m2, hm1, hm2, hex⟩ := h
    intro H locs la hW hL hlo h1 h2
    obtain ⟨cell, q1, q2, q3, -⟩ := va_O.moved (U := s) (Vm.Alike.refl s.vm) ((wz_at hG hC.2.2.2.2.2.1 hW).1 w hw20).2.2.2.2
    have hn := of_decide_eq_true hq
    refine call_sound (kr' := fun w I' E' => k ls (w.toList ++ r) I' E' (u.1 + m1, u.2 + m2)) (vx_runV (As := []) (rest := r.map (rv Γ.1)) ⟨hC.1, hC.2.1, hC.2.2.1, hC.2.2.2.1, hC.2.2.2.2.1⟩ hex ⟨hM.callB hC.2.2.2.2.1 hl hn, hC.2.2.2.2.1 _ hi, hC.2.2.2.2.1 _ hse⟩
      ⟨ex_blind, ⟨cell, by rw [ad_far]; exact q1, q2, by rw [hcls]; exact q3⟩, fun U hU hWm => ⟨rfl, by rw [hU]; exact hW, hC.2.2.2.2.2.1.warm hWm⟩⟩ rfl rfl hlo.2.1 rfl (lv_room (Nat.le_trans (ccat r) (by omega))) hd ⟨hm1 h1, hm2 h2⟩) hC.2.2.2.2.2.2.2.2.1 hC.2.2.2.2.2.2.2.1 hL (hm1 h1) (hm2 h2) (fun w I' E' hk' H1 locs1 hW1 hL1 => ?_)
    have h9 := hk _ _ _ _ _ hk' H1 locs1 la hW1 hL1 hlo (hm1 h1) (hm2 h2)
    rw [List.map_append] at h9
    cases w <;> exact h9
  · exact h.elim
