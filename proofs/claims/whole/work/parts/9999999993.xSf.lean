/-! the engine, 8: arrays of rows -/
theorem vr_out (c : ClassId) (N h0 : Nat) : ∀ i : Nat, Jvm.Free.Multi.outerC c N h0 i = arrV c N (fun j => va_rf (if j < i then some (h0 + 1 + j) else none))
  | 0 => by
    show ({ cls := c, slots := Array.replicate N .null, vm := .none } : Cell) = _
    rw [arrV_new]
    refine arrV_ext (fun j _ => ?_)
    simp [va_rf]
  | i + 1 => by
    show (Jvm.Free.Multi.outerC c N h0 i).setSlot i (.ref (h0 + 1 + i)) = _
    rw [vr_out c N h0 i, arrV_store]
    refine congrArg (arrV c N) (funext fun j => ?_)
    by_cases e : j = i
    · subst e
      simp [updV, va_rf]
    · by_cases h : j < i
      · simp [updV, e, h, Nat.lt_succ_of_lt h]
      · simp [updV, e, h, show ¬ j < i + 1 by omega]
/-- the rows i + 1 .. of length K are made, and at i the array of them -/
def mk2 (E : Ev) (i N K sz : Nat) : Ev := (fun a b => if a = i then (if b < N then i + 1 + b + 1 else 0) else if i < a ∧ a ≤ i + N then 0 else E.1 a b, fun a => if a = i then 107 else if i < a ∧ a ≤ i + N then 101 else E.2.1 a, fun a => if a = 999999 then sz else if a = i then N else if i < a ∧ a ≤ i + N then K else E.2.2 a)
def zr2 (I : Iv) (i N : Nat) : Iv := fun a b => if i ≤ a ∧ a ≤ i + N then nI 0 else I a b
section Grow
variable {Γ : Gm} {sh : Sh} {I : Iv} {E : Ev} {H : Heap} {i N K sz : Nat}
theorem mk2_o {a : Nat} (h : ¬ (i ≤ a ∧ a ≤ i + N)) (h9 : a ≠ 999999) : tyc sh (mk2 E i N K sz) a = tyc sh E a ∧ len sh (mk2 E i N K sz) a = len sh E a ∧ (∀ j, rget sh (mk2 E i N K sz) a j = rget sh E a j) ∧ zr2 I i N a = I a := by
  have e1 : a ≠ i := by omega
  have e2 : ¬ (i < a ∧ a ≤ i + N) := by omega
  refine ⟨?_, ?_, fun j => ?_, ?_⟩
  · unfold tyc mk2
    dsimp only
    rw [if_neg e1, if_neg e2]
  · unfold len mk2
    dsimp only
    rw [if_neg h9, if_neg e1, if_neg e2]
  · unfold rget mk2
    dsimp only
    rw [if_neg e1, if_neg e2]
  · funext j
    exact if_neg h
theorem mk2_i (h : tyc sh E i = 0) : tyc sh (mk2 E i N K sz) i = 107 := by
  unfold tyc
  rw [if_pos (tyc_0 h)]
  exact if_pos rfl
theorem mk2_r {a : Nat} (h : tyc sh E a = 0) (ha : i < a ∧ a ≤ i + N) : tyc sh (mk2 E i N K sz) a = 101 := by
  unfold tyc
  rw [if_pos (tyc_0 h)]
  unfold mk2
  dsimp only
  rw [if_neg (by omega), if_pos ha]
theorem Wd.rows {H' : Heap} (h : Wd Γ sh I E H) (hsz : H'.size = H.size + 1 + N) (ho : ∀ q, q < H.size → H'[q]? = H[q]?) (hi9 : i + N < 999999 ∨ 999999 < i) (had : ∀ j, j ≤ N → ad Γ.1 (i + j) = H.size + j) (hN : N < 2147483648) (hK : K < 2147483648) (hn : ∀ j, sh.2.2 i j = none)
    (h1 : H'[H.size]? = some (arrV (Γ.2.2.2.2.1 107) N (fun j => va_rf (if j < N then some (H.size + 1 + j) else none)))) (h2 : ∀ j, j < N → H'[H.size + 1 + j]? = some (arrV (Γ.2.2.2.2.1 101) K (fun _ => .int (nI 0)))) : Wd Γ sh (zr2 I i N) (mk2 E i N K (H'.size + 1)) H' := by
  have hf : ∀ j, j ≤ N → tyc sh E (i + j) = 0 := fun j hj => by
    by_cases q : tyc sh E (i + j) = 0
    · exact q
    · have := h.lt q
      have := had j hj
      omega
  have hlt := fun a (ha : tyc sh E a ≠ 0) => h.lt ha
  obtain ⟨⟨k1, k2, k3⟩, w2, w3, w4⟩ := h
  have t9 : tyc sh (mk2 E i N K (H'.size + 1)) 999999 = 0 := by
    have e : (mk2 E i N K (H'.size + 1)).2.1 999999 = E.2.1 999999 := by
      unfold mk2
      dsimp only
      rw [if_neg (by omega), if_neg (by omega)]
    unfold tyc at k2 ⊢
    rw [e]
    exact k2
  have cs : ∀ a, tyc sh (mk2 E i N K (H'.size + 1)) a ≠ 0 → (¬ (i ≤ a ∧ a ≤ i + N) ∧ tyc sh E a ≠ 0) ∨ ∃ j, j ≤ N ∧ a = i + j := fun a ha => by
    by_cases c : i ≤ a ∧ a ≤ i + N
    · exact Or.inr ⟨a - i, by omega, by omega⟩
    · have e9 : a ≠ 999999 := fun e => ha (by rw [e]; exact t9)
      rw [(mk2_o (I := I) c e9).1] at ha
      exact Or.inl ⟨c, ha⟩
  refine ⟨⟨by omega, t9, Or.inr ?_⟩, fun q hq => (by
    have hl := low_lt k1 hq (w2 q hq).1
    refine ⟨by rw [ho q hl]; exact (w2 q hq).1, fun a ha => ?_⟩
    rcases cs a ha with ⟨ca, ta⟩ | ⟨j, hj, rfl⟩
    · exact (w2 q hq).2 a ta
    · rw [had j hj]
      omega), fun a b ha hb e => ?_, fun a ha => ?_⟩
  · unfold mk2
    dsimp only
    rw [if_pos rfl]
  · rcases cs a ha with ⟨ca, ta⟩ | ⟨j, hj, rfl⟩
    · rcases cs b hb with ⟨cb, tb⟩ | ⟨j', hj', rfl⟩
      · exact w3 a b ta tb e
      · have := hlt a ta
        have := had j' hj'
        omega
    · rcases cs b hb with ⟨cb, tb⟩ | ⟨j', hj', rfl⟩
      · have := hlt b tb
        have := had j hj
        omega
      · have := had j hj
        have := had j' hj'
        omega
  · rcases cs a ha with ⟨ca, ta⟩ | ⟨j, hj, rfl⟩
    · have e9 : a ≠ 999999 := fun e => ta (e ▸ k2)
      obtain ⟨m1, m2, m3, m4⟩ := mk2_o (sh := sh) (E := E) (I := I) (K := K) (sz := H'.size + 1) ca e9
      have hl := hlt a ta
      obtain ⟨g1, g2⟩ := w4 a ta
      refine ⟨g1, ?_⟩
      have ev : vl Γ.1 sh (zr2 I i N) (mk2 E i N K (H'.size + 1)) a = vl Γ.1 sh I E a := by
        funext j
        unfold vl
        rw [m1, m3 j, m4]
      unfold ck at g2 ⊢
      rw [m1, m2, ev]
      by_cases ht : tyc sh E a < 100
      · rw [if_pos ht] at g2 ⊢
        obtain ⟨r, h6, h7⟩ := g2
        exact ⟨r, h6, h7.kept (ho _ hl)⟩
      · rw [if_neg ht] at g2 ⊢
        rw [ho _ hl]
        exact g2
    · refine ⟨by rw [had j hj]; omega, ?_⟩
      by_cases e : j = 0
      · subst e
        have e0 : i + 0 = i := Nat.add_zero i
        rw [e0]
        unfold ck
        have h0 := hf 0 (Nat.zero_le _)
        rw [Nat.add_zero] at h0
        have ha0 := had 0 (Nat.zero_le _)
        rw [Nat.add_zero, Nat.add_zero] at ha0
        have hln : len sh (mk2 E i N K (H'.size + 1)) i = N := by
          unfold len
          rw [if_pos (tyc_0 h0)]
          unfold mk2
          dsimp only
          rw [if_neg (by omega), if_pos rfl]
        rw [mk2_i h0, if_neg (by decide), hln, ha0]
        refine ⟨hN, h1.trans (congrArg some (arrV_ext (fun b hb => ?_)))⟩
        unfold vl
        rw [mk2_i h0, if_pos (show rfs 107 b = true from rfl)]
        have hrg : rget sh (mk2 E i N K (H'.size + 1)) i b = .ref (i + 1 + b) := by
          unfold rget
          rw [hn b]
          unfold mk2
          dsimp only
          rw [if_pos rfl, if_pos hb]
          rfl
        rw [hrg, if_pos hb]
        show va_rf (some (H.size + 1 + b)) = .ref (ad Γ.1 (i + 1 + b))
        rw [Nat.add_assoc i, had (1 + b) (by omega)]
        show Value.ref (H.size + 1 + b) = _
        rw [Nat.add_assoc]
      · unfold ck
        have h0 := hf j hj
        have hln : len sh (mk2 E i N K (H'.size + 1)) (i + j) = K := by
          unfold len
          rw [if_pos (tyc_0 h0)]
          unfold mk2
          dsimp only
          rw [if_neg (by omega), if_neg (by omega), if_pos (by omega)]
        rw [mk2_r h0 (by omega), if_neg (by decide), hln, had j hj]
        have h2' := h2 (j - 1) (by omega)
        rw [show H.size + 1 + (j - 1) = H.size + j by omega] at h2'
        refine ⟨hK, h2'.trans (congrArg some (arrV_ext (fun b hb => ?_)))⟩
        unfold vl
        rw [mk2_r h0 (by omega), if_neg (show ¬ rfs 101 b = true from Bool.false_ne_true), if_neg (by decide)]
        congr 1
        exact (if_pos (by omega)).symm
end Grow
theorem aoa_moved {u U : State} (hvm : u.vm.Alike U.vm) (h : va_Nw (.arrayOver (.array .int)) u) : va_Nw (.arrayOver (.array .int)) U := by
  obtain ⟨comp, c, k, h1, h2, h3, h4, h5⟩ := arrayOver_specB h
  obtain ⟨k', hk', he⟩ := hvm.2.2 _ _ h3
  have hi : (U.vm.classes.findIdx? fun (x : Class) => match x.kind with | .array component _ => component == comp | _ => false) = some c := by
    refine (va_idx_bare U.vm comp).symm.trans ?_
    first | rw [hvm.bare_eq] | rw [← hvm.bare_eq]
    exact (va_idx_bare u.vm comp).trans h2
  have hkind : k'.kind = .array comp (.array .int) := by rw [he]; exact h4
  have f1 : U.vm.findClass (FieldType.array .int).toString = some comp := by rw [hvm.findClass]; exact h1
  have f2 : U.vm.findClass ("[" ++ (FieldType.array .int).toString) = some c := by rw [hvm.findClass]; exact h5
  unfold va_Nw Cond.before Cond.holds
  simp only [Cond.value]
  rw [f1, Option.bind_some]
  refine (congrArg (fun o : Option Nat => (o.bind (fun c => (U.vm.classes[c]?).map fun (k : Class) => match k.kind with | .array _ ty => decide (ty = FieldType.array .int) && decide (U.vm.findClass ("[" ++ (FieldType.array .int).toString) = some c) | _ => false) == some true)) hi).trans ?_
  simp [hk', hkind, f2]
def iMNA (ix : Nat) : Ir := (fun κ ls st I E u k => match st with | .int x :: .int y :: r => GW κ.2.2.2.1 ∧ ∃ N K, y = nI N ∧ x = nI K ∧ N ≤ 100000 ∧ K ≤ 100000 ∧ u.1 + (1 + N) ≤ κ.2.2.2.2.2.2.2.1.1 ∧ u.2 + (N + N * K) ≤ κ.2.2.2.2.2.2.2.1.2 ∧ ∀ a, (E.2.2 999999 = 0 ∨ E.2.2 999999 = a + 1) → κ.2.2.2.1.1.1 ≤ a → ∃ i, (i + N < 999999 ∨ 999999 < i) ∧ (∀ j, j ≤ N → ad κ.2.2.2.1.1 (i + j) = a + j) ∧ (∀ j, κ.2.2.2.2.2.1.2.2 i j = none) ∧ ((∀ j, j ≤ N → tyc κ.2.2.2.2.2.1 E (i + j) = 0) → k ls (.ref i :: r) (zr2 I i N) (mk2 E i N K (a + N + 2)) (u.1 + (1 + N), u.2 + (N + N * K))) | _ => False, (.multianewarray ix 2, 4), fun _ => true)
theorem eMNA {g : Go} {kr : Kr} {kx : Kxx} {Γ : Gm} {l : Launch} {sh : Sh} {d : Nat} {M : Uv} {ret : Option FieldType} {ls : Lv} {r : List Value} {I : Iv} {E : Ev} {u : Uv} {k : Lv → List Value → Iv → Ev → Uv → Prop} {ix : Nat} {x y : Int32} : (iMNA ix).1 (g, kr, kx, Γ, l, sh, d, M, ret) ls (.int x :: .int y :: r) I E u k = (GW Γ ∧ ∃ N K, y = nI N ∧ x = nI K ∧ N ≤ 100000 ∧ K ≤ 100000 ∧ u.1 + (1 + N) ≤ M.1 ∧ u.2 + (N + N * K) ≤ M.2 ∧ ∀ a, (E.2.2 999999 = 0 ∨ E.2.2 999999 = a + 1) → Γ.1.1 ≤ a → ∃ i, (i + N < 999999 ∨ 999999 < i) ∧ (∀ j, j ≤ N → ad Γ.1 (i + j) = a + j) ∧ (∀ j, sh.2.2 i j = none) ∧ ((∀ j, j ≤ N → tyc sh E (i + j) = 0) → k ls (.ref i :: r) (zr2 I i N) (mk2 E i N K (a + N + 2)) (u.1 + (1 + N), u.2 + (N + N * K)))) := rfl
theorem sMNA {own : String} {ix : Nat} (hw : Cond.classLink own ix "[[I" ∈ gtb) (hw1 : Cond.arrayClass .int ∈ gtb) : Snd own (iMNA ix) := by
  intro p l e s m args below meth cd Γ sh d M nL cc ret go kr kx pc ls st I E u k hC hgo hd hq h hk
  simp only [iMNA] at h
  split at h
  · rename_i x y r
    obtain ⟨hG, N, K, rfl, rfl, hn5, hk5, hr1, hr2, h⟩ := h
    intro H locs la hW hL hlo h1 h2
    obtain ⟨i, hi9, had, hsn, h⟩ := h H.size hW.1.2.2 hW.1.1
    have hcN : (nI N).toNatClampNeg = N := nI_clamp (by omega)
    have hcK : (nI K).toNatClampNeg = K := nI_clamp (by omega)
    have hao : va_Nw (.arrayOver (.array .int)) s := aoa_moved (u := { s with heap := H }) (Vm.Alike.refl s.vm) (wz_at hG hC.2.2.2.2.2.1 hW).2.2.2.2.2.2.2.2.2.2.2
    have hf : ∀ j, j ≤ N → tyc sh E (i + j) = 0 := fun j hj => by
      by_cases q : tyc sh E (i + j) = 0
      · exact q
      · have := hW.lt q
        have := had j hj
        omega
    have c1 := (hC.2.2.2.2.2.1.1.2 0 (Γ.2.2.2.2.1 101, .int) rfl).2
    have c2 : s.vm.findClass "[[I" = some (Γ.2.2.2.2.1 107) := (hC.2.2.2.2.2.1.1.2 6 _ rfl).2
    intro T hT Xs
    obtain ⟨vm₁, cA, comp, -, fA, fC, -, -, X', step⟩ := Xs.multianewarray2F (ty := .int) (own := own) (index := ix) hC.1 hC.2.2.2.1 (hC.2.2.2.2.1 _ hw) (show (Cond.arrayOver (.array .int)).before args s = true from hao) (hC.2.2.2.2.1 _ hw1) (g := F0 m pc la (.int (nI K) :: .int (nI N) :: r.map (rv Γ.1))) rfl (by rw [hC.2.1]; exact hd) rfl (nI_pos (by omega)) (nI_pos (by omega)) (by rw [hcN]; omega) (by rw [hcK]; show K * 4 ≤ _; omega) (by rw [hcK]; omega) rfl rfl (by rw [hcN]; exact hr1) (by rw [hcN, hcK]; exact hr2)
    have ec : Γ.2.2.2.2.1 107 = cA := Option.some.inj (c2.symm.trans fA)
    have ec1 : Γ.2.2.2.2.1 101 = comp := Option.some.inj (c1.symm.trans fC)
    subst ec ec1
    rw [hcN, hcK] at X' step
    generalize hF : Jvm.Free.Multi.fill (T.setVm vm₁) (Γ.2.2.2.2.1 107) (Γ.2.2.2.2.1 101) N K (defaultValue .int) N = F at X' step
    have hTh : (T.setVm vm₁).heap = H := hT
    obtain ⟨f1, f2, -, -⟩ := Jvm.Free.Multi.fill_facts (T.setVm vm₁) (Γ.2.2.2.2.1 107) (Γ.2.2.2.2.1 101) N K (defaultValue .int) N
    rw [hF, hTh] at f1 f2
    have hold : ∀ x : Nat, x < H.size → F.heap[x]? = H[x]? := fun x hx => by
      have := Jvm.Free.Multi.fill_old (T.setVm vm₁) (Γ.2.2.2.2.1 107) (Γ.2.2.2.2.1 101) N K (defaultValue .int) (a := x) (by rw [hTh]; exact hx) N
      rw [hF, hTh] at this
      exact this
    have hrow : ∀ j : Nat, j < N → F.heap[H.size + 1 + j]? = some (arrV (Γ.2.2.2.2.1 101) K (fun _ => .int (nI 0))) := fun j hj => by
      have := Jvm.Free.Multi.fill_inner (T.setVm vm₁) (Γ.2.2.2.2.1 107) (Γ.2.2.2.2.1 101) N K (defaultValue .int) N j hj
      rw [hF, hTh] at this
      rw [this, ← arrV_new]
      rfl
    rw [vr_out] at f2
    have hk' := hk _ _ _ _ _ (h hf) F.heap locs la (by have := Wd.rows hW f1 hold hi9 had (by omega) (by omega) hsn f2 hrow; rw [f1, show H.size + 1 + N + 1 = H.size + N + 2 by omega] at this; exact this) hL hlo hr1 hr2
    obtain ⟨t, a1, b1⟩ := hk' F rfl (by
      have e1 : u.1 + (1 + N) = u.1 + 1 + N := by omega
      have e2 : u.2 + (N + N * K) = u.2 + N + N * K := by omega
      rw [e1, e2]
      exact X')
    refine ⟨t, step t ?_, b1⟩
    have e0 : T.heap.size = ad Γ.1 i := by rw [hT]; exact (had 0 (Nat.zero_le _)).symm
    rw [e0]
    exact a1
  · exact h.elim
