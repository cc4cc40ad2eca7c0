/-! the law, 1: a cell is kept over a call; the script -/
def gk (Γ : Gm) (H : Heap) (a : Nat) : Gm := (Γ.1, H, Γ.2.2.1, fun c j => if c = 99 then a + 1 else Γ.2.2.2.1 c j, Γ.2.2.2.2)
def kpI (o : Nat) (v : Int32) (I : Iv) : Iv := fun a b => if a = o then v else I a b
def kpE (o : Nat) (F : Ev) : Ev := (F.1, fun a => if a = o then 104 else F.2.1 a, fun a => if a = o then 1 else F.2.2 a)
section Kept
variable {Γ : Gm} {sh : Sh} {I : Iv} {F : Ev} {H H' : Heap} {o a i : Nat} {v : Int32}
theorem gk_D {k : Nat} (h : k < 99) : (gk Γ H a).2.2.2.1 k = Γ.2.2.2.1 k := by
  funext j
  exact if_neg (by omega)
theorem gk_ck {E : Ev} {H0 : Heap} (h : ck Γ sh I E i H) : ck (gk Γ H0 a) sh I E i H := by
  unfold ck at h ⊢
  by_cases ht : tyc sh E i < 100
  · rw [if_pos ht] at h ⊢
    obtain ⟨r, h1, h2⟩ := h
    have := hcl_lt h1
    refine ⟨r, h1, ?_⟩
    rw [gk_D (by omega)]
    exact h2
  · rw [if_neg ht] at h ⊢
    exact h
theorem ck_gk {E : Ev} {H0 : Heap} (h : ck (gk Γ H0 a) sh I E i H) : ck Γ sh I E i H := by
  unfold ck at h ⊢
  by_cases ht : tyc sh E i < 100
  · rw [if_pos ht] at h ⊢
    obtain ⟨r, h1, h2⟩ := h
    have := hcl_lt h1
    refine ⟨r, h1, ?_⟩
    rw [gk_D (by omega)] at h2
    exact h2
  · rw [if_neg ht] at h ⊢
    exact h
theorem gk_Kn {U : State} (hK : Kn Γ U) (hH : ∀ q, q < Γ.1.1 → H[q]? = Γ.2.1[q]?) : Kn (gk Γ H a) U := by
  refine ⟨⟨fun c q hq => ?_, hK.1.2⟩, fun U' h1 h2 => hK.2.1 U' h1 (fun q hq => (h2 q hq).trans (hH q hq)), hK.2.2⟩
  have h := hK.1.1 c q hq
  have := hcl_lt hq
  show u_Kn U q.1 q.2.1 q.2.2 (Γ.2.2.1 c) ((gk Γ H a).2.2.2.1 c)
  rw [gk_D (by omega)]
  exact h
theorem kpE_ty (h : i ≠ o) : tyc sh (kpE o F) i = tyc sh F i := by
  unfold tyc
  have : (kpE o F).2.1 i = F.2.1 i := if_neg h
  rw [this]
theorem kpE_to (h : sh.1 o = 0) : tyc sh (kpE o F) o = 104 := by
  unfold tyc
  rw [if_pos h]
  exact if_pos rfl
theorem kpE_ln (h : i ≠ o) : len sh (kpE o F) i = len sh F i := by
  unfold len
  have : (kpE o F).2.2 i = F.2.2 i := if_neg h
  rw [this]
theorem kpE_lo (h : sh.1 o = 0) : len sh (kpE o F) o = 1 := by
  unfold len
  rw [if_pos h]
  exact if_pos rfl
theorem kp_vl {B : Nat × Nat} {j : Nat} (h : i ≠ o) : vl B sh (kpI o v I) (kpE o F) i j = vl B sh I F i j := by
  unfold vl
  rw [kpE_ty h]
  have e1 : kpI o v I i j = I i j := if_neg h
  have e2 : rget sh (kpE o F) i j = rget sh F i j := rfl
  rw [e1, e2]
theorem kp_vo {B : Nat × Nat} {j : Nat} (hsh : sh.1 o = 0) : vl B sh (kpI o v I) (kpE o F) o j = .long v.toInt64 := by
  unfold vl
  rw [kpE_to hsh, if_neg (show ¬ rfs 104 j = true from Bool.false_ne_true), if_pos rfl, show kpI o v I o j = v from if_pos rfl]
theorem kp_ck (h : i ≠ o) : ck Γ sh (kpI o v I) (kpE o F) i H ↔ ck Γ sh I F i H := by
  unfold ck
  rw [kpE_ty h, kpE_ln h, show vl Γ.1 sh (kpI o v I) (kpE o F) i = vl Γ.1 sh I F i from funext fun j => kp_vl h]
theorem Wd.kp1 (hsh : sh.1 o = 0) (h9 : o ≠ 999999) (ho : tyc sh F o = 0) (h : Wd Γ sh (kpI o v I) (kpE o F) H) : Wd (gk Γ H (ad Γ.1 o)) sh I F H := by
  obtain ⟨⟨k1, k2, k3⟩, h2, h3, h4⟩ := h
  have hn : ∀ i, tyc sh F i ≠ 0 → i ≠ o := fun i hi e => hi (e ▸ ho)
  have ht : ∀ i, tyc sh F i ≠ 0 → tyc sh (kpE o F) i ≠ 0 := fun i hi => by rw [kpE_ty (hn i hi)]; exact hi
  have hto : tyc sh (kpE o F) o ≠ 0 := by rw [kpE_to hsh]; decide
  refine ⟨⟨k1, by rw [kpE_ty (Ne.symm h9)] at k2; exact k2, ?_⟩, fun q hq => ⟨rfl, fun i hi e => ?_⟩, fun i j hi hj e => h3 i j (ht i hi) (ht j hj) e, fun i hi => ⟨(h4 i (ht i hi)).1, gk_ck ((kp_ck (hn i hi)).mp (h4 i (ht i hi)).2)⟩⟩
  · have e : (kpE o F).2.2 999999 = F.2.2 999999 := if_neg (Ne.symm h9)
    rw [e] at k3
    exact k3
  · rcases hq with hq | ⟨hq, -⟩
    · exact (h2 q (Or.inl hq)).2 i (ht i hi) e
    · have e2 : (gk Γ H (ad Γ.1 o)).2.2.2.1 99 0 = ad Γ.1 o + 1 := by
        unfold gk
        dsimp only
        rw [if_pos rfl]
      rw [e2] at hq
      have e3 : ad Γ.1 i = ad Γ.1 o := by
        have e4 : ad Γ.1 i = q := e
        omega
      exact hn i hi (h3 i o (ht i hi) hto e3)
theorem Wd.kp2 {I' : Iv} {F' : Ev} (hko : Γ.2.2.2.1 99 0 = 0) (hsh : sh.1 o = 0) (h9 : o ≠ 999999) (h : Wd Γ sh (kpI o v I) (kpE o F) H) (h' : Wd (gk Γ H (ad Γ.1 o)) sh I' F' H') : tyc sh F' o = 0 ∧ Wd Γ sh (kpI o v I') (kpE o F') H' := by
  obtain ⟨⟨k1, k2, k3⟩, h2, h3, h4⟩ := h
  obtain ⟨⟨l1, l2, l3⟩, g2, g3, g4⟩ := h'
  have hto : tyc sh (kpE o F) o ≠ 0 := by rw [kpE_to hsh]; decide
  obtain ⟨c1, c2⟩ := h4 o hto
  unfold ck at c2
  rw [kpE_to hsh, if_neg (by decide), kpE_lo hsh] at c2
  have hlt : ad Γ.1 o < H.size := (Array.getElem?_eq_some_iff.mp c2.2).1
  have hl : low (gk Γ H (ad Γ.1 o)) (ad Γ.1 o) := Or.inr ⟨(if_pos rfl : (if (99 : Nat) = 99 then ad Γ.1 o + 1 else Γ.2.2.2.1 99 0) = ad Γ.1 o + 1).symm, hlt⟩
  obtain ⟨z1, z2⟩ := g2 _ hl
  have hz : H'[ad Γ.1 o]? = H[ad Γ.1 o]? := z1
  have ho' : tyc sh F' o = 0 := by
    by_cases q : tyc sh F' o = 0
    · exact q
    · exact absurd rfl (z2 o q)
  have hn : ∀ i, tyc sh F' i ≠ 0 → i ≠ o := fun i hi e => hi (e ▸ ho')
  refine ⟨ho', ⟨l1, by rw [kpE_ty (Ne.symm h9)]; exact l2, ?_⟩, fun q hq => ?_, fun i j hi hj e => ?_, fun i hi => ?_⟩
  · have e : (kpE o F').2.2 999999 = F'.2.2 999999 := if_neg (Ne.symm h9)
    rw [e]
    exact l3
  · rcases hq with hq | ⟨hq, -⟩
    · obtain ⟨y1, y2⟩ := g2 q (Or.inl hq)
      have y1' : H'[q]? = H[q]? := y1
      refine ⟨by rw [y1']; exact (h2 q (Or.inl hq)).1, fun i hi e => ?_⟩
      by_cases ei : i = o
      · subst ei
        omega
      · rw [kpE_ty ei] at hi
        exact y2 i hi e
    · rw [hko] at hq
      omega
  · by_cases ei : i = o <;> by_cases ej : j = o
    · rw [ei, ej]
    · rw [kpE_ty ej] at hj
      subst ei
      exact absurd e.symm (z2 j hj)
    · rw [kpE_ty ei] at hi
      subst ej
      exact absurd e (z2 i hi)
    · rw [kpE_ty ei] at hi
      rw [kpE_ty ej] at hj
      exact g3 i j hi hj e
  · by_cases ei : i = o
    · subst ei
      refine ⟨c1, ?_⟩
      unfold ck
      rw [kpE_to hsh, if_neg (by decide), kpE_lo hsh]
      refine ⟨by omega, ?_⟩
      rw [hz, c2.2]
      refine congrArg some (arrV_ext (fun b _ => ?_))
      rw [kp_vo hsh, kp_vo hsh]
    · rw [kpE_ty ei] at hi
      exact ⟨(g4 i hi).1, (kp_ck ei).mpr (ck_gk (g4 i hi).2)⟩
end Kept
theorem ex_kp {Γ : Gm} {l : Launch} {sh : Sh} {d : Nat} {M : Uv} {mt : Mt} {av : List Value} {I : Iv} {F : Ev} {kr : Kr} {kx : Kxx} {o : Nat} {v : Int32} (hko : Γ.2.2.2.1 99 0 = 0) (hsh : sh.1 o = 0) (h9 : o ≠ 999999) (ho : tyc sh F o = 0)
    (h : ∀ H, Ex (gk Γ H (ad Γ.1 o)) l sh d M mt av I F (fun r I' F' => tyc sh F' o = 0 → kr r (kpI o v I') (kpE o F')) (fun C I' F' => tyc sh F' o = 0 → kx C (kpI o v I') (kpE o F'))) : Ex Γ l sh d M mt av (kpI o v I) (kpE o F) kr kx := by
  intro p e h1 h2 h3 s m args below h4 h5 h6 h7
  obtain ⟨ha, hW, hK⟩ := h6
  obtain ⟨k, ou, a1, a2, a3, a4⟩ := h s.heap p e h1 h2 h3 s m args below h4 h5 ⟨ha, hW.kp1 hsh h9 ho, gk_Kn hK (fun q hq => (hW.2.1 q (Or.inl hq)).1)⟩ h7
  refine ⟨k, ou, a1, a2, a3, ?_⟩
  rcases a4 with ⟨⟨r, I', F', q1, q2, q3⟩, q5⟩ | ⟨q, q1, C, ce, L, ⟨I', F', q2, q3⟩, q5⟩
  · obtain ⟨b1, b2⟩ := hW.kp2 hko hsh h9 q2
    exact Or.inl ⟨⟨r, _, _, q1, b2, q3 b1⟩, q5⟩
  · obtain ⟨b1, b2⟩ := hW.kp2 hko hsh h9 q2
    exact Or.inr ⟨q, q1, C, ce, L, ⟨_, _, b2, q3 b1⟩, q5⟩
theorem gk_GdX {Γ : Gm} {l : Launch} {H : Heap} {a : Nat} (h : GdX Γ l) : GdX (gk Γ H a) l := h
/-- a call of class or model, out of the law: the out cell stays -/
theorem ex_law {Γ : Gm} {l : Launch} {d : Nat} {M : Uv} {mt : Mt} {av : List Value} {K : Iv} {F : Ev} {kr : Kr} {kx : Kxx} {o : Nat} {v : Int32} (hko : Γ.2.2.2.1 99 0 = 0) (h9 : o ≠ 999999) (hG : GdX Γ l) (ho : tyc shN F o = 0)
    (h : ∀ Γ', GdX Γ' l → Ex Γ' l shN d M mt av K F (fun r K' F' => tyc shN F' o = 0 → kr r (kpI o v K') (kpE o (flE shN F'))) (fun C K' F' => tyc shN F' o = 0 → kx C (kpI o v K') (kpE o (flE shN F')))) : Ex Γ l sh0 d M mt av (kpI o v K) (kpE o (flE shN F)) kr kx := by
  refine ex_kp hko rfl h9 (by rw [fl_ty]; exact ho) (fun H => ex_vw (sh' := shN) (E' := F) (fun H h => h.unf) ?_)
  have h5 := h (gk Γ H (ad Γ.1 o)) (gk_GdX hG)
  intro p e h1 h2 h3 s m args below h4 h5' h6 h7
  obtain ⟨k, ou, a1, a2, a3, a4⟩ := h5 p e h1 h2 h3 s m args below h4 h5' h6 h7
  refine ⟨k, ou, a1, a2, a3, ?_⟩
  rcases a4 with ⟨⟨r, I', F', q1, q2, q3⟩, q5⟩ | ⟨q, q1, C, ce, L, ⟨I', F', q2, q3⟩, q5⟩
  · exact Or.inl ⟨⟨r, I', F', q1, q2, flE shN F', fun H h => h.fl, fun t => q3 (by rw [fl_ty] at t; exact t)⟩, q5⟩
  · exact Or.inr ⟨q, q1, C, ce, L, ⟨I', F', q2, flE shN F', fun H h => h.fl, fun t => q3 (by rw [fl_ty] at t; exact t)⟩, q5⟩
/-- the script -/
def GV (Γ : Gm) (b L : Nat) (xs : Nat → Int32) : Prop := L ≤ 4096 ∧ ∀ U, Γ.2.2.2.2.2 U → va_X b L xs U U.heap
theorem gv_at {Γ : Gm} {b L : Nat} {xs : Nat → Int32} {sh : Sh} {I : Iv} {E : Ev} {H : Heap} {s : State} (hG : GV Γ b L xs) (hK : Kn Γ s) (hW : Wd Γ sh I E H) : va_X b L xs s H := va_X.moved (u := { s with heap := H }) (Vm.Alike.refl s.vm) (hG.2 _ (hK.2.1 _ (Vm.Alike.refl s.vm) (fun q hq => (hW.2.1 q (Or.inl hq)).1)))
def iSCL : Ir := (fun κ ls st I E u k => match st with | .ref i :: r => ∃ b L xs, i = 1000000 + b ∧ GV κ.2.2.2.1 b L xs ∧ k ls (.int (nI L) :: r) I E u | _ => False, (.arraylength, 1), fun _ => true)
theorem eSCL {g : Go} {kr : Kr} {kx : Kxx} {Γ : Gm} {l : Launch} {sh : Sh} {d : Nat} {M : Uv} {ret : Option FieldType} {ls : Lv} {r : List Value} {I : Iv} {E : Ev} {u : Uv} {k : Lv → List Value → Iv → Ev → Uv → Prop} {i : Nat} : iSCL.1 (g, kr, kx, Γ, l, sh, d, M, ret) ls (.ref i :: r) I E u k = (∃ b L xs, i = 1000000 + b ∧ GV Γ b L xs ∧ k ls (.int (nI L) :: r) I E u) := rfl
theorem sSCL {own : String} : Snd own iSCL := by
  intro p l e s m args below meth c Γ sh d M nL cc ret go kr kx pc ls st I E u k hC hgo hd hq h hk
  simp only [iSCL] at h
  split at h
  · rename_i i r
    obtain ⟨b, L, xs, rfl, hG, h⟩ := h
    intro H locs la hW hL hlo h1 h2
    obtain ⟨cell, q1, q2, q3, q4, q5⟩ := gv_at hG hC.2.2.2.2.2.1 hW
    rw [List.map_cons, show rv Γ.1 (.ref (1000000 + b)) = .ref (ad Γ.1 (1000000 + b)) from rfl, ad_far]
    exact W.alen hC.1 hC.2.1 q1 q2 (by rw [q4]; rfl) rfl rfl hd (hk _ _ _ _ _ h H locs la hW hL hlo h1 h2)
  · exact h.elim
def iSCA : Ir := (fun κ ls st I E u k => match st with | .int x :: .ref i :: r => ∃ b L xs, i = 1000000 + b ∧ GV κ.2.2.2.1 b L xs ∧ ∃ n, x = nI n ∧ n < L ∧ k ls (.int (xs n) :: r) I E u | _ => False, (.iaload, 1), fun _ => true)
theorem eSCA {g : Go} {kr : Kr} {kx : Kxx} {Γ : Gm} {l : Launch} {sh : Sh} {d : Nat} {M : Uv} {ret : Option FieldType} {ls : Lv} {r : List Value} {I : Iv} {E : Ev} {u : Uv} {k : Lv → List Value → Iv → Ev → Uv → Prop} {i : Nat} {x : Int32} : iSCA.1 (g, kr, kx, Γ, l, sh, d, M, ret) ls (.int x :: .ref i :: r) I E u k = (∃ b L xs, i = 1000000 + b ∧ GV Γ b L xs ∧ ∃ n, x = nI n ∧ n < L ∧ k ls (.int (xs n) :: r) I E u) := rfl
theorem sSCA {own : String} : Snd own iSCA := by
  intro p l e s m args below meth c Γ sh d M nL cc ret go kr kx pc ls st I E u k hC hgo hd hq h hk
  simp only [iSCA] at h
  split at h
  · rename_i x i r
    obtain ⟨b, L, xs, rfl, hG, n, rfl, hn, h⟩ := h
    intro H locs la hW hL hlo h1 h2
    obtain ⟨cell, q1, q2, q3, q4, q5⟩ := gv_at hG hC.2.2.2.2.2.1 hW
    have h40 := hG.1
    rw [List.map_cons, List.map_cons, show rv Γ.1 (.ref (1000000 + b)) = .ref (ad Γ.1 (1000000 + b)) from rfl, ad_far]
    have hcl : (nI n).toNatClampNeg = n := nI_clamp (by omega)
    exact W.iald (v := .int (xs n)) hC.1 hC.2.1 q1 q2 q3 (ix_in hn (by omega) (by omega)) (by rw [hcl]; exact q5 n hn) rfl rfl hd (hk _ _ _ _ _ h H locs la hW hL hlo h1 h2)
  · exact h.elim
