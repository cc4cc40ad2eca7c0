/-! contracts of HerbWatersModel, 5: opinions' worth -/
def byF (w u v : Int32) : Int32 := if w = nI 2 then u + v else if w = nI 3 then u - v else if w = nI 4 ∨ w = nI 10 then u * v else if w = nI 5 then (if v = nI 0 then nI 0 else if v = -1 then -u else u / v) else if w = nI 6 then bi (u < v) else if w = nI 7 then bi (v < u) else if w = nI 8 then bi (u = v) else bi (nI 0 < u + v)
def dn (w : Int32) (n : Nat) : Nat := if w < nI 2 then n + 1 else if w = nI 9 then n else n - 1
def ws1 (w i : Int32) (kn : Nat → Int32) (s : Nat → Int32) (n : Nat) : Nat → Int32 :=
  if w < nI 2 then ru s n (if w = nI 0 then i else kn i.toNatClampNeg) else if w = nI 9 then ru s (n - 1) (nI 1 - s (n - 1)) else ru s (n - 2) (byF w (s (n - 2)) (s (n - 1)))
/-- m codes from the k-th on, over a stack s of n -/
def wst (cf kn : Nat → Int32) : Nat → Nat → (Nat → Int32) → Nat → (Nat → Int32)
  | _, 0, s, _ => s
  | k, m + 1, s, n => wst cf kn (k + 1) m (ws1 (cf (2 * k)) (cf (2 * k + 1)) kn s n) (dn (cf (2 * k)) n)
def wfW (cf : Nat → Int32) : Nat → Nat → Nat → Prop
  | _, 0, _ => True
  | k, m + 1, n => (if cf (2 * k) < nI 2 then n < 160 ∧ (cf (2 * k) = nI 0 ∨ ∃ i, i < 7 ∧ cf (2 * k + 1) = nI i) else if cf (2 * k) = nI 9 then 1 ≤ n else 2 ≤ n) ∧ n ≤ 160 ∧ wfW cf (k + 1) m (dn (cf (2 * k)) n)
section CM5
variable {Γ : Gm} {l : Launch} {d : Nat} {I : Iv} {E : Ev} {kr : Kr} {kx : Kxx}
theorem c_worth {v k0 k1 : Nat} (hv : v < 9) (hk : k0 ≤ k1) (hk1 : k1 ≤ 160) (hwf : wfW (I (500080 + v)) k0 (k1 - k0) 0)
    (h : kr (some (.int (wst (I (500080 + v)) (I 500092) k0 (k1 - k0) (I 500091) 0 0))) (sr I 500091 (wst (I (500080 + v)) (I 500092) k0 (k1 - k0) (I 500091) 0)) E) : Ex Γ l shN (d + 2) (0, 0) mM_worth [.ref 500000, .int (nI v), .int (nI k0), .int (nI k1)] I E kr kx := by
  refine ex_of (ls0 := [some (.ref 500000), some (.int (nI v)), some (.int (nI k0)), some (.int (nI k1)), none, none, none, none]) tM_worth (by decide +kernel) kM_worth rfl (Nat.le_of_ble_eq_true rfl) rfl ?_
  intro go hgo
  have es : ∀ r, sr I 500091 r 500091 = r := fun r => sr_s
  have e1 : ∀ r, sr I 500091 r (500080 + v) = I (500080 + v) := fun r => sr_n (by omega)
  have e2 : ∀ r, sr I 500091 r 500092 = I 500092 := fun r => sr_n (by omega)
  have loop : ∀ (g k n : Nat) (s : Nat → Int32) (t1 t2 : Option Value), g + k = k1 → wfW (I (500080 + v)) k g n → wst (I (500080 + v)) (I 500092) k g s n = wst (I (500080 + v)) (I 500092) k0 (k1 - k0) (I 500091) 0 →
      go 6 [some (.ref 500000), some (.int (nI v)), some (.int (nI k0)), some (.int (nI k1)), some (.int (nI n)), some (.int (nI k)), t1, t2] [] (sr I 500091 s) E (0, 0) := by
    intro g
    induction g with
    | zero =>
      intro k n s t1 t2 hg _ hs
      have : k = k1 := by omega
      subst this
      refine hgo 20 [6] 6 _ _ _ _ _ ?_
      simp only [ixr_of, run_s, run_0, rM_worth, rok_i, rok_z, bx_cons, bx_nil, eAALD107, eADD, eBP, eC0, eC1, eC2, eCS3, eDEC4, eGO, eGR, eIALD, eIAST, jICge, jICne, jIFne, eINC4, eINC5, eLA0, eLI1, eLI2, eLI3, eLI4, eLI5, eLI6, eLI7, eMUL, eRI, eSI4, eSI5, eSI6, eSI7, eSUB, fM_worth_0, fM_worth_6, fM_worth_12, fM_worth_46, fM_worth_57, fM_worth_62, fM_worth_69, fM_worth_76, fM_worth_83, fM_worth_106, fM_worth_139, fM_worth_145, bM_worth_0, bM_worth_6, bM_worth_12, bM_worth_46, bM_worth_57, bM_worth_62, bM_worth_69, bM_worth_76, bM_worth_83, bM_worth_106, bM_worth_139, bM_worth_145, ln_mcode, ln_mknown, ln_mstack, rg_m_20, rg_m_23, rg_m_24, ty_m, ty_mcode, ty_mknown, ty_mstack, Option.toList_some, Option.toList_none, List.cons_append, List.nil_append, List.length_cons, List.length_nil, List.mem_cons, List.not_mem_nil, or_false, false_or, or_true, true_or, ↓reduceIte, true_and, and_true, Nat.reduceEqDiff, Nat.reduceAdd, Nat.reduceLeDiff, Nat.reduceLT, dl_i, dl_r, dl_n, dl_u, eq_self, not_true_eq_false, not_false_eq_true, n10, n01, nm0, n0m, es, imp_t, imp_f]
      have hs' : s = wst (I (500080 + v)) (I 500092) k0 (k - k0) (I 500091) 0 := hs
      rw [← hs'] at h
      exact ⟨fun _ => h, fun q => absurd (Int32.le_refl _) q⟩
    | succ g ih =>
      intro k n s t1 t2 hg hw hs
      obtain ⟨hw1, hn, hw2⟩ := hw
      rw [wst] at hs
      have ih' := fun t1 t2 => ih (k + 1) _ _ t1 t2 (by omega) hw2 hs
      have hv9 : v < 9 := hv
      have hi0 : 2 * k < 320 := by omega
      have hi1 : 2 * k + 1 < 320 := by omega
      refine hgo 20 [6] 6 _ _ _ _ _ ?_
      simp only [ixr_of, run_s, run_0, rM_worth, rok_i, rok_z, bx_cons, bx_nil, eAALD107, eADD, eBP, eC0, eC1, eC2, eCS3, eDEC4, eGO, eGR, eIALD, eIAST, jICge, jICne, jIFne, eINC4, eINC5, eLA0, eLI1, eLI2, eLI3, eLI4, eLI5, eLI6, eLI7, eMUL, eRI, eSI4, eSI5, eSI6, eSI7, eSUB, fM_worth_0, fM_worth_6, fM_worth_12, fM_worth_46, fM_worth_57, fM_worth_62, fM_worth_69, fM_worth_76, fM_worth_83, fM_worth_106, fM_worth_139, fM_worth_145, bM_worth_0, bM_worth_6, bM_worth_12, bM_worth_46, bM_worth_57, bM_worth_62, bM_worth_69, bM_worth_76, bM_worth_83, bM_worth_106, bM_worth_139, bM_worth_145, ln_mcode, ln_mknown, ln_mstack, rg_m_20, rg_m_23, rg_m_24, ty_m, ty_mcode, ty_mknown, ty_mstack, Option.toList_some, Option.toList_none, List.cons_append, List.nil_append, List.length_cons, List.length_nil, List.mem_cons, List.not_mem_nil, or_false, false_or, or_true, true_or, ↓reduceIte, true_and, and_true, Nat.reduceEqDiff, Nat.reduceAdd, Nat.reduceLeDiff, Nat.reduceLT, dl_i, dl_r, dl_n, dl_u, eq_self, not_true_eq_false, not_false_eq_true, n10, n01, nm0, n0m, imp_t, imp_f]
      rw [nI_leI (by omega) (by omega)]
      refine ⟨fun q => absurd q (by omega), fun _ => ?_⟩
      simp only [ixr_of, run_s, run_0, rM_worth, rok_i, rok_z, bx_cons, bx_nil, eAALD107, eADD, eBP, eC0, eC1, eC2, eCS3, eDEC4, eGO, eGR, eIALD, eIAST, jICge, jICne, jIFne, eINC4, eINC5, eLA0, eLI1, eLI2, eLI3, eLI4, eLI5, eLI6, eLI7, eMUL, eRI, eSI4, eSI5, eSI6, eSI7, eSUB, fM_worth_0, fM_worth_6, fM_worth_12, fM_worth_46, fM_worth_57, fM_worth_62, fM_worth_69, fM_worth_76, fM_worth_83, fM_worth_106, fM_worth_139, fM_worth_145, bM_worth_0, bM_worth_6, bM_worth_12, bM_worth_46, bM_worth_57, bM_worth_62, bM_worth_69, bM_worth_76, bM_worth_83, bM_worth_106, bM_worth_139, bM_worth_145, ln_mcode, ln_mknown, ln_mstack, rg_m_20, rg_m_23, rg_m_24, ty_m, ty_mcode, ty_mknown, ty_mstack, Option.toList_some, Option.toList_none, List.cons_append, List.nil_append, List.length_cons, List.length_nil, List.mem_cons, List.not_mem_nil, or_false, false_or, or_true, true_or, ↓reduceIte, true_and, and_true, Nat.reduceEqDiff, Nat.reduceAdd, Nat.reduceLeDiff, Nat.reduceLT, dl_i, dl_r, dl_n, dl_u, eq_self, not_true_eq_false, not_false_eq_true, n10, n01, nm0, n0m, hv9, rg_mcode hv9, tr_mcode hv9, lr_mcode hv9, pk_mul, nI_add, hi0, hi1, e1, e2, es, imp_t, imp_f]
      obtain ⟨w, hw⟩ : ∃ w, w = I (500080 + v) (2 * k) := ⟨_, rfl⟩
      obtain ⟨i, hi⟩ : ∃ i, i = I (500080 + v) (2 * k + 1) := ⟨_, rfl⟩
      rw [← hw] at hw1 ih' ⊢
      rw [← hi] at hw1 ih' ⊢
      unfold dn ws1 at ih'
      refine ⟨fun q => ?_, fun q => ?_⟩
      · have q' := i32_nlt.mpr q
        rw [if_neg q'] at hw1
        simp only [if_neg q'] at ih'
        refine ⟨fun q9 => ?_, fun q9 => ?_⟩
        · rw [if_neg q9] at hw1
          simp only [if_neg q9] at ih'
          have j1 : nI n - nI 1 = nI (n - 1) := pk_sub (by omega)
          have j2 : nI (n - 1) - nI 1 = nI (n - 2) := pk_sub (by omega)
          have hn1 : n - 1 < 160 := by omega
          have hn2 : n - 2 < 160 := by omega
          simp only [j1, j2, ixr_of, hn1, hn2, Nat.reduceLeDiff]
          refine call0 (c_by ?_)
          simp only [ixr_of, run_s, run_0, rM_worth, rok_i, rok_z, bx_cons, bx_nil, eAALD107, eADD, eBP, eC0, eC1, eC2, eCS3, eDEC4, eGO, eGR, eIALD, eIAST, jICge, jICne, jIFne, eINC4, eINC5, eLA0, eLI1, eLI2, eLI3, eLI4, eLI5, eLI6, eLI7, eMUL, eRI, eSI4, eSI5, eSI6, eSI7, eSUB, fM_worth_0, fM_worth_6, fM_worth_12, fM_worth_46, fM_worth_57, fM_worth_62, fM_worth_69, fM_worth_76, fM_worth_83, fM_worth_106, fM_worth_139, fM_worth_145, bM_worth_0, bM_worth_6, bM_worth_12, bM_worth_46, bM_worth_57, bM_worth_62, bM_worth_69, bM_worth_76, bM_worth_83, bM_worth_106, bM_worth_139, bM_worth_145, ln_mcode, ln_mknown, ln_mstack, rg_m_20, rg_m_23, rg_m_24, ty_m, ty_mcode, ty_mknown, ty_mstack, Option.toList_some, Option.toList_none, List.cons_append, List.nil_append, List.length_cons, List.length_nil, List.mem_cons, List.not_mem_nil, or_false, false_or, or_true, true_or, ↓reduceIte, true_and, and_true, Nat.reduceEqDiff, Nat.reduceAdd, Nat.reduceLeDiff, Nat.reduceLT, dl_i, dl_r, dl_n, dl_u, eq_self, not_true_eq_false, not_false_eq_true, n10, n01, nm0, n0m, j1, j2, hn1, hn2, es, up_sr, nI_add, imp_t, imp_f]
          exact ih' _ _
        · rw [if_pos q9] at hw1
          simp only [if_pos q9] at ih'
          have j1 : nI n - nI 1 = nI (n - 1) := pk_sub (by omega)
          have hn1 : n - 1 < 160 := by omega
          simp only [j1, ixr_of, hn1, Nat.reduceLeDiff, es, up_sr]
          exact ih' _ _
      · have q' := i32_nle.mp q
        rw [if_pos q'] at hw1
        simp only [if_pos q'] at ih'
        have hn1 : n < 160 := hw1.1
        refine ⟨fun q0 => ?_, fun q0 => ?_⟩
        · simp only [if_neg q0] at ih'
          rcases hw1.2 with e | ⟨i7, hi7, e⟩
          · exact absurd e q0
          · rw [e]
            rw [e, nI_clamp (by omega)] at ih'
            simp only [ixr_of, hi7, hn1, Nat.reduceLeDiff, up_sr]
            exact ih' _ _
        · simp only [if_pos q0] at ih'
          simp only [ixr_of, hn1, Nat.reduceLeDiff, up_sr]
          exact ih' _ _
  have h0 := loop (k1 - k0) k0 0 (I 500091) none none (by omega) hwf rfl
  rw [sr_id] at h0
  refine hgo 20 [6] 0 _ _ _ _ _ ?_
  simp only [ixr_of, run_s, run_0, rM_worth, rok_i, rok_z, bx_cons, bx_nil, eAALD107, eADD, eBP, eC0, eC1, eC2, eCS3, eDEC4, eGO, eGR, eIALD, eIAST, jICge, jICne, jIFne, eINC4, eINC5, eLA0, eLI1, eLI2, eLI3, eLI4, eLI5, eLI6, eLI7, eMUL, eRI, eSI4, eSI5, eSI6, eSI7, eSUB, fM_worth_0, fM_worth_6, fM_worth_12, fM_worth_46, fM_worth_57, fM_worth_62, fM_worth_69, fM_worth_76, fM_worth_83, fM_worth_106, fM_worth_139, fM_worth_145, bM_worth_0, bM_worth_6, bM_worth_12, bM_worth_46, bM_worth_57, bM_worth_62, bM_worth_69, bM_worth_76, bM_worth_83, bM_worth_106, bM_worth_139, bM_worth_145, ln_mcode, ln_mknown, ln_mstack, rg_m_20, rg_m_23, rg_m_24, ty_m, ty_mcode, ty_mknown, ty_mstack, Option.toList_some, Option.toList_none, List.cons_append, List.nil_append, List.length_cons, List.length_nil, List.mem_cons, List.not_mem_nil, or_false, false_or, or_true, true_or, ↓reduceIte, true_and, and_true, Nat.reduceEqDiff, Nat.reduceAdd, Nat.reduceLeDiff, Nat.reduceLT, dl_i, dl_r, dl_n, dl_u, eq_self, not_true_eq_false, not_false_eq_true, n10, n01, nm0, n0m, imp_t, imp_f]
  exact h0
/-- what the part p of v's opinion puts, and the stack behind it -/
def pu1 (I : Iv) (v p : Nat) : Nat → Int32 := if I (500070 + v) (4 * p + 2) < I (500070 + v) (4 * p + 3) then wst (I (500080 + v)) (I 500092) (I (500070 + v) (4 * p + 2)).toNatClampNeg ((I (500070 + v) (4 * p + 3)).toNatClampNeg - (I (500070 + v) (4 * p + 2)).toNatClampNeg) (I 500091) 0 else I 500091
def puC (I : Iv) (v p : Nat) : Prop := I (500070 + v) (4 * p + 2) < I (500070 + v) (4 * p + 3) ∧ pu1 I v p 0 = nI 0
def pu2 (I : Iv) (v p : Nat) : Nat → Int32 := wst (I (500080 + v)) (I 500092) (I (500070 + v) (4 * p + 1)).toNatClampNeg ((I (500070 + v) (4 * p + 2)).toNatClampNeg - (I (500070 + v) (4 * p + 1)).toNatClampNeg) (pu1 I v p) 0
def clF (x : Int32) : Int32 := if x < nI 0 then nI 0 else if x < nI 99 then x else nI 99
def puV (I : Iv) (v p : Nat) : Int32 := if I (500016 + v) 4 = nI 1 then clF (pu2 I v p 0) / nI 2 else clF (pu2 I v p 0)
/-- a part that was read well -/
def wfP (I : Iv) (v p : Nat) : Prop := ∃ c1 c2 c3 : Nat, I (500070 + v) (4 * p + 1) = nI c1 ∧ I (500070 + v) (4 * p + 2) = nI c2 ∧ I (500070 + v) (4 * p + 3) = nI c3 ∧ c1 ≤ c2 ∧ c2 ≤ c3 ∧ c3 ≤ 160 ∧ wfW (I (500080 + v)) c1 (c2 - c1) 0 ∧ wfW (I (500080 + v)) c2 (c3 - c2) 0
theorem c_puts {v p : Nat} (hv : v < 9) (hp : p < 6) (hwf : wfP I v p) (h1 : puC I v p → kr (some (.int (nI 0))) (sr I 500091 (pu1 I v p)) E) (h2 : ¬ puC I v p → kr (some (.int (puV I v p))) (sr I 500091 (pu2 I v p)) E) : Ex Γ l shN (d + 3) (0, 0) mM_puts [.ref 500000, .int (nI v), .int (nI p)] I E kr kx := by
  obtain ⟨c1, c2, c3, q1, q2, q3, l1, l2, l3, w1, w2⟩ := hwf
  unfold puC pu1 at h1
  unfold puC puV pu2 pu1 at h2
  refine ex_of (ls0 := [some (.ref 500000), some (.int (nI v)), some (.int (nI p)), none, none]) tM_puts (by decide +kernel) kM_puts rfl (Nat.le_of_ble_eq_true rfl) rfl ?_
  intro go hgo
  have hv9 : v < 9 := hv
  have i1 : 4 * p + 1 < 24 := by omega
  have i2 : 4 * p + 2 < 24 := by omega
  have i3 : 4 * p + 3 < 24 := by omega
  have es : ∀ r, sr I 500091 r 500091 = r := fun r => sr_s
  have e1 : ∀ r, sr I 500091 r (500080 + v) = I (500080 + v) := fun r => sr_n (by omega)
  have e2 : ∀ r, sr I 500091 r 500092 = I 500092 := fun r => sr_n (by omega)
  have e3 : ∀ r, sr I 500091 r (500070 + v) = I (500070 + v) := fun r => sr_n (by omega)
  have e4 : ∀ r, sr I 500091 r (500016 + v) = I (500016 + v) := fun r => sr_n (by omega)
  have c2c : (nI c2).toNatClampNeg = c2 := nI_clamp (by omega)
  have c1c : (nI c1).toNatClampNeg = c1 := nI_clamp (by omega)
  have c3c : (nI c3).toNatClampNeg = c3 := nI_clamp (by omega)
  simp only [q1, q2, q3, c1c, c2c, c3c, nI_ltI (show c2 < 2 ^ 31 by omega) (show c3 < 2 ^ 31 by omega)] at h1 h2
  have fin : ∀ s0 : Nat → Int32, (kr (some (.int (if I (500016 + v) 4 = nI 1 then clF (wst (I (500080 + v)) (I 500092) c1 (c2 - c1) s0 0 0) / nI 2 else clF (wst (I (500080 + v)) (I 500092) c1 (c2 - c1) s0 0 0)))) (sr I 500091 (wst (I (500080 + v)) (I 500092) c1 (c2 - c1) s0 0)) E) →
      go 48 [some (.ref 500000), some (.int (nI v)), some (.int (nI p)), some (.ref (500070 + v)), none] [] (sr I 500091 s0) E (0, 0) := by
    intro s0 hk
    refine hgo 20 [85] 48 _ _ _ _ _ ?_
    simp only [ixr_of, run_s, run_0, rM_puts, rok_i, rok_z, bx_cons, bx_nil, eAALD107, eADD, eBP, eC0, eC1, eC2, eC3, eC4, eCS2, eCV3, eDIV, eGO, eGR, eIALD, jICle, jICne, jIFge, jIFne, eLA0, eLA3, eLI1, eLI2, eLI4, eMUL, eRI, eSA3, eSI4, fM_puts_0, fM_puts_24, fM_puts_46, fM_puts_48, fM_puts_74, fM_puts_78, fM_puts_85, fM_puts_99, fM_puts_106, fM_puts_108, bM_puts_0, bM_puts_24, bM_puts_46, bM_puts_48, bM_puts_74, bM_puts_78, bM_puts_85, bM_puts_99, bM_puts_106, bM_puts_108, ln_mpart, ln_mvillage, rg_m_14, rg_m_19, ty_m, ty_mpart, ty_mvillage, Option.toList_some, Option.toList_none, List.cons_append, List.nil_append, List.length_cons, List.length_nil, List.mem_cons, List.not_mem_nil, or_false, false_or, or_true, true_or, ↓reduceIte, true_and, and_true, Nat.reduceEqDiff, Nat.reduceAdd, Nat.reduceLeDiff, Nat.reduceLT, dl_i, dl_r, dl_n, dl_u, eq_self, not_true_eq_false, not_false_eq_true, n10, n01, nm0, n0m, hv9, tr_mpart hv9, lr_mpart hv9, pk_mul, nI_add, i1, i2, i3, e3, q1, q2, q3, imp_t, imp_f]
    refine call0 (c_worth hv l1 (by omega) (by rw [e1]; exact w1) ?_)
    simp only [e1, e2, es, sr_sr]
    simp only [ixr_of, run_s, run_0, rM_puts, rok_i, rok_z, bx_cons, bx_nil, eAALD107, eADD, eBP, eC0, eC1, eC2, eC3, eC4, eCS2, eCV3, eDIV, eGO, eGR, eIALD, jICle, jICne, jIFge, jIFne, eLA0, eLA3, eLI1, eLI2, eLI4, eMUL, eRI, eSA3, eSI4, fM_puts_0, fM_puts_24, fM_puts_46, fM_puts_48, fM_puts_74, fM_puts_78, fM_puts_85, fM_puts_99, fM_puts_106, fM_puts_108, bM_puts_0, bM_puts_24, bM_puts_46, bM_puts_48, bM_puts_74, bM_puts_78, bM_puts_85, bM_puts_99, bM_puts_106, bM_puts_108, ln_mpart, ln_mvillage, rg_m_14, rg_m_19, ty_m, ty_mpart, ty_mvillage, Option.toList_some, Option.toList_none, List.cons_append, List.nil_append, List.length_cons, List.length_nil, List.mem_cons, List.not_mem_nil, or_false, false_or, or_true, true_or, ↓reduceIte, true_and, and_true, Nat.reduceEqDiff, Nat.reduceAdd, Nat.reduceLeDiff, Nat.reduceLT, dl_i, dl_r, dl_n, dl_u, eq_self, not_true_eq_false, not_false_eq_true, n10, n01, nm0, n0m, hv9, imp_t, imp_f]
    generalize wst (I (500080 + v)) (I 500092) c1 (c2 - c1) s0 0 = s1 at hk ⊢
    have f87 : go 85 [some (.ref 500000), some (.int (nI v)), some (.int (nI p)), some (.ref (500070 + v)), some (.int (s1 0))] [.int (clF (s1 0))] (sr I 500091 s1) E (0, 0) := by
      refine hgo 20 [] 85 _ _ _ _ _ ?_
      simp only [ixr_of, run_s, run_0, rM_puts, rok_i, rok_z, bx_cons, bx_nil, eAALD107, eADD, eBP, eC0, eC1, eC2, eC3, eC4, eCS2, eCV3, eDIV, eGO, eGR, eIALD, jICle, jICne, jIFge, jIFne, eLA0, eLA3, eLI1, eLI2, eLI4, eMUL, eRI, eSA3, eSI4, fM_puts_0, fM_puts_24, fM_puts_46, fM_puts_48, fM_puts_74, fM_puts_78, fM_puts_85, fM_puts_99, fM_puts_106, fM_puts_108, bM_puts_0, bM_puts_24, bM_puts_46, bM_puts_48, bM_puts_74, bM_puts_78, bM_puts_85, bM_puts_99, bM_puts_106, bM_puts_108, ln_mpart, ln_mvillage, rg_m_14, rg_m_19, ty_m, ty_mpart, ty_mvillage, Option.toList_some, Option.toList_none, List.cons_append, List.nil_append, List.length_cons, List.length_nil, List.mem_cons, List.not_mem_nil, or_false, false_or, or_true, true_or, ↓reduceIte, true_and, and_true, Nat.reduceEqDiff, Nat.reduceAdd, Nat.reduceLeDiff, Nat.reduceLT, dl_i, dl_r, dl_n, dl_u, eq_self, not_true_eq_false, not_false_eq_true, n10, n01, nm0, n0m, hv9, rg_mvillage hv9, tr_mvillage hv9, lr_mvillage hv9, e4, imp_t, imp_f]
      refine ⟨fun q => ?_, fun q => ⟨by decide, ?_⟩⟩
      · rw [if_neg q] at hk; exact hk
      · rw [if_pos q] at hk; exact hk
    unfold clF at f87
    refine ⟨fun q => ?_, fun q => ?_⟩
    · rw [if_neg (i32_nlt.mpr q)] at f87
      refine call0 (c_less ?_)
      simp only [ixr_of, run_s, run_0, rM_puts, rok_i, rok_z, bx_cons, bx_nil, eAALD107, eADD, eBP, eC0, eC1, eC2, eC3, eC4, eCS2, eCV3, eDIV, eGO, eGR, eIALD, jICle, jICne, jIFge, jIFne, eLA0, eLA3, eLI1, eLI2, eLI4, eMUL, eRI, eSA3, eSI4, fM_puts_0, fM_puts_24, fM_puts_46, fM_puts_48, fM_puts_74, fM_puts_78, fM_puts_85, fM_puts_99, fM_puts_106, fM_puts_108, bM_puts_0, bM_puts_24, bM_puts_46, bM_puts_48, bM_puts_74, bM_puts_78, bM_puts_85, bM_puts_99, bM_puts_106, bM_puts_108, ln_mpart, ln_mvillage, rg_m_14, rg_m_19, ty_m, ty_mpart, ty_mvillage, Option.toList_some, Option.toList_none, List.cons_append, List.nil_append, List.length_cons, List.length_nil, List.mem_cons, List.not_mem_nil, or_false, false_or, or_true, true_or, ↓reduceIte, true_and, and_true, Nat.reduceEqDiff, Nat.reduceAdd, Nat.reduceLeDiff, Nat.reduceLT, dl_i, dl_r, dl_n, dl_u, eq_self, not_true_eq_false, not_false_eq_true, n10, n01, nm0, n0m, imp_t, imp_f]
      exact f87
    · rw [if_pos (i32_nle.mp q)] at f87
      exact f87
  refine hgo 20 [48] 0 _ _ _ _ _ ?_
  simp only [ixr_of, run_s, run_0, rM_puts, rok_i, rok_z, bx_cons, bx_nil, eAALD107, eADD, eBP, eC0, eC1, eC2, eC3, eC4, eCS2, eCV3, eDIV, eGO, eGR, eIALD, jICle, jICne, jIFge, jIFne, eLA0, eLA3, eLI1, eLI2, eLI4, eMUL, eRI, eSA3, eSI4, fM_puts_0, fM_puts_24, fM_puts_46, fM_puts_48, fM_puts_74, fM_puts_78, fM_puts_85, fM_puts_99, fM_puts_106, fM_puts_108, bM_puts_0, bM_puts_24, bM_puts_46, bM_puts_48, bM_puts_74, bM_puts_78, bM_puts_85, bM_puts_99, bM_puts_106, bM_puts_108, ln_mpart, ln_mvillage, rg_m_14, rg_m_19, ty_m, ty_mpart, ty_mvillage, Option.toList_some, Option.toList_none, List.cons_append, List.nil_append, List.length_cons, List.length_nil, List.mem_cons, List.not_mem_nil, or_false, false_or, or_true, true_or, ↓reduceIte, true_and, and_true, Nat.reduceEqDiff, Nat.reduceAdd, Nat.reduceLeDiff, Nat.reduceLT, dl_i, dl_r, dl_n, dl_u, eq_self, not_true_eq_false, not_false_eq_true, n10, n01, nm0, n0m, hv9, rg_mpart hv9, tr_mpart hv9, lr_mpart hv9, pk_mul, nI_add, i1, i2, i3, q1, q2, q3, imp_t, imp_f]
  rw [nI_leI (by omega) (by omega)]
  refine ⟨fun q => ?_, fun q => ?_⟩
  · simp only [if_neg (show ¬ c2 < c3 by omega), show ¬ c2 < c3 by omega, false_and, not_false_eq_true, forall_const] at h2
    have := fin (I 500091) h2
    rw [sr_id] at this
    exact this
  · have q' : c2 < c3 := by omega
    simp only [if_pos q', q', true_and] at h1 h2
    refine call0 (c_worth hv l2 l3 w2 ?_)
    simp only [ixr_of, run_s, run_0, rM_puts, rok_i, rok_z, bx_cons, bx_nil, eAALD107, eADD, eBP, eC0, eC1, eC2, eC3, eC4, eCS2, eCV3, eDIV, eGO, eGR, eIALD, jICle, jICne, jIFge, jIFne, eLA0, eLA3, eLI1, eLI2, eLI4, eMUL, eRI, eSA3, eSI4, fM_puts_0, fM_puts_24, fM_puts_46, fM_puts_48, fM_puts_74, fM_puts_78, fM_puts_85, fM_puts_99, fM_puts_106, fM_puts_108, bM_puts_0, bM_puts_24, bM_puts_46, bM_puts_48, bM_puts_74, bM_puts_78, bM_puts_85, bM_puts_99, bM_puts_106, bM_puts_108, ln_mpart, ln_mvillage, rg_m_14, rg_m_19, ty_m, ty_mpart, ty_mvillage, Option.toList_some, Option.toList_none, List.cons_append, List.nil_append, List.length_cons, List.length_nil, List.mem_cons, List.not_mem_nil, or_false, false_or, or_true, true_or, ↓reduceIte, true_and, and_true, Nat.reduceEqDiff, Nat.reduceAdd, Nat.reduceLeDiff, Nat.reduceLT, dl_i, dl_r, dl_n, dl_u, eq_self, not_true_eq_false, not_false_eq_true, n10, n01, nm0, n0m, imp_t, imp_f]
    refine ⟨fun q0 => fin _ (h2 q0), fun q0 => h1 q0⟩
/-- what v knows by the row a -/
def knF (I : Iv) (a v lg : Nat) : Nat → Int32 := fun j =>
  if j < 4 then (if 0 < lg then I a (252 + 36 * (lg - 1) + 4 * v + j) else if j = 0 then I a v else smI (fun w => I a (9 + 27 * v + 9 * (j - 1) + w)) 9)
  else if j = 4 then I a 501 else if j = 5 then I a (432 + v) else if j = 6 then I (500016 + v) 1 else I 500092 j
def knP (I : Iv) (a v lg k : Nat) : Nat → Int32 := fun j => if j < k then knF I a v lg j else I 500092 j
theorem knP_s {I : Iv} {a v lg k : Nat} : ru (knP I a v lg k) k (knF I a v lg k) = knP I a v lg (k + 1) := by
  funext j
  unfold ru knP
  by_cases h : j = k
  · subst h; simp
  · by_cases h2 : j < k
    · simp [h, h2, show j < k + 1 by omega]
    · simp [h, h2, show ¬ j < k + 1 by omega]
theorem c_knows {a v lg : Nat} (ha : a = 500124 ∨ a = 500126) (hv : v < 9) (hlg : I (500016 + v) 3 = nI lg) (hl5 : lg ≤ 5) (h : kr none (sr I 500092 (knF I a v lg)) E) : Ex Γ l shN (d + 3) (0, 0) mM_knows [.ref 500000, .ref a, .int (nI v)] I E kr kx := by
  have hty : tyc shN E a = 101 := by rcases ha with rfl | rfl <;> first | exact ty_mnow | exact ty_mtrial
  have hln : len shN E a = 502 := by rcases ha with rfl | rfl <;> first | exact ln_mnow | exact ln_mtrial
  refine ex_of (ls0 := [some (.ref 500000), some (.ref a), some (.int (nI v)), none, none]) tM_knows (by decide +kernel) kM_knows rfl (Nat.le_of_ble_eq_true rfl) rfl ?_
  intro go hgo
  have hv9 : v < 9 := hv
  have hv502 : v < 502 := by omega
  have hv432 : 432 + v < 502 := by omega
  have es : ∀ r, sr I 500092 r 500092 = r := fun r => sr_s
  have ea : ∀ r, sr I 500092 r a = I a := fun r => sr_n (by omega)
  have ev : ∀ r, sr I 500092 r (500016 + v) = I (500016 + v) := fun r => sr_n (by omega)
  have loop : ∀ (g k : Nat), g + k = 4 → go 12 [some (.ref 500000), some (.ref a), some (.int (nI v)), some (.int (nI lg)), some (.int (nI k))] [] (sr I 500092 (knP I a v lg k)) E (0, 0) := by
    intro g
    induction g with
    | zero =>
      intro k hk
      have : k = 4 := by omega
      subst this
      refine hgo 20 [12] 12 _ _ _ _ _ ?_
      simp only [ixr_of, run_s, run_0, rM_knows, rok_i, rok_z, bx_cons, bx_nil, eAALD107, eADD, eBP, eC0, eC1, eC3, eC4, eC5, eCS3, eGO, eGR, eIALD, eIAST, jICge, jIFle, jIFne, eINC4, eLA0, eLA1, eLI2, eLI3, eLI4, eMUL, eRV, eSI3, eSI4, eSP, eSUB, fM_knows_0, fM_knows_12, fM_knows_18, fM_knows_28, fM_knows_50, fM_knows_55, fM_knows_63, fM_knows_72, fM_knows_79, bM_knows_0, bM_knows_12, bM_knows_18, bM_knows_28, bM_knows_50, bM_knows_55, bM_knows_63, bM_knows_72, bM_knows_79, ln_mknown, ln_mvillage, rg_m_14, rg_m_24, ty_m, ty_mknown, ty_mvillage, Option.toList_some, Option.toList_none, List.cons_append, List.nil_append, List.length_cons, List.length_nil, List.mem_cons, List.not_mem_nil, or_false, false_or, or_true, true_or, ↓reduceIte, true_and, and_true, Nat.reduceEqDiff, Nat.reduceAdd, Nat.reduceLeDiff, Nat.reduceLT, dl_i, dl_r, dl_n, dl_u, eq_self, not_true_eq_false, not_false_eq_true, n10, n01, nm0, n0m, hty, hln, hv9, hv432, rg_mvillage hv9, tr_mvillage hv9, lr_mvillage hv9, es, ea, ev, up_sr, nI_add, imp_t, imp_f]
      have hf : ru (ru (ru (knP I a v lg 4) 4 (I a 501)) 5 (I a (432 + v))) 6 (I (500016 + v) 1) = knF I a v lg := by
        have g4 := knP_s (I := I) (a := a) (v := v) (lg := lg) (k := 4)
        have g5 := knP_s (I := I) (a := a) (v := v) (lg := lg) (k := 5)
        have g6 := knP_s (I := I) (a := a) (v := v) (lg := lg) (k := 6)
        rw [show knF I a v lg 4 = I a 501 from rfl] at g4
        rw [show knF I a v lg 5 = I a (432 + v) from rfl] at g5
        rw [show knF I a v lg 6 = I (500016 + v) 1 from rfl] at g6
        rw [g4, g5, g6]
        funext j
        unfold knP
        by_cases h7 : j < 7
        · rw [if_pos h7]
        · rw [if_neg h7]
          unfold knF
          rw [if_neg (by omega), if_neg (by omega), if_neg (by omega), if_neg (by omega)]
      rw [hf]
      exact ⟨fun _ => h, fun q => absurd (by decide) q⟩
    | succ g ih =>
      intro k hk
      have hk7 : k < 7 := by omega
      have hih := ih (k + 1) (by omega)
      rw [← knP_s] at hih
      have hkf : knF I a v lg k = (if 0 < lg then I a (252 + 36 * (lg - 1) + 4 * v + k) else if k = 0 then I a v else smI (fun w => I a (9 + 27 * v + 9 * (k - 1) + w)) 9) := if_pos (by omega)
      rw [hkf] at hih
      refine hgo 20 [12] 12 _ _ _ _ _ ?_
      simp only [ixr_of, run_s, run_0, rM_knows, rok_i, rok_z, bx_cons, bx_nil, eAALD107, eADD, eBP, eC0, eC1, eC3, eC4, eC5, eCS3, eGO, eGR, eIALD, eIAST, jICge, jIFle, jIFne, eINC4, eLA0, eLA1, eLI2, eLI3, eLI4, eMUL, eRV, eSI3, eSI4, eSP, eSUB, fM_knows_0, fM_knows_12, fM_knows_18, fM_knows_28, fM_knows_50, fM_knows_55, fM_knows_63, fM_knows_72, fM_knows_79, bM_knows_0, bM_knows_12, bM_knows_18, bM_knows_28, bM_knows_50, bM_knows_55, bM_knows_63, bM_knows_72, bM_knows_79, ln_mknown, ln_mvillage, rg_m_14, rg_m_24, ty_m, ty_mknown, ty_mvillage, Option.toList_some, Option.toList_none, List.cons_append, List.nil_append, List.length_cons, List.length_nil, List.mem_cons, List.not_mem_nil, or_false, false_or, or_true, true_or, ↓reduceIte, true_and, and_true, Nat.reduceEqDiff, Nat.reduceAdd, Nat.reduceLeDiff, Nat.reduceLT, dl_i, dl_r, dl_n, dl_u, eq_self, not_true_eq_false, not_false_eq_true, n10, n01, nm0, n0m, hty, hln, hk7, es, ea, up_sr, imp_t, imp_f]
      rw [nI_leI (by omega) (by omega), nI_leI (by omega) (by omega), nI_eq (by omega) (by omega)]
      refine ⟨fun q => absurd q (by omega), fun _ => ⟨fun q => ⟨fun q0 => ?_, fun q0 => ?_⟩, fun q => ?_⟩⟩
      · rw [if_neg (by omega), if_neg q0] at hih
        rw [pk_sub (by omega)]
        refine call0 (c_herbsOf hty (by rw [hln]; decide) hv (by omega) ?_)
        simp only [ea]
        simp only [ixr_of, run_s, run_0, rM_knows, rok_i, rok_z, bx_cons, bx_nil, eAALD107, eADD, eBP, eC0, eC1, eC3, eC4, eC5, eCS3, eGO, eGR, eIALD, eIAST, jICge, jIFle, jIFne, eINC4, eLA0, eLA1, eLI2, eLI3, eLI4, eMUL, eRV, eSI3, eSI4, eSP, eSUB, fM_knows_0, fM_knows_12, fM_knows_18, fM_knows_28, fM_knows_50, fM_knows_55, fM_knows_63, fM_knows_72, fM_knows_79, bM_knows_0, bM_knows_12, bM_knows_18, bM_knows_28, bM_knows_50, bM_knows_55, bM_knows_63, bM_knows_72, bM_knows_79, ln_mknown, ln_mvillage, rg_m_14, rg_m_24, ty_m, ty_mknown, ty_mvillage, Option.toList_some, Option.toList_none, List.cons_append, List.nil_append, List.length_cons, List.length_nil, List.mem_cons, List.not_mem_nil, or_false, false_or, or_true, true_or, ↓reduceIte, true_and, and_true, Nat.reduceEqDiff, Nat.reduceAdd, Nat.reduceLeDiff, Nat.reduceLT, dl_i, dl_r, dl_n, dl_u, eq_self, not_true_eq_false, not_false_eq_true, n10, n01, nm0, n0m, hk7, es, up_sr, nI_add, imp_t, imp_f]
        exact hih
      · rw [if_neg (by omega), if_pos q0] at hih
        have e0 : nI 0 + nI v = nI v := by rw [nI_add, Nat.zero_add]
        simp only [e0, ixr_of, hv502, hk7, Nat.reduceLeDiff, up_sr, nI_add, ea]
        exact hih
      · rw [if_pos (by omega)] at hih
        have i0 : 252 + 36 * (lg - 1) + 4 * v + k < 502 := by omega
        simp only [pk_sub (show 1 ≤ lg by omega), pk_mul, nI_add, ixr_of, i0, hk7, Nat.reduceLeDiff, up_sr, ea]
        exact hih
  have h0 := loop 4 0 rfl
  have : knP I a v lg 0 = I 500092 := by funext j; unfold knP; rw [if_neg (by omega)]
  rw [this, sr_id] at h0
  refine hgo 20 [12] 0 _ _ _ _ _ ?_
  simp only [ixr_of, run_s, run_0, rM_knows, rok_i, rok_z, bx_cons, bx_nil, eAALD107, eADD, eBP, eC0, eC1, eC3, eC4, eC5, eCS3, eGO, eGR, eIALD, eIAST, jICge, jIFle, jIFne, eINC4, eLA0, eLA1, eLI2, eLI3, eLI4, eMUL, eRV, eSI3, eSI4, eSP, eSUB, fM_knows_0, fM_knows_12, fM_knows_18, fM_knows_28, fM_knows_50, fM_knows_55, fM_knows_63, fM_knows_72, fM_knows_79, bM_knows_0, bM_knows_12, bM_knows_18, bM_knows_28, bM_knows_50, bM_knows_55, bM_knows_63, bM_knows_72, bM_knows_79, ln_mknown, ln_mvillage, rg_m_14, rg_m_24, ty_m, ty_mknown, ty_mvillage, Option.toList_some, Option.toList_none, List.cons_append, List.nil_append, List.length_cons, List.length_nil, List.mem_cons, List.not_mem_nil, or_false, false_or, or_true, true_or, ↓reduceIte, true_and, and_true, Nat.reduceEqDiff, Nat.reduceAdd, Nat.reduceLeDiff, Nat.reduceLT, dl_i, dl_r, dl_n, dl_u, eq_self, not_true_eq_false, not_false_eq_true, n10, n01, nm0, n0m, hv9, rg_mvillage hv9, tr_mvillage hv9, lr_mvillage hv9, hlg, imp_t, imp_f]
  exact h0
end CM5
