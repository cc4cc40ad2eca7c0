/-! contracts of HerbWatersModel, 4: a day's parts -/
def ru (r : Nat → Int32) (k : Nat) (x : Int32) : Nat → Int32 := fun j => if j = k then x else r j
def sr (I : Iv) (a : Nat) (r : Nat → Int32) : Iv := fun i => if i = a then r else I i
theorem ru_s {r : Nat → Int32} {k : Nat} {x : Int32} : ru r k x k = x := if_pos rfl
theorem ru_n {r : Nat → Int32} {k j : Nat} {x : Int32} (h : j ≠ k) : ru r k x j = r j := if_neg h
theorem sr_s {I : Iv} {a : Nat} {r : Nat → Int32} : sr I a r a = r := if_pos rfl
theorem sr_n {I : Iv} {a i : Nat} {r : Nat → Int32} (h : i ≠ a) : sr I a r i = I i := if_neg h
theorem up_sr {I : Iv} {a k : Nat} {r : Nat → Int32} {x : Int32} : up (sr I a r) a k x = sr I a (ru r k x) := by
  funext i j
  unfold up sr ru
  by_cases h : i = a <;> by_cases h2 : j = k <;> simp [h, h2]
theorem sr_id {I : Iv} {a : Nat} : sr I a (I a) = I := by
  funext i
  unfold sr
  split
  · rename_i h; rw [h]
  · rfl
theorem sr_sr {I : Iv} {a : Nat} {r s : Nat → Int32} : sr (sr I a r) a s = sr I a s := by
  funext i
  unfold sr
  split <;> rfl
theorem up_to_sr {I : Iv} {a k : Nat} {x : Int32} : up I a k x = sr I a (ru (I a) k x) := by
  conv => lhs; rw [← sr_id (I := I) (a := a)]
  exact up_sr
/-- the channels of v lead n on: to the c-th of them -/
def chR (I : Iv) (n : Int32) (v b st : Nat) : Nat → (Nat → Int32) → Nat → Int32
  | 0, r => r
  | c + 1, r =>
    let r' := chR I n v b st c r
    if I (500047 + c) 0 = nI v then
      let r1 := ru r' (b + st * v) (r' (b + st * v) - n * I (500047 + c) 2 / nI 8)
      ru r1 (b + st * (I (500047 + c) 1).toNatClampNeg) (r1 (b + st * (I (500047 + c) 1).toNatClampNeg) + n * I (500047 + c) 2 / nI 8)
    else r'
def toT (I : Iv) (n : Int32) (v : Nat) : Int32 := if I 500004 2 = nI v then n * I 500004 3 / nI 8 else nI 0
def toG (I : Iv) (n : Int32) (v : Nat) : Int32 := n * I (500016 + v) 2 / nI 8
/-- the item at place b + st * v of v's basin (b below 9: water) goes its ways -/
def flR (I : Iv) (nC : Nat) (n : Int32) (v b st : Nat) (r : Nat → Int32) : Nat → Int32 :=
  if n = nI 0 then r else
  let at' := b + st * v
  let r0 := chR I n v b st nC r
  let r1 := ru r0 at' (r0 at' - (toT I n v + toG I n v))
  if at' < 9 then ru r1 497 (r1 497 + toT I n v) else
  let r2 := ru r1 (498 + (at' - 9) / 9 % 3) (r1 (498 + (at' - 9) / 9 % 3) + toT I n v)
  let r3 := ru r2 (468 + 3 * ((at' - 9) % 9) + (at' - 9) / 9 % 3) (r2 (468 + 3 * ((at' - 9) % 9) + (at' - 9) / 9 % 3) + toT I n v)
  ru r3 495 (r3 495 + toG I n v)
section CM4
variable {Γ : Gm} {l : Launch} {d : Nat} {I : Iv} {E : Ev} {kr : Kr} {kx : Kxx}
theorem c_flows {a v b st nC : Nat} (ha : a = 500124 ∨ a = 500126) (hv : v < 9) (hb : ∀ y, y < 9 → b + st * y < 252) (h1 : I 500004 1 = nI nC) (hnC : nC ≤ 20) (hch : ∀ c, c < nC → ∃ y, y < 9 ∧ I (500047 + c) 1 = nI y)
    (h : kr none (sr I a (flR I nC (I 500128 (b + st * v)) v b st (I a))) E) : Ex Γ l shN (d + 1) (0, 0) mM_flows [.ref 500000, .ref a, .int (nI v), .int (nI (b + st * v)), .int (nI st)] I E kr kx := by
  have hty : tyc shN E a = 101 := by rcases ha with rfl | rfl <;> first | exact ty_mnow | exact ty_mtrial
  have hln : len shN E a = 502 := by rcases ha with rfl | rfl <;> first | exact ln_mnow | exact ln_mtrial
  have hat := hb v hv
  refine ex_of (ls0 := [some (.ref 500000), some (.ref a), some (.int (nI v)), some (.int (nI (b + st * v))), some (.int (nI st)), none, none, none, none, none]) tM_flows (by decide +kernel) kM_flows rfl (Nat.le_of_ble_eq_true rfl) rfl ?_
  intro go hgo
  obtain ⟨n, hn⟩ : ∃ n, n = I 500128 (b + st * v) := ⟨_, rfl⟩
  obtain ⟨at', hat'⟩ : ∃ q, q = b + st * v := ⟨_, rfl⟩
  rw [← hn] at h
  have e0 : ∀ r, sr I a r 500004 = I 500004 := fun r => sr_n (by omega)
  have es : ∀ r, sr I a r a = r := fun r => sr_s
  have loop : ∀ (g c : Nat) (t : Option Value), g + c = nC → (∀ t, go 98 [some (.ref 500000), some (.ref a), some (.int (nI v)), some (.int (nI at')), some (.int (nI st)), some (.int n), some (.int (nI nC)), t, none, none] [] (sr I a (chR I n v b st nC (I a))) E (0, 0)) →
      go 17 [some (.ref 500000), some (.ref a), some (.int (nI v)), some (.int (nI at')), some (.int (nI st)), some (.int n), some (.int (nI c)), t, none, none] [] (sr I a (chR I n v b st c (I a))) E (0, 0) := by
    intro g
    induction g with
    | zero =>
      intro c t hc hk
      have : c = nC := by omega
      subst this
      refine hgo 20 [17, 98] 17 _ _ _ _ _ ?_
      simp only [ixr_of, run_s, run_0, rM_flows, rok_i, rok_z, bx_cons, bx_nil, eAALD107, eADD, eBP, eC0, eC1, eC2, eC3, eDIV, eDUP2, eGO, eGR, eIALD, eIAST, jICeq, jICge, jICne, jIFne, eINC6, eLA0, eLA1, eLI2, eLI3, eLI4, eLI5, eLI6, eLI7, eLI8, eLI9, eMUL, eREM, eRV, eSI5, eSI6, eSI7, eSI8, eSI9, eSP, eSUB, fM_flows_0, fM_flows_13, fM_flows_14, fM_flows_17, fM_flows_28, fM_flows_41, fM_flows_44, fM_flows_92, fM_flows_98, fM_flows_108, fM_flows_123, fM_flows_124, fM_flows_159, fM_flows_170, bM_flows_0, bM_flows_13, bM_flows_14, bM_flows_17, bM_flows_28, bM_flows_41, bM_flows_44, bM_flows_92, bM_flows_98, bM_flows_108, bM_flows_123, bM_flows_124, bM_flows_159, bM_flows_170, ln_mchannel, ln_mold, ln_mtold, ln_mvillage, rg_m_12, rg_m_14, rg_m_16, rg_m_50, ty_m, ty_mchannel, ty_mold, ty_mtold, ty_mvillage, Option.toList_some, Option.toList_none, List.cons_append, List.nil_append, List.length_cons, List.length_nil, List.mem_cons, List.not_mem_nil, or_false, false_or, or_true, true_or, ↓reduceIte, true_and, and_true, Nat.reduceEqDiff, Nat.reduceAdd, Nat.reduceLeDiff, Nat.reduceLT, dl_i, dl_r, dl_n, dl_u, eq_self, not_true_eq_false, not_false_eq_true, n10, n01, nm0, n0m, imp_t, imp_f]
      rw [e0, h1]
      exact ⟨fun _ => hk t, fun q => absurd (Int32.le_refl _) q⟩
    | succ g ih =>
      intro c t hc hk
      have hc20 : c < 20 := by omega
      obtain ⟨y, hy, hcy⟩ := hch c (by omega)
      have e1 : ∀ r, sr I a r (500047 + c) = I (500047 + c) := fun r => sr_n (by omega)
      refine hgo 20 [17, 98] 17 _ _ _ _ _ ?_
      simp only [ixr_of, run_s, run_0, rM_flows, rok_i, rok_z, bx_cons, bx_nil, eAALD107, eADD, eBP, eC0, eC1, eC2, eC3, eDIV, eDUP2, eGO, eGR, eIALD, eIAST, jICeq, jICge, jICne, jIFne, eINC6, eLA0, eLA1, eLI2, eLI3, eLI4, eLI5, eLI6, eLI7, eLI8, eLI9, eMUL, eREM, eRV, eSI5, eSI6, eSI7, eSI8, eSI9, eSP, eSUB, fM_flows_0, fM_flows_13, fM_flows_14, fM_flows_17, fM_flows_28, fM_flows_41, fM_flows_44, fM_flows_92, fM_flows_98, fM_flows_108, fM_flows_123, fM_flows_124, fM_flows_159, fM_flows_170, bM_flows_0, bM_flows_13, bM_flows_14, bM_flows_17, bM_flows_28, bM_flows_41, bM_flows_44, bM_flows_92, bM_flows_98, bM_flows_108, bM_flows_123, bM_flows_124, bM_flows_159, bM_flows_170, ln_mchannel, ln_mold, ln_mtold, ln_mvillage, rg_m_12, rg_m_14, rg_m_16, rg_m_50, ty_m, ty_mchannel, ty_mold, ty_mtold, ty_mvillage, Option.toList_some, Option.toList_none, List.cons_append, List.nil_append, List.length_cons, List.length_nil, List.mem_cons, List.not_mem_nil, or_false, false_or, or_true, true_or, ↓reduceIte, true_and, and_true, Nat.reduceEqDiff, Nat.reduceAdd, Nat.reduceLeDiff, Nat.reduceLT, dl_i, dl_r, dl_n, dl_u, eq_self, not_true_eq_false, not_false_eq_true, n10, n01, nm0, n0m, imp_t, imp_f]
      rw [e0, h1, nI_leI (by omega) (by omega)]
      refine ⟨fun q => absurd q (by omega), fun _ => ?_⟩
      simp only [ixr_of, run_s, run_0, rM_flows, rok_i, rok_z, bx_cons, bx_nil, eAALD107, eADD, eBP, eC0, eC1, eC2, eC3, eDIV, eDUP2, eGO, eGR, eIALD, eIAST, jICeq, jICge, jICne, jIFne, eINC6, eLA0, eLA1, eLI2, eLI3, eLI4, eLI5, eLI6, eLI7, eLI8, eLI9, eMUL, eREM, eRV, eSI5, eSI6, eSI7, eSI8, eSI9, eSP, eSUB, fM_flows_0, fM_flows_13, fM_flows_14, fM_flows_17, fM_flows_28, fM_flows_41, fM_flows_44, fM_flows_92, fM_flows_98, fM_flows_108, fM_flows_123, fM_flows_124, fM_flows_159, fM_flows_170, bM_flows_0, bM_flows_13, bM_flows_14, bM_flows_17, bM_flows_28, bM_flows_41, bM_flows_44, bM_flows_92, bM_flows_98, bM_flows_108, bM_flows_123, bM_flows_124, bM_flows_159, bM_flows_170, ln_mchannel, ln_mold, ln_mtold, ln_mvillage, rg_m_12, rg_m_14, rg_m_16, rg_m_50, ty_m, ty_mchannel, ty_mold, ty_mtold, ty_mvillage, Option.toList_some, Option.toList_none, List.cons_append, List.nil_append, List.length_cons, List.length_nil, List.mem_cons, List.not_mem_nil, or_false, false_or, or_true, true_or, ↓reduceIte, true_and, and_true, Nat.reduceEqDiff, Nat.reduceAdd, Nat.reduceLeDiff, Nat.reduceLT, dl_i, dl_r, dl_n, dl_u, eq_self, not_true_eq_false, not_false_eq_true, n10, n01, nm0, n0m, hc20, rg_mchannel hc20, tr_mchannel hc20, lr_mchannel hc20, e1, hty, hln, imp_t, imp_f]
      have hih := fun t => ih (c + 1) t (by omega) hk
      unfold chR at hih
      refine ⟨fun q => ?_, fun q => ?_⟩
      · simp only [if_pos q] at hih
        refine ⟨by decide, ixr_n (by omega) (ixr_n (by omega) ?_)⟩
        simp only [up_sr, e1, es, hcy]
        have hix : nI at' + nI st * (nI y - nI v) = nI (b + st * y) := by
          rw [hat', ← nI_add, ← nI_add, ← pk_mul, ← pk_mul]
          grind
        have hby := hb y hy
        rw [hix]
        refine ixr_n (by omega) (ixr_n (by omega) ?_)
        rw [nI_add]
        simp only [hcy, nI_clamp (show y < 2 ^ 31 by omega), ← hat'] at hih
        exact hih _
      · simp only [if_neg q] at hih
        rw [nI_add]
        exact hih t
  refine hgo 20 [17, 98] 0 _ _ _ _ _ ?_
  simp only [ixr_of, run_s, run_0, rM_flows, rok_i, rok_z, bx_cons, bx_nil, eAALD107, eADD, eBP, eC0, eC1, eC2, eC3, eDIV, eDUP2, eGO, eGR, eIALD, eIAST, jICeq, jICge, jICne, jIFne, eINC6, eLA0, eLA1, eLI2, eLI3, eLI4, eLI5, eLI6, eLI7, eLI8, eLI9, eMUL, eREM, eRV, eSI5, eSI6, eSI7, eSI8, eSI9, eSP, eSUB, fM_flows_0, fM_flows_13, fM_flows_14, fM_flows_17, fM_flows_28, fM_flows_41, fM_flows_44, fM_flows_92, fM_flows_98, fM_flows_108, fM_flows_123, fM_flows_124, fM_flows_159, fM_flows_170, bM_flows_0, bM_flows_13, bM_flows_14, bM_flows_17, bM_flows_28, bM_flows_41, bM_flows_44, bM_flows_92, bM_flows_98, bM_flows_108, bM_flows_123, bM_flows_124, bM_flows_159, bM_flows_170, ln_mchannel, ln_mold, ln_mtold, ln_mvillage, rg_m_12, rg_m_14, rg_m_16, rg_m_50, ty_m, ty_mchannel, ty_mold, ty_mtold, ty_mvillage, Option.toList_some, Option.toList_none, List.cons_append, List.nil_append, List.length_cons, List.length_nil, List.mem_cons, List.not_mem_nil, or_false, false_or, or_true, true_or, ↓reduceIte, true_and, and_true, Nat.reduceEqDiff, Nat.reduceAdd, Nat.reduceLeDiff, Nat.reduceLT, dl_i, dl_r, dl_n, dl_u, eq_self, not_true_eq_false, not_false_eq_true, n10, n01, nm0, n0m, imp_t, imp_f]
  rw [← hat']
  refine ixr_n (by omega) ?_
  rw [hat', ← hn]
  refine ⟨fun q => ?_, fun q => ?_⟩
  · have h0 := fun hk => loop nC 0 none (by omega) hk
    simp only [chR, sr_id] at h0
    rw [← hat']
    refine h0 ?_
    intro t
    unfold flR at h
    simp only [if_neg q] at h
    rw [← hat'] at h
    have hv9 : v < 9 := hv
    have hA : at' < 502 := by omega
    have e2 : ∀ r, sr I a r (500016 + v) = I (500016 + v) := fun r => sr_n (by omega)
    have fin : ∀ t, go 124 [some (.ref 500000), some (.ref a), some (.int (nI v)), some (.int (nI at')), some (.int (nI st)), some (.int n), some (.int (nI nC)), t, none, none] [.int (toT I n v)] (sr I a (chR I n v b st nC (I a))) E (0, 0) := by
      intro t
      refine hgo 20 [] 124 _ _ _ _ _ ?_
      simp only [ixr_of, run_s, run_0, rM_flows, rok_i, rok_z, bx_cons, bx_nil, eAALD107, eADD, eBP, eC0, eC1, eC2, eC3, eDIV, eDUP2, eGO, eGR, eIALD, eIAST, jICeq, jICge, jICne, jIFne, eINC6, eLA0, eLA1, eLI2, eLI3, eLI4, eLI5, eLI6, eLI7, eLI8, eLI9, eMUL, eREM, eRV, eSI5, eSI6, eSI7, eSI8, eSI9, eSP, eSUB, fM_flows_0, fM_flows_13, fM_flows_14, fM_flows_17, fM_flows_28, fM_flows_41, fM_flows_44, fM_flows_92, fM_flows_98, fM_flows_108, fM_flows_123, fM_flows_124, fM_flows_159, fM_flows_170, bM_flows_0, bM_flows_13, bM_flows_14, bM_flows_17, bM_flows_28, bM_flows_41, bM_flows_44, bM_flows_92, bM_flows_98, bM_flows_108, bM_flows_123, bM_flows_124, bM_flows_159, bM_flows_170, ln_mchannel, ln_mold, ln_mtold, ln_mvillage, rg_m_12, rg_m_14, rg_m_16, rg_m_50, ty_m, ty_mchannel, ty_mold, ty_mtold, ty_mvillage, Option.toList_some, Option.toList_none, List.cons_append, List.nil_append, List.length_cons, List.length_nil, List.mem_cons, List.not_mem_nil, or_false, false_or, or_true, true_or, ↓reduceIte, true_and, and_true, Nat.reduceEqDiff, Nat.reduceAdd, Nat.reduceLeDiff, Nat.reduceLT, dl_i, dl_r, dl_n, dl_u, eq_self, not_true_eq_false, not_false_eq_true, n10, n01, nm0, n0m, hv9, hA, rg_mvillage hv9, tr_mvillage hv9, lr_mvillage hv9, e0, e2, hty, hln, es, up_sr, imp_t, imp_f]
      rw [show n * I (500016 + v) 2 / nI 8 = toG I n v from rfl]
      refine ⟨by decide, fun q9 => ⟨by decide, by decide, by decide, ?_⟩, fun q9 => ?_⟩
      · rw [nI_leI (by omega) (by omega)] at q9
        rw [if_neg (by omega)] at h
        have i1 : nI at' - nI 9 = nI (at' - 9) := pk_sub q9
        have i2 : nI (at' - 9) / nI 9 = nI ((at' - 9) / 9) := pk_div (by omega) (by omega) (by omega)
        have i5 : nI ((at' - 9) / 9) / nI 3 = nI ((at' - 9) / 9 / 3) := pk_div (by omega) (by omega) (by omega)
        have i3 : nI ((at' - 9) / 9) - nI ((at' - 9) / 9 / 3 * 3) = nI ((at' - 9) / 9 % 3) := by rw [pk_sub (by omega)]; congr 1; omega
        have i4 : nI (at' - 9) - nI ((at' - 9) / 9 * 9) = nI ((at' - 9) % 9) := by rw [pk_sub (by omega)]; congr 1; omega
        have hA1 : 498 + (at' - 9) / 9 % 3 < 502 := by omega
        have hA2 : 468 + 3 * ((at' - 9) % 9) + (at' - 9) / 9 % 3 < 502 := by omega
        simp only [i1, i2, i3, i4, i5, pk_mul, nI_add, ixr_of, hA1, hA2, Nat.reduceLeDiff, up_sr, es]
        exact h
      · rw [nI_leI (by omega) (by omega)] at q9
        rw [if_pos (by omega)] at h
        exact h
    refine hgo 20 [17, 98, 124] 98 _ _ _ _ _ ?_
    simp only [ixr_of, run_s, run_0, rM_flows, rok_i, rok_z, bx_cons, bx_nil, eAALD107, eADD, eBP, eC0, eC1, eC2, eC3, eDIV, eDUP2, eGO, eGR, eIALD, eIAST, jICeq, jICge, jICne, jIFne, eINC6, eLA0, eLA1, eLI2, eLI3, eLI4, eLI5, eLI6, eLI7, eLI8, eLI9, eMUL, eREM, eRV, eSI5, eSI6, eSI7, eSI8, eSI9, eSP, eSUB, fM_flows_0, fM_flows_13, fM_flows_14, fM_flows_17, fM_flows_28, fM_flows_41, fM_flows_44, fM_flows_92, fM_flows_98, fM_flows_108, fM_flows_123, fM_flows_124, fM_flows_159, fM_flows_170, bM_flows_0, bM_flows_13, bM_flows_14, bM_flows_17, bM_flows_28, bM_flows_41, bM_flows_44, bM_flows_92, bM_flows_98, bM_flows_108, bM_flows_123, bM_flows_124, bM_flows_159, bM_flows_170, ln_mchannel, ln_mold, ln_mtold, ln_mvillage, rg_m_12, rg_m_14, rg_m_16, rg_m_50, ty_m, ty_mchannel, ty_mold, ty_mtold, ty_mvillage, Option.toList_some, Option.toList_none, List.cons_append, List.nil_append, List.length_cons, List.length_nil, List.mem_cons, List.not_mem_nil, or_false, false_or, or_true, true_or, ↓reduceIte, true_and, and_true, Nat.reduceEqDiff, Nat.reduceAdd, Nat.reduceLeDiff, Nat.reduceLT, dl_i, dl_r, dl_n, dl_u, eq_self, not_true_eq_false, not_false_eq_true, n10, n01, nm0, n0m, e0, imp_t, imp_f]
    have fin' := fin
    unfold toT at fin'
    refine ⟨fun q2 => ?_, fun q2 => ⟨by decide, ?_⟩⟩
    · simp only [if_neg q2] at fin'; exact fin' t
    · simp only [if_pos q2] at fin'; exact fin' t
  · have hz : n = nI 0 := by simpa using q
    unfold flR at h
    rw [if_pos hz, sr_id] at h
    exact h
/-- the filters of v for the herb h: n is what they take at most -/
def stN (I : Iv) (v h : Nat) : Int32 := I (500016 + v) (5 + h) + (if ¬ I 500000 49 = nI 0 then I 500123 v else nI 0) + (if I 500000 43 = nI v ∧ I 500000 44 = nI h then I 500000 45 else nI 0)
def stR (v h : Nat) (n : Int32) (r : Nat → Int32) : Nat → (Nat → Int32) × Int32
  | 0 => (r, n)
  | w + 1 =>
    let q := stR v h n r w
    let t := if q.2 < q.1 (9 + 27 * v + 9 * h + w) then q.2 else q.1 (9 + 27 * v + 9 * h + w)
    let r1 := ru q.1 (9 + 27 * v + 9 * h + w) (q.1 (9 + 27 * v + 9 * h + w) - t)
    (ru r1 496 (r1 496 + t), q.2 - t)
theorem c_strains {a v hb : Nat} (ha : a = 500124 ∨ a = 500126) (hv : v < 9) (hh : hb < 3) (h : kr none (sr I a (stR v hb (stN I v hb) (I a) 9).1) E) : Ex Γ l shN (d + 2) (0, 0) mM_strains [.ref 500000, .ref a, .int (nI v), .int (nI hb)] I E kr kx := by
  have hty : tyc shN E a = 101 := by rcases ha with rfl | rfl <;> first | exact ty_mnow | exact ty_mtrial
  have hln : len shN E a = 502 := by rcases ha with rfl | rfl <;> first | exact ln_mnow | exact ln_mtrial
  refine ex_of (ls0 := [some (.ref 500000), some (.ref a), some (.int (nI v)), some (.int (nI hb)), none, none, none]) tM_strains (by decide +kernel) kM_strains rfl (Nat.le_of_ble_eq_true rfl) rfl ?_
  intro go hgo
  have es : ∀ r, sr I a r a = r := fun r => sr_s
  have loop : ∀ (g w : Nat) (t : Option Value), g + w = 9 → go 58 [some (.ref 500000), some (.ref a), some (.int (nI v)), some (.int (nI hb)), some (.int (stR v hb (stN I v hb) (I a) w).2), some (.int (nI w)), t] [] (sr I a (stR v hb (stN I v hb) (I a) w).1) E (0, 0) := by
    intro g
    induction g with
    | zero =>
      intro w t hw
      have : w = 9 := by omega
      subst this
      refine hgo 20 [58] 58 _ _ _ _ _ ?_
      simp only [ixr_of, run_s, run_0, rM_strains, rok_i, rok_z, bx_cons, bx_nil, eAALD107, eADD, eBP, eC0, eC5, eCS2, eCS3, eDUP2, eGI, eGO, eGR, eIALD, eIAST, jICge, jICne, jIFeq, eINC5, eLA0, eLA1, eLI2, eLI3, eLI4, eLI5, eLI6, eRV, eSI4, eSI5, eSI6, eSP, eSUB, fM_strains_0, fM_strains_17, fM_strains_26, fM_strains_27, fM_strains_36, fM_strains_44, fM_strains_51, fM_strains_52, fM_strains_58, fM_strains_65, fM_strains_118, bM_strains_0, bM_strains_17, bM_strains_26, bM_strains_27, bM_strains_36, bM_strains_44, bM_strains_51, bM_strains_52, bM_strains_58, bM_strains_65, bM_strains_118, ln_mgrade, ln_mvillage, rg_m_14, rg_m_31, ty_m, ty_mgrade, ty_mvillage, Option.toList_some, Option.toList_none, List.cons_append, List.nil_append, List.length_cons, List.length_nil, List.mem_cons, List.not_mem_nil, or_false, false_or, or_true, true_or, ↓reduceIte, true_and, and_true, Nat.reduceEqDiff, Nat.reduceAdd, Nat.reduceLeDiff, Nat.reduceLT, dl_i, dl_r, dl_n, dl_u, eq_self, not_true_eq_false, not_false_eq_true, n10, n01, nm0, n0m, imp_t, imp_f]
      exact ⟨fun _ => h, fun q => absurd (by decide) q⟩
    | succ g ih =>
      intro w t hw
      have hi : 9 + 27 * v + 9 * hb + w < 502 := by omega
      refine hgo 20 [58] 58 _ _ _ _ _ ?_
      simp only [ixr_of, run_s, run_0, rM_strains, rok_i, rok_z, bx_cons, bx_nil, eAALD107, eADD, eBP, eC0, eC5, eCS2, eCS3, eDUP2, eGI, eGO, eGR, eIALD, eIAST, jICge, jICne, jIFeq, eINC5, eLA0, eLA1, eLI2, eLI3, eLI4, eLI5, eLI6, eRV, eSI4, eSI5, eSI6, eSP, eSUB, fM_strains_0, fM_strains_17, fM_strains_26, fM_strains_27, fM_strains_36, fM_strains_44, fM_strains_51, fM_strains_52, fM_strains_58, fM_strains_65, fM_strains_118, bM_strains_0, bM_strains_17, bM_strains_26, bM_strains_27, bM_strains_36, bM_strains_44, bM_strains_51, bM_strains_52, bM_strains_58, bM_strains_65, bM_strains_118, ln_mgrade, ln_mvillage, rg_m_14, rg_m_31, ty_m, ty_mgrade, ty_mvillage, Option.toList_some, Option.toList_none, List.cons_append, List.nil_append, List.length_cons, List.length_nil, List.mem_cons, List.not_mem_nil, or_false, false_or, or_true, true_or, ↓reduceIte, true_and, and_true, Nat.reduceEqDiff, Nat.reduceAdd, Nat.reduceLeDiff, Nat.reduceLT, dl_i, dl_r, dl_n, dl_u, eq_self, not_true_eq_false, not_false_eq_true, n10, n01, nm0, n0m, imp_t, imp_f]
      rw [nI_leI (by omega) (by omega)]
      refine ⟨fun q => absurd q (by omega), fun _ => ?_⟩
      refine call0 (c_herbAt ?_)
      simp only [ixr_of, run_s, run_0, rM_strains, rok_i, rok_z, bx_cons, bx_nil, eAALD107, eADD, eBP, eC0, eC5, eCS2, eCS3, eDUP2, eGI, eGO, eGR, eIALD, eIAST, jICge, jICne, jIFeq, eINC5, eLA0, eLA1, eLI2, eLI3, eLI4, eLI5, eLI6, eRV, eSI4, eSI5, eSI6, eSP, eSUB, fM_strains_0, fM_strains_17, fM_strains_26, fM_strains_27, fM_strains_36, fM_strains_44, fM_strains_51, fM_strains_52, fM_strains_58, fM_strains_65, fM_strains_118, bM_strains_0, bM_strains_17, bM_strains_26, bM_strains_27, bM_strains_36, bM_strains_44, bM_strains_51, bM_strains_52, bM_strains_58, bM_strains_65, bM_strains_118, ln_mgrade, ln_mvillage, rg_m_14, rg_m_31, ty_m, ty_mgrade, ty_mvillage, Option.toList_some, Option.toList_none, List.cons_append, List.nil_append, List.length_cons, List.length_nil, List.mem_cons, List.not_mem_nil, or_false, false_or, or_true, true_or, ↓reduceIte, true_and, and_true, Nat.reduceEqDiff, Nat.reduceAdd, Nat.reduceLeDiff, Nat.reduceLT, dl_i, dl_r, dl_n, dl_u, eq_self, not_true_eq_false, not_false_eq_true, n10, n01, nm0, n0m, hi, hty, hln, es, imp_t, imp_f]
      refine call0 (c_less ?_)
      simp only [ixr_of, run_s, run_0, rM_strains, rok_i, rok_z, bx_cons, bx_nil, eAALD107, eADD, eBP, eC0, eC5, eCS2, eCS3, eDUP2, eGI, eGO, eGR, eIALD, eIAST, jICge, jICne, jIFeq, eINC5, eLA0, eLA1, eLI2, eLI3, eLI4, eLI5, eLI6, eRV, eSI4, eSI5, eSI6, eSP, eSUB, fM_strains_0, fM_strains_17, fM_strains_26, fM_strains_27, fM_strains_36, fM_strains_44, fM_strains_51, fM_strains_52, fM_strains_58, fM_strains_65, fM_strains_118, bM_strains_0, bM_strains_17, bM_strains_26, bM_strains_27, bM_strains_36, bM_strains_44, bM_strains_51, bM_strains_52, bM_strains_58, bM_strains_65, bM_strains_118, ln_mgrade, ln_mvillage, rg_m_14, rg_m_31, ty_m, ty_mgrade, ty_mvillage, Option.toList_some, Option.toList_none, List.cons_append, List.nil_append, List.length_cons, List.length_nil, List.mem_cons, List.not_mem_nil, or_false, false_or, or_true, true_or, ↓reduceIte, true_and, and_true, Nat.reduceEqDiff, Nat.reduceAdd, Nat.reduceLeDiff, Nat.reduceLT, dl_i, dl_r, dl_n, dl_u, eq_self, not_true_eq_false, not_false_eq_true, n10, n01, nm0, n0m, hi, hty, hln, es, imp_t, imp_f]
      refine call0 (c_herbAt ?_)
      simp only [ixr_of, run_s, run_0, rM_strains, rok_i, rok_z, bx_cons, bx_nil, eAALD107, eADD, eBP, eC0, eC5, eCS2, eCS3, eDUP2, eGI, eGO, eGR, eIALD, eIAST, jICge, jICne, jIFeq, eINC5, eLA0, eLA1, eLI2, eLI3, eLI4, eLI5, eLI6, eRV, eSI4, eSI5, eSI6, eSP, eSUB, fM_strains_0, fM_strains_17, fM_strains_26, fM_strains_27, fM_strains_36, fM_strains_44, fM_strains_51, fM_strains_52, fM_strains_58, fM_strains_65, fM_strains_118, bM_strains_0, bM_strains_17, bM_strains_26, bM_strains_27, bM_strains_36, bM_strains_44, bM_strains_51, bM_strains_52, bM_strains_58, bM_strains_65, bM_strains_118, ln_mgrade, ln_mvillage, rg_m_14, rg_m_31, ty_m, ty_mgrade, ty_mvillage, Option.toList_some, Option.toList_none, List.cons_append, List.nil_append, List.length_cons, List.length_nil, List.mem_cons, List.not_mem_nil, or_false, false_or, or_true, true_or, ↓reduceIte, true_and, and_true, Nat.reduceEqDiff, Nat.reduceAdd, Nat.reduceLeDiff, Nat.reduceLT, dl_i, dl_r, dl_n, dl_u, eq_self, not_true_eq_false, not_false_eq_true, n10, n01, nm0, n0m, hi, hty, hln, es, up_sr, imp_t, imp_f]
      rw [nI_add]
      exact ih (w + 1) _ (by omega)
  have hv9 : v < 9 := hv
  have h8 : 5 + hb < 8 := by omega
  refine hgo 20 [58] 0 _ _ _ _ _ ?_
  simp only [ixr_of, run_s, run_0, rM_strains, rok_i, rok_z, bx_cons, bx_nil, eAALD107, eADD, eBP, eC0, eC5, eCS2, eCS3, eDUP2, eGI, eGO, eGR, eIALD, eIAST, jICge, jICne, jIFeq, eINC5, eLA0, eLA1, eLI2, eLI3, eLI4, eLI5, eLI6, eRV, eSI4, eSI5, eSI6, eSP, eSUB, fM_strains_0, fM_strains_17, fM_strains_26, fM_strains_27, fM_strains_36, fM_strains_44, fM_strains_51, fM_strains_52, fM_strains_58, fM_strains_65, fM_strains_118, bM_strains_0, bM_strains_17, bM_strains_26, bM_strains_27, bM_strains_36, bM_strains_44, bM_strains_51, bM_strains_52, bM_strains_58, bM_strains_65, bM_strains_118, ln_mgrade, ln_mvillage, rg_m_14, rg_m_31, ty_m, ty_mgrade, ty_mvillage, Option.toList_some, Option.toList_none, List.cons_append, List.nil_append, List.length_cons, List.length_nil, List.mem_cons, List.not_mem_nil, or_false, false_or, or_true, true_or, ↓reduceIte, true_and, and_true, Nat.reduceEqDiff, Nat.reduceAdd, Nat.reduceLeDiff, Nat.reduceLT, dl_i, dl_r, dl_n, dl_u, eq_self, not_true_eq_false, not_false_eq_true, n10, n01, nm0, n0m, hv9, h8, rg_mvillage hv9, tr_mvillage hv9, lr_mvillage hv9, nI_add, imp_t, imp_f]
  have h0 := loop 9 0 none rfl
  simp only [stR, sr_id] at h0
  unfold stN at h0
  refine ⟨fun q1 => ?_, fun q1 => ?_⟩
  · rw [if_neg (fun q => q q1)] at h0
    refine ⟨fun q2 => ?_, fun q2 => ⟨fun q3 => ?_, fun q3 => ?_⟩⟩
    · rw [if_neg (fun c => q2 c.1)] at h0; exact h0
    · rw [if_neg (fun c => q3 c.2)] at h0; exact h0
    · rw [if_pos ⟨q2, q3⟩] at h0; exact h0
  · rw [if_pos q1] at h0
    refine ⟨fun q2 => ?_, fun q2 => ⟨fun q3 => ?_, fun q3 => ?_⟩⟩
    · rw [if_neg (fun c => q2 c.1)] at h0; exact h0
    · rw [if_neg (fun c => q3 c.2)] at h0; exact h0
    · rw [if_pos ⟨q2, q3⟩] at h0; exact h0
theorem c_by {w u v : Int32} (h : kr (some (.int (if w = nI 2 then u + v else if w = nI 3 then u - v else if w = nI 4 ∨ w = nI 10 then u * v else if w = nI 5 then (if v = nI 0 then nI 0 else if v = -1 then -u else u / v) else if w = nI 6 then bi (u < v) else if w = nI 7 then bi (v < u) else if w = nI 8 then bi (u = v) else bi (nI 0 < u + v)))) I E) : Ex Γ l shN (d + 1) (0, 0) mM_by [.int w, .int u, .int v] I E kr kx := by
  refine ex_of (ls0 := [some (.int w), some (.int u), some (.int v)]) tM_by (by decide +kernel) kM_by rfl (Nat.le_of_ble_eq_true rfl) rfl ?_
  intro go hgo
  refine hgo 20 [] 0 _ _ _ _ _ ?_
  simp only [ixr_of, run_s, run_0, rM_by, rok_i, rok_z, bx_cons, bx_nil, eADD, eC0, eC1, eCm1, eDIV, eGO, jICge, jICle, jICne, jIFle, jIFne, eLI0, eLI1, eLI2, eMUL, eNEG, eRI, eSUB, eSW, jswA_c, swA_n, fM_by_0, fM_by_52, fM_by_56, fM_by_60, fM_by_64, fM_by_68, fM_by_72, fM_by_77, fM_by_82, fM_by_85, fM_by_86, fM_by_91, fM_by_95, fM_by_96, fM_by_97, fM_by_102, fM_by_106, fM_by_107, fM_by_108, fM_by_113, fM_by_117, fM_by_118, fM_by_119, fM_by_125, fM_by_129, fM_by_130, bM_by_0, bM_by_52, bM_by_56, bM_by_60, bM_by_64, bM_by_68, bM_by_72, bM_by_77, bM_by_82, bM_by_85, bM_by_86, bM_by_91, bM_by_95, bM_by_96, bM_by_97, bM_by_102, bM_by_106, bM_by_107, bM_by_108, bM_by_113, bM_by_117, bM_by_118, bM_by_119, bM_by_125, bM_by_129, bM_by_130, ty_m, Option.toList_some, Option.toList_none, List.cons_append, List.nil_append, List.length_cons, List.length_nil, List.mem_cons, List.not_mem_nil, or_false, false_or, or_true, true_or, ↓reduceIte, true_and, and_true, Nat.reduceEqDiff, Nat.reduceAdd, Nat.reduceLeDiff, Nat.reduceLT, dl_i, dl_r, dl_n, dl_u, eq_self, not_true_eq_false, not_false_eq_true, n10, n01, nm0, n0m, imp_t, imp_f]
  refine ⟨⟨fun q => ?_, fun q => ?_, fun q => ?_, fun q => ?_, fun q => ?_, fun q => ?_, fun q => ?_, fun q => ?_, fun q => ?_⟩, fun q => ?_⟩
  · subst q; simp (decide := true) only [if_true, if_false] at h; exact h
  · subst q; simp (decide := true) only [if_true, if_false] at h; exact h
  · subst q; simp (decide := true) only [if_true, if_false] at h; exact h
  · subst q; simp (decide := true) only [if_true, if_false] at h
    refine ⟨fun q1 => ⟨fun q2 => ⟨q1, ?_⟩, fun q2 => ?_⟩, fun q1 => ?_⟩
    · rw [if_neg q1, if_neg q2] at h; exact h
    · rw [if_neg q1, if_pos q2] at h; exact h
    · rw [if_pos q1] at h; exact h
  · subst q; simp (decide := true) only [if_true, if_false] at h
    exact ⟨fun q => by rw [bi_f (i32_nlt.mpr q)] at h; exact h, fun q => by rw [bi_t (i32_nle.mp q)] at h; exact h⟩
  · subst q; simp (decide := true) only [if_true, if_false] at h
    exact ⟨fun q => by rw [bi_f (i32_nlt.mpr q)] at h; exact h, fun q => by rw [bi_t (i32_nle.mp q)] at h; exact h⟩
  · subst q; simp (decide := true) only [if_true, if_false] at h
    exact ⟨fun q => by rw [bi_f q] at h; exact h, fun q => by rw [bi_t q] at h; exact h⟩
  · subst q; simp (decide := true) only [if_true, if_false] at h
    exact ⟨fun q => by rw [bi_f (i32_nlt.mpr q)] at h; exact h, fun q => by rw [bi_t (i32_nle.mp q)] at h; exact h⟩
  · subst q; simp (decide := true) only [if_true, if_false] at h; exact h
  · have q0 := q 0 (by decide); have q1 := q 1 (by decide); have q2 := q 2 (by decide); have q3 := q 3 (by decide); have q4 := q 4 (by decide); have q5 := q 5 (by decide); have q6 := q 6 (by decide); have q8 := q 8 (by decide)
    rw [if_neg q0, if_neg q1, if_neg (fun c => c.elim q2 q8), if_neg q3, if_neg q4, if_neg q5, if_neg q6] at h
    exact ⟨fun q => by rw [bi_f (i32_nlt.mpr q)] at h; exact h, fun q => by rw [bi_t (i32_nle.mp q)] at h; exact h⟩
end CM4
