/-! what the villages put: class and model -/
theorem hbF_i {c : Bool} {h : Nat} (hh : h < 3) : hbF c (hbF c h) = h ∧ hbF c h < 3 := by
  have : ∀ h, h < 3 → ∀ c : Bool, hbF c (hbF c h) = h ∧ hbF c h < 3 := by decide
  exact this h hh c
theorem frR_at {r dc : Nat → Int32} {v u h : Nat} {sw : Bool} (hh : h < 3) : frR r v sw dc (u * 3 + h) = if u = v then dc (hbF sw h) else r (u * 3 + h) := by
  have hi := hbF_i (c := sw) hh
  have h0 := (hbF_i (c := sw) (show 0 < 3 by decide)).2
  have h1 := (hbF_i (c := sw) (show 1 < 3 by decide)).2
  have h2 := (hbF_i (c := sw) (show 2 < 3 by decide)).2
  unfold frR
  by_cases e : u = v
  · subst e
    rw [if_pos rfl]
    have key : ∀ j, j < 3 → (u * 3 + h = u * 3 + hbF sw j ↔ hbF sw h = j) := fun j hj => by
      have hj2 := hbF_i (c := sw) hj
      constructor
      · intro q
        have : h = hbF sw j := by omega
        rw [this, hj2.1]
      · intro q
        rw [← q, hi.1]
    rcases (show hbF sw h = 0 ∨ hbF sw h = 1 ∨ hbF sw h = 2 by omega) with q | q | q
    · rw [ru_n (fun z => by have := (key 2 (by decide)).mp z; omega), ru_n (fun z => by have := (key 1 (by decide)).mp z; omega), ← (key 0 (by decide)).mpr q, ru_s, q]
    · rw [ru_n (fun z => by have := (key 2 (by decide)).mp z; omega), ← (key 1 (by decide)).mpr q, ru_s, q]
    · rw [← (key 2 (by decide)).mpr q, ru_s, q]
  · rw [if_neg e, ru_n (by omega), ru_n (by omega), ru_n (by omega)]
section PuQ
variable {I J : Iv} {S : Tn} {y n : Nat} {r : Nat → Int32} {PS : Nat → List Pt} {pk : PvK} {pl co : Nat → Bool}
theorem frV_at {v h : Nat} (hh : h < 3) : ∀ m, v < m → frV J y n S PS pk m (v * 3 + h) = dcd (plX J y v) (pk (knD J y S n v) v) (PS v) (hbF (coX J y v) h)
  | 0, hv => absurd hv (by omega)
  | m + 1, hv => by
    show frR (frV J y n S PS pk m) m _ _ (v * 3 + h) = _
    rw [frR_at hh]
    by_cases e : v = m
    · rw [if_pos e, e]
    · rw [if_neg e]
      exact frV_at hh m (by omega)
/-- the opinions in the model -/
def MO (I : Iv) (nV : Nat) (PS : Nat → List Pt) : Prop := ∀ v, v < nV → I 500067 v = nI (PS v).length ∧ PRt (I (500070 + v)) (PS v) ∧ CRt (I (500080 + v)) (cdA (PS v)) ∧ PtV (PS v) ∧ (stA (PS v)).length ≤ 160 ∧ (PS v).length ≤ 6
theorem MO.cl {nV v : Nat} (h : MO I nV PS) (hv : v < nV) : (cdA (PS v)).length ≤ 160 := by
  have h1 := (h v hv).2.2.2.2.1
  have h2 := cdA_len (PS v)
  omega
theorem q8_o {kn pn : Nat → Int32} {v k : Nat} {c : Bool} (hk : ∀ h, h < 3 → k ≠ 3 * v + h) : ∀ m, (∀ p, p < m → (I (500070 + v) (4 * p)).toNatClampNeg < 3) → q8 I kn v c m pn k = pn k
  | 0, _ => rfl
  | m + 1, hp => by
    show ru (q8 I kn v c m pn) (3 * v + hbF c (I (500070 + v) (4 * m)).toNatClampNeg) _ k = _
    rw [ru_n (hk _ (hbF_i (hp m (by omega))).2)]
    exact q8_o hk m (fun p h => hp p (by omega))
theorem MO.h3 {nV v p : Nat} (h : MO I nV PS) (hv : v < nV) (hp : p < (PS v).length) : ∃ x, (PS v)[p]? = some x ∧ x ∈ PS v ∧ x.1 < 3 ∧ (I (500070 + v) (4 * p)).toNatClampNeg = x.1 ∧ wfQ I v p ∧ ∀ kn, PvR kn (decide (I (500016 + v) 4 = nI 1)) x (pvl I kn v p) := by
  obtain ⟨h1, h2, h3, h4, h5, h6⟩ := h v hv
  have hx : (PS v)[p]? = some (PS v)[p] := List.getElem?_eq_getElem hp
  obtain ⟨a, b, c⟩ := pvl_R h2 h3 h4 (h.cl hv) hx
  have hm : (PS v)[p] ∈ PS v := List.getElem_mem hp
  have h33 := (h4 _ hm).1
  refine ⟨(PS v)[p], hx, hm, h33, ?_, b, c⟩
  rw [a, nI_clamp (by omega)]
theorem d8_at {nV v h : Nat} (hM : MO I nV PS) (hh : h < 3) : ∀ m, m ≤ nV → v < m → d8v I pl co r m (fun _ => nI 0) (3 * v + h) = if pl v = true then smI (fun p => if 3 * v + h = 3 * v + hbF (co v) (I (500070 + v) (4 * p)).toNatClampNeg then pvl I (knR I r v) v p else nI 0) (PS v).length else nI 0
  | 0, _, hv => absurd hv (by omega)
  | m + 1, hm, hv => by
    have hl : ∀ v, v < nV → (I 500067 v).toNatClampNeg = (PS v).length := fun v hv => by rw [(hM v hv).1, nI_clamp (by have := (hM v hv).2.2.2.2.2; omega)]
    have zero : ∀ m, m ≤ nV → m ≤ v → d8v I pl co r m (fun _ => nI 0) (3 * v + h) = nI 0 := by
      intro m
      induction m with
      | zero => intro _ _; rfl
      | succ m ih =>
        intro h1 h2
        unfold d8v
        by_cases q : pl m = true
        · rw [if_pos q, q8_o (fun h hh => by omega) _ (fun p hp => by
            rw [hl m (by omega)] at hp
            obtain ⟨x, -, -, h3, e, -⟩ := hM.h3 (v := m) (by omega) hp
            rw [e]; exact h3)]
          exact ih (by omega) (by omega)
        · rw [if_neg q]
          exact ih (by omega) (by omega)
    unfold d8v
    by_cases e : v = m
    · subst e
      by_cases q : pl v = true
      · rw [if_pos q, if_pos q, q8_c, zero v (by omega) (Nat.le_refl _), hl v (by omega), nI_zero, Int32.zero_add]
      · rw [if_neg q, if_neg q]
        exact zero v (by omega) (Nat.le_refl _)
    · have ih := d8_at (v := v) (h := h) hM hh m (by omega) (by omega)
      by_cases q : pl m = true
      · rw [if_pos q, q8_o (fun h hh => by omega) _ (fun p hp => by
          rw [hl m (by omega)] at hp
          obtain ⟨x, -, -, h3, e, -⟩ := hM.h3 (v := m) (by omega) hp
          rw [e]; exact h3)]
        exact ih
      · rw [if_neg q]
        exact ih
theorem clF_99 {x : Int32} : ∃ k, k ≤ 99 ∧ clF x = nI k := by
  unfold clF
  by_cases a : x < nI 0
  · exact ⟨0, by omega, by rw [if_pos a]⟩
  · by_cases b : x < nI 99
    · obtain ⟨k, hk, e⟩ := rng (n := 99) (by decide) ⟨Int32.not_lt.mp a, Int32.le_of_lt b⟩
      exact ⟨k, hk, by rw [if_neg a, if_pos b, e]⟩
    · exact ⟨99, by omega, by rw [if_neg a, if_neg b]⟩
theorem pvl_99 {kn : Nat → Int32} {v p : Nat} : ∃ k, k ≤ 99 ∧ pvl I kn v p = nI k := by
  unfold pvl
  dsimp only
  obtain ⟨k, hk, e⟩ := clF_99 (x := wvl (I (500080 + v)) kn (I (500070 + v) (4 * p + 1)).toNatClampNeg ((I (500070 + v) (4 * p + 2)).toNatClampNeg - (I (500070 + v) (4 * p + 1)).toNatClampNeg))
  rw [e]
  by_cases a : (I (500070 + v) (4 * p + 2)).toNatClampNeg < (I (500070 + v) (4 * p + 3)).toNatClampNeg ∧ wvl (I (500080 + v)) kn (I (500070 + v) (4 * p + 2)).toNatClampNeg ((I (500070 + v) (4 * p + 3)).toNatClampNeg - (I (500070 + v) (4 * p + 2)).toNatClampNeg) = nI 0
  · exact ⟨0, by omega, by rw [if_pos a]⟩
  · rw [if_neg a]
    by_cases b : I (500016 + v) 4 = nI 1
    · exact ⟨k / 2, by omega, by rw [if_pos b, nI_dvN (by omega) (by decide) (by decide)]⟩
    · exact ⟨k, hk, by rw [if_neg b]⟩
/-- what each part puts, by what is known -/
noncomputable def pkS (S : Tn) : PvK := fun kn v => pkV (decide (vz S v 4 = 1)) kn
theorem pkS_R {kn : Nat → Int32} {v p : Nat} {x : Pt} (hT : MT I S) (hS : TnV S) (hM : MO I S.1.1 PS) (hv : v < S.1.1) (hx : (PS v)[p]? = some x) : PvR kn (decide (vz S v 4 = 1)) x (pvl I kn v p) := by
  obtain ⟨h1, h2, h3, h4, h5, h6⟩ := hM v hv
  have this := (pvl_R h2 h3 h4 (hM.cl hv) hx).2.2 kn
  have h1 := (hS.2.2.2.2.2.2.2 v hv).2.2.2.1
  have e : decide (I (500016 + v) 4 = nI 1) = decide (vz S v 4 = 1) := by
    unfold vz
    rw [if_pos hv, hT.2.2.2 v hv 4 (by decide)]
    exact decide_eq_decide.mpr (nI_eq (by omega) (by decide))
  rw [e] at this
  exact this
theorem pkS_x {kn : Nat → Int32} {v p : Nat} {x : Pt} (hT : MT I S) (hS : TnV S) (hM : MO I S.1.1 PS) (hv : v < S.1.1) (hx : (PS v)[p]? = some x) : pkS S kn v x = pvl I kn v p := pkV_R (pkS_R hT hS hM hv hx)
theorem pkS_h (hT : MT I S) (hS : TnV S) (hM : MO I S.1.1 PS) : ∀ kn v, v < S.1.1 → ∀ p ∈ PS v, p.1 < 3 ∧ PvR kn (decide (vz S v 4 = 1)) p (pkS S kn v p) := by
  intro kn v hv x hx
  obtain ⟨p, hp, e⟩ := List.getElem_of_mem hx
  have hx' : (PS v)[p]? = some x := by rw [List.getElem?_eq_getElem hp, e]
  rw [pkS_x hT hS hM hv hx']
  exact ⟨((hM v hv).2.2.2.1 x hx).1, pkS_R hT hS hM hv hx'⟩
theorem put_eq {v h : Nat} (hT : MT I S) (hS : TnV S) (hM : MO I S.1.1 PS) (hv : v < S.1.1) (hh : h < 3) (hkn : ∀ j, j < 7 → knD J y S n v j = knR I r v j) (hpl : pl v = !plX J y v) (hco : co v = coX J y v) : frV J y n S PS (pkS S) S.1.1 (v * 3 + h) = d8v I pl co r S.1.1 (fun _ => nI 0) (3 * v + h) ∧ ∃ e, e ≤ 594 ∧ d8v I pl co r S.1.1 (fun _ => nI 0) (3 * v + h) = nI e := by
  rw [frV_at hh _ hv, d8_at hM hh _ (Nat.le_refl _) hv, hpl]
  unfold dcd
  cases plX J y v
  · rw [if_neg (by decide), if_pos (by decide)]
    have e6 := (hM v hv).2.2.2.2.2
    refine ⟨?_, ?_⟩
    · rw [cuA_c, nI_zero, Int32.zero_add]
      refine smI_c _ (fun p hp => ?_)
      obtain ⟨x, hx, hm, h3, e, hw, -⟩ := hM.h3 hv hp
      rw [hx]
      show (if x.1 = hbF (coX J y v) h then pkS S (knD J y S n v) v x else nI 0) = _
      rw [pkS_x hT hS hM hv hx, pvl_kn hkn hw.1, e, hco]
      have i1 := hbF_i (c := coX J y v) hh
      have i2 := hbF_i (c := coX J y v) h3
      by_cases q : x.1 = hbF (coX J y v) h
      · rw [if_pos q, if_pos (by rw [q, i1.1])]
      · rw [if_neg q, if_neg (fun z => q (by have : h = hbF (coX J y v) x.1 := by omega
                                             rw [this, i2.1]))]
        rfl
    · have hq : ∀ p, ∃ k, k ≤ 99 ∧ (if 3 * v + h = 3 * v + hbF (co v) (I (500070 + v) (4 * p)).toNatClampNeg then pvl I (knR I r v) v p else nI 0) = nI k := by
        intro p
        by_cases q : 3 * v + h = 3 * v + hbF (co v) (I (500070 + v) (4 * p)).toNatClampNeg
        · rw [if_pos q]; exact pvl_99
        · rw [if_neg q]; exact ⟨0, by omega, rfl⟩
      refine ⟨smN (fun p => (hq p).choose) (PS v).length, ?_, smI_N _ (fun p _ => (hq p).choose_spec.2)⟩
      have := smN_k (f := fun p => (hq p).choose) (b := 99) (PS v).length (fun p _ => (hq p).choose_spec.1)
      omega
  · rw [if_pos rfl, if_neg (by decide)]
    exact ⟨rfl, 0, by omega, rfl⟩
end PuQ
