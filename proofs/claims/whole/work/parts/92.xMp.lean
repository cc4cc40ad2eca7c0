/-! the model's parts and the class's -/
theorem ppS_v {T : Nat → Int32} {n np a c : Nat} {p : Pt} (h : ppS T n np a = .ok (c, p)) : p.1 < 3 ∧ TN p.2.1 15 ∧ (p.2.2 = [] ∨ TB p.2.2 18) := by
  unfold ppS at h
  by_cases q1 : ¬ wcode T n (sk T n a) = w_put
  · rw [if_pos q1] at h; cases h
  rw [if_neg q1] at h
  by_cases q2 : np = 6
  · rw [if_pos q2] at h; cases h
  rw [if_neg q2] at h
  by_cases q3 : ¬ hbW (wcode T n (sk T n (wEnd T n (sk T n a)))) < 3
  · rw [if_pos q3] at h; cases h
  rw [if_neg q3] at h
  cases h1 : sumD T n 6 (wEnd T n (sk T n (wEnd T n (sk T n a)))) with
  | error e => rw [h1] at h; cases h
  | ok r =>
    obtain ⟨x, M1⟩ := r
    rw [h1] at h
    dsimp only at h
    have hM1 := sumD_e 6 _ _ _ h1
    by_cases q4 : wcode T n (sk T n x) = w_if
    · rw [if_pos q4] at h
      cases h2 : anyW T n (oneD T n 6) (wEnd T n (sk T n x)) with
      | error e => rw [h2] at h; cases h
      | ok r =>
        obtain ⟨y, M2⟩ := r
        rw [h2] at h
        cases h
        exact ⟨Decidable.not_not.mp q3, hM1, Or.inr (anyW_e (oneD_e 6) _ _ _ h2)⟩
    · rw [if_neg q4] at h
      cases h
      exact ⟨Decidable.not_not.mp q3, hM1, Or.inl rfl⟩
theorem opL_v {T : Nat → Int32} {n : Nat} : ∀ (g np a : Nat) (ps : List Pt), opL T n g np a = .ok ps → PtV ps ∧ (np ≤ 6 → np + ps.length ≤ 6)
  | 0, np, a, ps, h => by
    cases h
    exact ⟨fun p hp => (by cases hp), fun h => h⟩
  | g + 1, np, a, ps, h => by
    unfold opL at h
    by_cases q : n ≤ sk T n a
    · rw [if_pos q] at h
      cases h
      exact ⟨fun p hp => (by cases hp), fun h => h⟩
    · rw [if_neg q, ptS_p] at h
      cases h1 : ppS T n np a with
      | error e => rw [h1] at h; cases h
      | ok r =>
        obtain ⟨c, p⟩ := r
        rw [h1] at h
        dsimp only at h
        have hnp := ppS_np h1
        have hpv := ppS_v h1
        cases h2 : sgS T n (nI 59) c with
        | error e => rw [h2] at h; cases h
        | ok r =>
          obtain ⟨z, M⟩ := r
          rw [h2] at h
          dsimp only at h
          cases h3 : opL T n g (np + 1) z with
          | error e => rw [h3] at h; cases h
          | ok qs =>
            rw [h3] at h
            cases h
            have ih := opL_v g (np + 1) z qs h3
            refine ⟨fun x hx => ?_, fun h6 => ?_⟩
            · rcases List.mem_cons.mp hx with rfl | hx
              · exact hpv
              · exact ih.1 x hx
            · have := ih.2 (by omega)
              rw [List.length_cons]
              omega
theorem opS_v {T : Nat → Int32} {n : Nat} {ps : List Pt} (h : opS T n = .ok ps) : PtV ps ∧ ps.length ≤ 6 := by
  have := opL_v 7 0 0 ps h
  exact ⟨this.1, by have := this.2 (by decide); omega⟩
theorem cdA_len : ∀ ps, (cdA ps).length + ps.length = (stA ps).length
  | [] => rfl
  | p :: ps => by
    have := cdA_len ps
    show (p.2.1 ++ p.2.2 ++ cdA ps).length + (ps.length + 1) = (stP p ++ stA ps).length
    unfold stP
    simp only [List.length_append, List.length_map, List.length_singleton]
    omega
theorem cdA_at : ∀ (ps : List Pt) (p : Nat) (x : Pt), ps[p]? = some x → ∃ R, cdA ps = cdA (ps.take p) ++ (x.2.1 ++ (x.2.2 ++ R))
  | [], _, _, h => by cases h
  | q :: ps, 0, x, h => by
    cases h
    exact ⟨cdA ps, by show q.2.1 ++ q.2.2 ++ cdA ps = [] ++ _; rw [List.nil_append, List.append_assoc]⟩
  | q :: ps, p + 1, x, h => by
    obtain ⟨R, hR⟩ := cdA_at ps p x h
    refine ⟨R, ?_⟩
    show q.2.1 ++ q.2.2 ++ cdA ps = q.2.1 ++ q.2.2 ++ cdA (ps.take p) ++ _
    rw [hR, List.append_assoc (q.2.1 ++ q.2.2)]
theorem pvl_R {I : Iv} {v p : Nat} {ps : List Pt} {x : Pt} (hP : PRt (I (500070 + v)) ps) (hC : CRt (I (500080 + v)) (cdA ps)) (hv : PtV ps) (hl : (cdA ps).length ≤ 160) (hp : ps[p]? = some x) : I (500070 + v) (4 * p) = nI x.1 ∧ wfQ I v p ∧ ∀ kn, PvR kn (decide (I (500016 + v) 4 = nI 1)) x (pvl I kn v p) := by
  obtain ⟨h0, h1, h2, h3⟩ := hP p x hp
  obtain ⟨hx3, hN, hB⟩ := hv x (List.mem_of_getElem? hp)
  obtain ⟨R, hR⟩ := cdA_at ps p x hp
  obtain ⟨c, hc⟩ : ∃ c, c = (cdA (ps.take p)).length := ⟨_, rfl⟩
  rw [← hc] at h1 h2 h3
  have hlen : c + x.2.1.length + x.2.2.length ≤ 160 := by
    rw [hR] at hl
    simp only [List.length_append] at hl
    omega
  have r1 : ∀ j y, x.2.1[j]? = some y → I (500080 + v) (2 * (c + j)) = nI y.1 ∧ I (500080 + v) (2 * (c + j) + 1) = nI y.2 := by
    intro j y hj
    refine hC _ _ ?_
    rw [hR, List.getElem?_append_right (by omega), hc, Nat.add_sub_cancel_left, List.getElem?_append_left (List.getElem?_eq_some_iff.mp hj).1]
    exact hj
  have r2 : ∀ j y, x.2.2[j]? = some y → I (500080 + v) (2 * (c + x.2.1.length + j)) = nI y.1 ∧ I (500080 + v) (2 * (c + x.2.1.length + j) + 1) = nI y.2 := by
    intro j y hj
    refine hC _ _ ?_
    rw [hR, Nat.add_assoc, List.getElem?_append_right (by omega), hc, Nat.add_sub_cancel_left, List.getElem?_append_right (by omega), Nat.add_sub_cancel_left, List.getElem?_append_left (List.getElem?_eq_some_iff.mp hj).1]
    exact hj
  obtain ⟨c1, hc1⟩ : ∃ c1, c1 = x.2.1.length := ⟨_, rfl⟩
  obtain ⟨c2, hc2⟩ : ∃ c2, c2 = x.2.2.length := ⟨_, rfl⟩
  have m1 : ∀ kn u, NV kn x.2.1 15 u → wfW (I (500080 + v)) c c1 0 ∧ wdp (I (500080 + v)) c c1 0 = 1 ∧ ∀ s, wst (I (500080 + v)) kn c c1 s 0 0 = u := by
    intro kn u hu
    have := hu.md.2 (I (500080 + v)) c r1 0 (by omega)
    rw [← hc1] at this
    exact ⟨this.1, this.2.1, fun s => (this.2.2 s).1⟩
  have m2 : ∀ kn u, BV kn x.2.2 18 u → wfW (I (500080 + v)) (c + c1) c2 0 ∧ wdp (I (500080 + v)) (c + c1) c2 0 = 1 ∧ ∀ s, wst (I (500080 + v)) kn (c + c1) c2 s 0 0 = u := by
    intro kn u hu
    have := hu.md.2 (I (500080 + v)) (c + x.2.1.length) r2 0 (by omega)
    rw [← hc1, ← hc2] at this
    exact ⟨this.1, this.2.1, fun s => (this.2.2 s).1⟩
  rw [← hc1] at h2 h3 hlen
  rw [← hc2] at h3 hlen
  have k1 : c + c1 - c = c1 := by omega
  have k2 : c + c1 + c2 - (c + c1) = c2 := by omega
  have hc20 : x.2.2 = [] ↔ c2 = 0 := by rw [hc2]; exact List.length_eq_zero_iff.symm
  obtain ⟨u0, hu0⟩ := hN (fun _ => nI 0)
  have w1 := m1 _ _ hu0
  have w2 : wfW (I (500080 + v)) (c + c1) c2 0 ∧ (0 < c2 → wdp (I (500080 + v)) (c + c1) c2 0 = 1) := by
    rcases hB with hB | hB
    · have : c2 = 0 := hc20.mp hB
      rw [this]
      exact ⟨trivial, fun z => by omega⟩
    · obtain ⟨u, hu⟩ := hB (fun _ => nI 0)
      have := m2 _ _ hu
      exact ⟨this.1, fun _ => this.2.1⟩
  refine ⟨h0, ⟨⟨c, c + c1, c + c1 + c2, h1, h2, h3, by omega, by omega, hlen, by rw [k1]; exact w1.1, by rw [k2]; exact w2.1⟩, c, c + c1, c + c1 + c2, h1, h2, h3, hlen, by omega, by omega, (by rw [k1, w1.2.1]; exact Nat.le_refl 1), fun z => (by rw [k2, w2.2 (by omega)]; exact Nat.le_refl 1)⟩, fun kn => ?_⟩
  obtain ⟨u, hu⟩ := hN kn
  have mu := m1 kn u hu
  have e1 : (I (500070 + v) (4 * p + 1)).toNatClampNeg = c := by rw [h1]; exact nI_clamp (by omega)
  have e2 : (I (500070 + v) (4 * p + 2)).toNatClampNeg = c + c1 := by rw [h2]; exact nI_clamp (by omega)
  have e3 : (I (500070 + v) (4 * p + 3)).toNatClampNeg = c + c1 + c2 := by rw [h3]; exact nI_clamp (by omega)
  have ed : (if I (500016 + v) 4 = nI 1 then clF u / nI 2 else clF u) = duF (decide (I (500016 + v) 4 = nI 1)) u := by
    unfold duF
    by_cases q : I (500016 + v) 4 = nI 1
    · rw [if_pos q, if_pos (decide_eq_true q)]
    · rw [if_neg q, if_neg (fun z => q (of_decide_eq_true z))]
  have ev : pvl I kn v p = if c + c1 < c + c1 + c2 ∧ wvl (I (500080 + v)) kn (c + c1) c2 = nI 0 then nI 0 else duF (decide (I (500016 + v) 4 = nI 1)) u := by
    unfold pvl
    simp only [e1, e2, e3, k1, k2]
    rw [← ed, show wvl (I (500080 + v)) kn c c1 = u from mu.2.2 _]
  rw [ev]
  by_cases hn : x.2.2 = []
  · have : c2 = 0 := hc20.mp hn
    refine ⟨u, hu, Or.inl ⟨hn, ?_⟩⟩
    rw [if_neg (by omega)]
  · have hz : ¬ c2 = 0 := fun z => hn (hc20.mpr z)
    obtain ⟨w, hw⟩ := (hB.resolve_left hn) kn
    have mw := m2 kn w hw
    refine ⟨u, hu, Or.inr ⟨w, hn, hw, ?_⟩⟩
    rw [show wvl (I (500080 + v)) kn (c + c1) c2 = w from mw.2.2 _]
    by_cases q : w = nI 0
    · rw [if_pos ⟨by omega, q⟩, if_pos q]
    · rw [if_neg (fun z => q z.2), if_neg q]
def Cv (c : Cd) : Prop := (c.1 = 0 ∧ c.2 ≤ 999) ∨ (c.1 = 1 ∧ c.2 < 7) ∨ (2 ≤ c.1 ∧ c.1 ≤ 11 ∧ c.2 = 0)
theorem Cv.bin {A B : List Cd} {k : Nat} (h2 : 2 ≤ k) (h : k ≤ 11) (ha : ∀ c ∈ A, Cv c) (hb : ∀ c ∈ B, Cv c) : ∀ c ∈ A ++ (B ++ [(k, 0)]), Cv c := by
  intro c hc
  rcases List.mem_append.mp hc with z | z
  · exact ha c z
  · rcases List.mem_append.mp z with z | z
    · exact hb c z
    · rw [List.mem_singleton.mp z]
      exact Or.inr (Or.inr ⟨h2, h, rfl⟩)
theorem NV.cv {kn : Nat → Int32} {M : List Cd} {D : Nat} {u : Int32} (h : NV kn M D u) : ∀ c ∈ M, Cv c := by
  refine h (fun M _ _ => ∀ c ∈ M, Cv c) ?_ ?_ ?_
  · intro v D hv c hc
    rw [List.mem_singleton.mp hc]
    exact Or.inl ⟨rfl, hv⟩
  · intro v D hv c hc
    rw [List.mem_singleton.mp hc]
    exact Or.inr (Or.inl ⟨rfl, hv⟩)
  · intro k A B D u w h2 h5 ha hb
    exact Cv.bin h2 (by omega) ha hb
theorem BV.cv {kn : Nat → Int32} {M : List Cd} {D : Nat} {u : Int32} (h : BV kn M D u) : ∀ c ∈ M, Cv c := by
  refine h (fun M _ _ => ∀ c ∈ M, Cv c) ?_ ?_ ?_
  · intro k A B D u w h2 h5 ha hb
    exact Cv.bin (by omega) (by omega) ha.cv hb.cv
  · intro A D u ha c hc
    rcases List.mem_append.mp hc with z | z
    · exact ha c z
    · rw [List.mem_singleton.mp z]
      exact Or.inr (Or.inr ⟨by decide, by decide, rfl⟩)
  · intro k A B D u w h2 h5 ha hb
    exact Cv.bin (by omega) (by omega) ha hb
theorem enc_1004 {c : Cd} (h : Cv c) : enc c = 1004 ↔ c = (1, 4) := by
  obtain ⟨a, d⟩ := c
  rcases h with ⟨h1, h2⟩ | ⟨h1, h2⟩ | ⟨h1, h2, h3⟩
  · have h1' : a = 0 := h1
    subst h1'
    have h2' : d ≤ 999 := h2
    constructor
    · intro e
      have e' : d = 1004 := e
      omega
    · intro e
      cases e
  · have h1' : a = 1 := h1
    subst h1'
    have h2' : d < 7 := h2
    have : ∀ d, d < 7 → (enc (1, d) = 1004 ↔ ((1, d) : Cd) = (1, 4)) := by decide
    exact this d h2'
  · have h3' : d = 0 := h3
    subst h3'
    have h1' : 2 ≤ a := h1
    have h2' : a ≤ 11 := h2
    have : ∀ a, a < 12 → 2 ≤ a → (enc (a, 0) = 1004 ↔ ((a, 0) : Cd) = (1, 4)) := by decide
    exact this a (by omega) h1'
theorem PtV.cv {ps : List Pt} (h : PtV ps) : ∀ p ∈ ps, (∀ c ∈ p.2.1, Cv c) ∧ ∀ c ∈ p.2.2, Cv c := by
  intro p hp
  obtain ⟨-, h1, h2⟩ := h p hp
  refine ⟨?_, ?_⟩
  · obtain ⟨u, hu⟩ := h1 (fun _ => nI 0)
    exact hu.cv
  · rcases h2 with h2 | h2
    · rw [h2]
      intro c hc
      cases hc
    · obtain ⟨u, hu⟩ := h2 (fun _ => nI 0)
      exact hu.cv
theorem map_1004 {M : List Cd} (h : ∀ c ∈ M, Cv c) : 1004 ∈ M.map enc ↔ (1, 4) ∈ M := by
  rw [List.mem_map]
  constructor
  · rintro ⟨c, hc, e⟩
    rw [← (enc_1004 (h c hc)).mp e]
    exact hc
  · intro hc
    exact ⟨_, hc, rfl⟩
theorem st_1004 : ∀ ps, PtV ps → (1004 ∈ stA ps ↔ (1, 4) ∈ cdA ps)
  | [], _ => ⟨fun h => (by cases h), fun h => (by cases h)⟩
  | p :: ps, h => by
    have h1 := h.cv p List.mem_cons_self
    have h3 := (h p List.mem_cons_self).1
    have ih := st_1004 ps (fun q hq => h q (List.mem_cons_of_mem _ hq))
    show 1004 ∈ stP p ++ stA ps ↔ (1, 4) ∈ p.2.1 ++ p.2.2 ++ cdA ps
    unfold stP
    rw [List.mem_append, List.mem_append, List.mem_append, List.mem_singleton, List.mem_append, List.mem_append, map_1004 h1.1, map_1004 h1.2, ih]
    have : ¬ 1004 = (if p.2.2 = [] then 1017 else 1020) + p.1 := by
      by_cases q : p.2.2 = []
      · rw [if_pos q]; omega
      · rw [if_neg q]; omega
    constructor
    · rintro ((h | h) | h)
      · exact Or.inl h
      · exact absurd h this
      · exact Or.inr h
    · rintro (h | h)
      · exact Or.inl (Or.inl h)
      · exact Or.inr h
