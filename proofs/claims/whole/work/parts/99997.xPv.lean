/-! bounds of cups, on: springs, strainers, puts -/
theorem nn_cl {x : Int32} (h : nI 0 ≤ x) : x = nI x.toNatClampNeg ∧ x.toNatClampNeg < 2147483648 := by
  obtain ⟨k, hk, e⟩ := nn_ex h
  rw [e, nI_clamp hk]
  exact ⟨rfl, hk⟩
theorem IB.le {r r' : Nat → Int32} {p : Nat → Nat} {nV T : Nat} (h : IB r p nV T) (hT : T < 2147483648) (hle : ∀ v, v < nV → nI 0 ≤ r' (p v) ∧ r' (p v) ≤ r (p v)) : IB r' p nV T := by
  obtain ⟨q, h1, h2⟩ := h
  refine ⟨fun v => (r' (p v)).toNatClampNeg, fun v hv => (nn_cl (hle v hv).1).1, Nat.le_trans (smN_m _ (fun v hv => ?_)) h2⟩
  have a := nn_cl (hle v hv).1
  have b := (hle v hv).2
  have c := smN_one (f := q) nV hv
  rw [a.1, h1 v hv] at b
  exact (nI_leI a.2 (by omega)).mp b
theorem IB.eq {r r' : Nat → Int32} {p : Nat → Nat} {nV T : Nat} (h : IB r p nV T) (he : ∀ v, v < nV → r' (p v) = r (p v)) : IB r' p nV T := by
  obtain ⟨q, h1, h2⟩ := h
  exact ⟨q, fun v hv => by rw [he v hv, h1 v hv], h2⟩
theorem IB.mono {r : Nat → Int32} {p : Nat → Nat} {nV T T' : Nat} (h : IB r p nV T) (ht : T ≤ T') : IB r p nV T' := by
  obtain ⟨q, h1, h2⟩ := h
  exact ⟨q, h1, Nat.le_trans h2 ht⟩
theorem IB.nn {r : Nat → Int32} {p : Nat → Nat} {nV T v : Nat} (h : IB r p nV T) (hT : T < 2147483648) (hv : v < nV) : nI 0 ≤ r (p v) := by
  obtain ⟨k, hk, e⟩ := h.one hv
  rw [e]
  exact nI_nn (by omega)
/-- more of an item in each village -/
theorem IB.more {r r' : Nat → Int32} {p : Nat → Nat} {nV T b : Nat} (h : IB r p nV T) (hm : ∀ v, v < nV → ∃ e, e ≤ b ∧ r' (p v) = r (p v) + nI e) : IB r' p nV (T + nV * b) := by
  obtain ⟨q, h1, h2⟩ := h
  have hm' : ∀ v, ∃ e, e ≤ b ∧ (v < nV → r' (p v) = r (p v) + nI e) := fun v => by
    by_cases hv : v < nV
    · obtain ⟨e, a, c⟩ := hm v hv
      exact ⟨e, a, fun _ => c⟩
    · exact ⟨0, by omega, fun c => absurd c hv⟩
  obtain ⟨ef, hef⟩ : ∃ ef : Nat → Nat, ∀ v, ef v ≤ b ∧ (v < nV → r' (p v) = r (p v) + nI (ef v)) := ⟨fun v => (hm' v).choose, fun v => (hm' v).choose_spec⟩
  refine ⟨fun v => q v + ef v, fun v hv => by rw [(hef v).2 hv, h1 v hv, nI_add], ?_⟩
  rw [smN_add]
  have := smN_k (f := ef) (b := b) nV (fun v _ => (hef v).1)
  omega
/-- more of an item in one village -/
theorem IB.more1 {r r' : Nat → Int32} {p : Nat → Nat} {nV T b u : Nat} (h : IB r p nV T) (hm : ∃ e, e ≤ b ∧ r' (p u) = r (p u) + nI e) (ho : ∀ v, v < nV → v ≠ u → r' (p v) = r (p v)) : IB r' p nV (T + b) := by
  obtain ⟨q, h1, h2⟩ := h
  obtain ⟨e, he, hu⟩ := hm
  refine ⟨fun v => q v + if v = u then e else 0, fun v hv => ?_, ?_⟩
  · dsimp only
    by_cases c : v = u
    · rw [if_pos c]
      subst c
      rw [hu, h1 v hv, nI_add]
    · rw [if_neg c, ho v hv c, h1 v hv, Nat.add_zero]
  · rw [smN_add, smN_pick]
    by_cases c : u < nV
    · rw [if_pos c]; omega
    · rw [if_neg c]; omega
section Bd
variable {I : Iv} {S : Tn} {r : Nat → Int32} {x dry : Int32} {nV : Nat}
theorem h5_w {u : Nat} (hM : MT I S) (hS : TnV S) : ∀ m, m ≤ S.1.1 → ∃ e, e ≤ 99 ∧ (h5 I dry r x m).1 u = r u + nI e ∧ (m ≤ u → e = 0)
  | 0, _ => ⟨0, by omega, (Int32.add_zero _).symm, fun _ => rfl⟩
  | m + 1, hm => by
    obtain ⟨e, he, h1, h2⟩ := h5_w (u := u) hM hS m (by omega)
    show ∃ e, e ≤ 99 ∧ ru (h5 I dry r x m).1 m _ u = r u + nI e ∧ _
    by_cases c : u = m
    · subst c
      have e0 := h2 (Nat.le_refl _)
      subst e0
      rw [ru_s, h1, hM.2.2.2 u (by omega) 1 (by decide)]
      have hs := (hS.2.2.2.2.2.2.2 u (by omega)).2.1
      have key : ∀ (c : Prop) (dc : Decidable c), ∃ e, e ≤ 99 ∧ (r u + nI 0) + (@ite _ c dc (nI 0) (nI (S.2.2.1 u 1))) = r u + nI e ∧ (u + 1 ≤ u → e = 0) := by
        intro c dc
        by_cases q : c
        · exact ⟨0, by omega, by rw [if_pos q, nI_zero, Int32.add_zero, Int32.add_zero], fun _ => rfl⟩
        · exact ⟨S.2.2.1 u 1, hs, by rw [if_neg q, nI_zero, Int32.add_zero], fun z => absurd z (by omega)⟩
      exact key _ _
    · rw [ru_n c]
      exact ⟨e, he, h1, fun z => h2 (by omega)⟩
theorem st_le {bas : Nat → Int32} {tk m : Int32} {v h : Nat} (h9 : nV ≤ 9) (hv : v < nV) (hh : h < 3) (h0 : StR ((bas, tk), m) (r, m) nV) : ∀ w, w ≤ nV → ∀ k, k < 252 → (stR v h m r w).1 k ≤ r k
  | 0, _, k, _ => Int32.le_refl _
  | w + 1, hw, k, hk => by
    have ih := st_le h9 hv hh h0 w (by omega) k hk
    obtain ⟨-, -, -, hP0, hN⟩ := st_nV h9 hv hh h0 w (by omega)
    rw [stR]
    generalize stR v h m r w = P at ih hP0 hN ⊢
    obtain ⟨a, ha, ea⟩ := nn_ex hP0
    obtain ⟨c, hc, ec⟩ := nn_ex (hN.2 v h w hv hh (by omega))
    have et : (if P.2 < P.1 (9 + 27 * v + 9 * h + w) then P.2 else P.1 (9 + 27 * v + 9 * h + w)) = nI (min a c) := by
      rw [ea, ec]
      by_cases z : a < c
      · rw [if_pos (nI_lt z hc), Nat.min_eq_left (by omega)]
      · rw [if_neg (nI_nlt (by omega) ha), Nat.min_eq_right (by omega)]
    have hmin : min a c ≤ c := Nat.min_le_right _ _
    show ru (ru P.1 (9 + 27 * v + 9 * h + w) _) 496 _ k ≤ r k
    rw [ru_n (by omega)]
    by_cases q : k = 9 + 27 * v + 9 * h + w
    · rw [q, ru_s, et, ec, nI_sb hmin]
      refine Int32.le_trans (nI_le (Nat.sub_le _ _) hc) ?_
      rw [← ec, ← q]
      exact ih
    · rw [ru_n q]
      exact ih
theorem st9_le {q : (Nat → Int32) × Int32} {v h : Nat} {m : Int32} (h9 : nV ≤ 9) (hv : v < nV) (hh : h < 3) (hm : nI 0 ≤ m) (h0 : TkR q r nV) : ∀ k, k < 252 → (stR v h m r 9).1 k ≤ r k := by
  obtain ⟨hB, ht, hN, hZ⟩ := h0
  have hs : StR ((q.1, q.2), m) (r, m) nV := ⟨hB, ht, rfl, hm, hN⟩
  have h1 := st_nV (v := v) (h := h) h9 hv hh hs nV (Nat.le_refl _)
  have h2 := stR_z (nV := nV) (v := v) (h := h) (m := m) (r := r) (by omega) hh (fun w a b => hZ v h w hv hh a b) h1.2.2.2.1 (9 - nV) (by omega)
  rw [show nV + (9 - nV) = 9 by omega] at h2
  rw [h2]
  exact st_le h9 hv hh hs nV (Nat.le_refl _)
theorem t3_le {q : (Nat → Int32) × Int32} {v : Nat} {sn sm : Nat → Nat → Int32} (h9 : S.1.1 ≤ 9) (hv : v < S.1.1) (hs : ∀ h, h < 3 → sn v h = sm v h ∧ nI 0 ≤ sm v h) (h0 : TkR q r S.1.1) : ∀ h, h ≤ 3 → ∀ k, k < 252 → t3 sm v h r k ≤ r k
  | 0, _, _, _ => Int32.le_refl _
  | h + 1, hh, k, hk => by
    unfold t3
    exact Int32.le_trans (st9_le h9 hv (by omega) (hs h (by omega)).2 (s3_t3 h9 hv hs h0 h (by omega)) k hk) (t3_le h9 hv hs h0 h (by omega) k hk)
theorem t6_le {q : (Nat → Int32) × Int32} {sn sm : Nat → Nat → Int32} (h9 : S.1.1 ≤ 9) (hs : ∀ v h, v < S.1.1 → h < 3 → sn v h = sm v h ∧ nI 0 ≤ sm v h) (h0 : TkR q r S.1.1) : ∀ v, v ≤ S.1.1 → ∀ k, k < 252 → t6 sm v r k ≤ r k
  | 0, _, _, _ => Int32.le_refl _
  | v + 1, hv, k, hk => by
    unfold t6
    exact Int32.le_trans (t3_le h9 (by omega) (fun h hh => hs v h (by omega) hh) (s6_t6 h9 hs h0 v (by omega)) 3 (Nat.le_refl _) k hk) (t6_le h9 hs h0 v (by omega) k hk)
/-- nothing strained of the villages beyond -/
theorem t3_f {v : Nat} {sm : Nat → Nat → Int32} {k : Nat} (hk : ¬ (9 + 27 * v ≤ k ∧ k < 36 + 27 * v)) (h4 : k ≠ 496) : ∀ h, h ≤ 3 → t3 sm v h r k = r k
  | 0, _ => rfl
  | h + 1, hh => by
    unfold t3
    rw [stR_o (fun w hw => by omega) h4 9 (Nat.le_refl _)]
    exact t3_f hk h4 h (by omega)
theorem t6_f {sm : Nat → Nat → Int32} {k : Nat} : ∀ v, (9 + 27 * v ≤ k) → k ≠ 496 → t6 sm v r k = r k
  | 0, _, _ => rfl
  | v + 1, hv, h4 => by
    unfold t6
    rw [t3_f (by omega) h4 3 (Nat.le_refl _)]
    exact t6_f v (by omega) h4
end Bd
section P9
variable {pn r : Nat → Int32}
theorem p9h_o {v k : Nat} (hv : v < 9) (h0 : k ≠ 432 + v) (h1 : ∀ h, h < 3 → k ≠ 9 + 27 * v + 9 * h + v) (h2 : ∀ h, h < 3 → k ≠ 441 + 3 * v + h) : ∀ j, j ≤ 3 → p9h pn v j r k = r k
  | 0, _ => rfl
  | j + 1, hj => by
    rw [p9h_s hv (by omega), ru_n h0, ru_n (h2 j (by omega)), ru_n (h1 j (by omega))]
    exact p9h_o hv h0 h1 h2 j (by omega)
theorem p9_o {k : Nat} : ∀ m, m ≤ 9 → (∀ v, v < m → k ≠ 432 + v ∧ (∀ h, h < 3 → k ≠ 9 + 27 * v + 9 * h + v) ∧ ∀ h, h < 3 → k ≠ 441 + 3 * v + h) → p9 pn m r k = r k
  | 0, _, _ => rfl
  | m + 1, hm, h => by
    obtain ⟨h0, h1, h2⟩ := h m (by omega)
    show p9h pn m 3 (ru (p9 pn m r) (432 + m) (nI 0)) k = r k
    rw [p9h_o (by omega) h0 h1 h2 3 (Nat.le_refl _), ru_n h0]
    exact p9_o m (by omega) (fun v hv => h v (by omega))
theorem p9h_c {v h : Nat} (hv : v < 9) (hh : h < 3) : p9h pn v 3 r (9 + 27 * v + 9 * h + v) = r (9 + 27 * v + 9 * h + v) + pn (3 * v + h) := by
  have s := fun (j : Nat) (hj : j < 3) => p9h_s (pn := pn) (r := r) (v := v) (h := j) hv hj
  have z : p9h pn v 0 r = r := rfl
  have hd : ∀ j, j < 3 → j ≠ h → 9 + 27 * v + 9 * h + v ≠ 9 + 27 * v + 9 * j + v := fun j _ q => by omega
  have step : ∀ j, j < 3 → p9h pn v (j + 1) r (9 + 27 * v + 9 * h + v) = if j = h then p9h pn v j r (9 + 27 * v + 9 * h + v) + pn (3 * v + h) else p9h pn v j r (9 + 27 * v + 9 * h + v) := by
    intro j hj
    rw [s j hj, ru_n (by omega), ru_n (by omega)]
    by_cases q : j = h
    · rw [if_pos q, q, ru_s]
    · rw [if_neg q, ru_n (hd j hj q)]
  rw [step 2 (by decide), step 1 (by decide), step 0 (by decide), z]
  rcases (show h = 0 ∨ h = 1 ∨ h = 2 by omega) with rfl | rfl | rfl <;> simp
theorem p9_c {v h : Nat} (hh : h < 3) : ∀ m, m ≤ 9 → v < m → p9 pn m r (9 + 27 * v + 9 * h + v) = r (9 + 27 * v + 9 * h + v) + pn (3 * v + h)
  | 0, _, hv => absurd hv (by omega)
  | m + 1, hm, hv => by
    show p9h pn m 3 (ru (p9 pn m r) (432 + m) (nI 0)) _ = _
    by_cases e : v = m
    · subst e
      rw [p9h_c (by omega) hh, ru_n (by omega), p9_o v (by omega) (fun u hu => ⟨by omega, fun j hj => by omega, fun j hj => by omega⟩)]
    · rw [p9h_o (by omega) (by omega) (fun j hj => by omega) (fun j hj => by omega) 3 (Nat.le_refl _), ru_n (by omega)]
      exact p9_c hh m (by omega) (by omega)
end P9
