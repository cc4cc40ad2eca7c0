/-! the days of the class and the model's row: all strainers -/
section Str
variable {S : Tn} {nV v : Nat} {sn sm : Nat → Nat → Int32}
/-- basins, taken; the row: alike, and well -/
def TkR (q : (Nat → Int32) × Int32) (r : Nat → Int32) (nV : Nat) : Prop := BR q.1 r nV ∧ q.2 = r 496 ∧ NN r nV ∧ ZR r nV
theorem st_9 {q : (Nat → Int32) × Int32} {r : Nat → Int32} {h : Nat} {m : Int32} (h9 : nV ≤ 9) (hv : v < nV) (hh : h < 3) (hm : nI 0 ≤ m) (h0 : TkR q r nV) : TkR (toR (cl nV v h 0) nV (q, m)).1 (stR v h m r 9).1 nV := by
  obtain ⟨hB, ht, hN, hZ⟩ := h0
  have h1 := st_nV (v := v) (h := h) (m := m) (bas := q.1) (tk := q.2) (r := r) h9 hv hh ⟨hB, ht, rfl, hm, hN⟩ nV (Nat.le_refl _)
  have h2 : stR v h m r 9 = stR v h m r nV := by
    have := stR_z (nV := nV) (v := v) (h := h) (m := m) (r := r) (by omega) hh (fun w a b => hZ v h w hv hh a b) h1.2.2.2.1 (9 - nV) (by omega)
    rw [show nV + (9 - nV) = 9 by omega] at this
    exact this
  rw [h2]
  refine ⟨h1.1, h1.2.1, h1.2.2.2.2, fun x b w hx hb hw hw9 => ?_⟩
  by_cases e : x = v ∧ b = h
  · obtain ⟨rfl, rfl⟩ := e
    rw [stR_f (by omega) hb nV hw hw9]
    exact hZ x b w hx hb hw hw9
  · rw [stR_o (fun z hz c => e (by omega)) (by omega) nV h9]
    exact hZ x b w hx hb hw hw9
theorem s3_t3 {q : (Nat → Int32) × Int32} {r : Nat → Int32} (h9 : S.1.1 ≤ 9) (hv : v < S.1.1) (hs : ∀ h, h < 3 → sn v h = sm v h ∧ nI 0 ≤ sm v h) (h0 : TkR q r S.1.1) : ∀ h, h ≤ 3 → TkR (s3X S sn v h q) (t3 sm v h r) S.1.1
  | 0, _ => h0
  | h + 1, hh => by
    unfold s3X t3
    rw [(hs h (by omega)).1]
    exact st_9 h9 hv (by omega) (hs h (by omega)).2 (s3_t3 h9 hv hs h0 h (by omega))
theorem s6_t6 {q : (Nat → Int32) × Int32} {r : Nat → Int32} (h9 : S.1.1 ≤ 9) (hs : ∀ v h, v < S.1.1 → h < 3 → sn v h = sm v h ∧ nI 0 ≤ sm v h) (h0 : TkR q r S.1.1) : ∀ v, v ≤ S.1.1 → TkR (s6X S sn v q) (t6 sm v r) S.1.1
  | 0, _ => h0
  | v + 1, hv => by
    unfold s6X t6
    exact s3_t3 h9 (by omega) (fun h hh => hs v h (by omega) hh) (s6_t6 h9 hs h0 v (by omega)) 3 (Nat.le_refl _)
theorem t3_o {r : Nat → Int32} {k : Nat} (hv : v < 9) (hk : k < 9 ∨ 252 ≤ k) (h4 : k ≠ 496) : ∀ h, h ≤ 3 → t3 sm v h r k = r k
  | 0, _ => rfl
  | h + 1, hh => by
    unfold t3
    rw [stR_o (fun w hw => by omega) h4 9 (Nat.le_refl _)]
    exact t3_o hv hk h4 h (by omega)
theorem t6_o {r : Nat → Int32} {k : Nat} (hk : k < 9 ∨ 252 ≤ k) (h4 : k ≠ 496) : ∀ v, v ≤ 9 → t6 sm v r k = r k
  | 0, _ => rfl
  | v + 1, hv => by
    unfold t6
    rw [t3_o (by omega) hk h4 3 (Nat.le_refl _)]
    exact t6_o hk h4 v (by omega)
end Str
