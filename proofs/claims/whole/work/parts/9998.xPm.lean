/-! the days of the class and the model's row: what a village knows -/
section Kno
variable {I J : Iv} {S : Tn} {y n v : Nat} {r : Nat → Int32}
theorem hbD_r {h : Nat} (hS : TnV S) (hB : BR (J (y + 1)) r S.1.1) (hZ : ZR r S.1.1) (hv : v < S.1.1) (hh : h < 3) : hbD J y S.1.1 v h = smI (fun w => r (9 + 27 * v + 9 * h + w)) 9 := by
  unfold hbD
  rw [smI_sh (f := fun w => r (9 + 27 * v + 9 * h + w)) hS.1 (fun w a b => hZ v h w hv hh a b)]
  exact smI_c _ (fun w hw => hB.2 v h w hv hh hw)
theorem kn_eq (hM : MT I S) (hS : TnV S) (hB : BR (J (y + 1)) r S.1.1) (hZ : ZR r S.1.1) (hv : v < S.1.1) (hp : 0 < vz S v 3 → ∀ j, j < 4 → J (y + 2) (pcl (n - vz S v 3) v + j) = r (252 + 36 * (vz S v 3 - 1) + 4 * v + j)) (hn : r 501 = nI n) (hl : J (y + 3) v = r (432 + v)) : ∀ j, j < 7 → knD J y S n v j = knR I r v j := by
  intro j hj
  have e3 : (I (500016 + v) 3).toNatClampNeg = vz S v 3 := by
    have h5 := (hS.2.2.2.2.2.2.2 v hv).2.2.1
    rw [hM.2.2.2 v hv 3 (by decide), nI_clamp (by omega)]
    unfold vz
    rw [if_pos hv]
  have e1 : I (500016 + v) 1 = nI (vz S v 1) := by unfold vz; rw [if_pos hv, hM.2.2.2 v hv 1 (by decide)]
  unfold knD knR
  rw [e3, e1, hn, hl]
  by_cases j0 : j = 0
  · subst j0
    by_cases q : 0 < vz S v 3
    · rw [if_pos rfl, if_pos q, if_pos (show 0 < 4 by decide), if_pos q]
      exact hp q 0 (by decide)
    · rw [if_pos rfl, if_neg q, if_pos (show 0 < 4 by decide), if_neg q, if_pos rfl]
      exact hB.1 v hv
  · rw [if_neg j0]
    by_cases j4 : j < 4
    · rw [if_pos j4, if_pos j4, if_neg j0]
      by_cases q : 0 < vz S v 3
      · rw [if_pos q, if_pos q]
        exact hp q j j4
      · rw [if_neg q, if_neg q]
        exact hbD_r hS hB hZ hv (by omega)
    · rw [if_neg j4, if_neg j4]
end Kno
