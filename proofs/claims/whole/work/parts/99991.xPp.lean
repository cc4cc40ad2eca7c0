/-! the days of the class and the model's row: the past -/
section Pst
variable {J : Iv} {S : Tn} {y n : Nat} {r : Nat → Int32}
def PaR (pa : Nat → Int32) (r : Nat → Int32) (S : Tn) (n : Nat) : Prop := ∀ v, v < S.1.1 → 0 < vz S v 3 → ∀ e j, e < 5 → j < 4 → r (252 + 36 * e + 4 * v + j) = pa (pcl (n - e) v + j)
theorem pa_1 (hS : TnV S) (hB : BR (J (y + 1)) r S.1.1) (hZ : ZR r S.1.1) (hP : PaR (J (y + 2)) r S n) : PaR (rmR J y S.1.1 (n + 1) (fun v => vz S v 3) S.1.1) (w11 S.1.1 (w10 r)) S (n + 1) := by
  intro v hv hl e j he hj
  have s9 := hS.1
  by_cases e0 : e = 0
  · subst e0
    have h1 := rmR_s (J := J) (y := y) (nV := S.1.1) (n := n + 1) (v := v) (lg := fun v => vz S v 3) hl S.1.1 hv s9
    have ew : w11 S.1.1 (w10 r) (252 + 36 * 0 + 4 * v + j) = if j = 0 then w10 r v else smI (fun w => w10 r (9 + 27 * v + 9 * (j - 1) + w)) 9 := by
      unfold w11
      rw [if_pos (by omega), show (252 + 36 * 0 + 4 * v + j - 252) % 4 = j by omega, show (252 + 36 * 0 + 4 * v + j - 252) / 4 = v by omega]
    have e10 : ∀ k, k < 288 → w10 r k = r k := fun k hk => if_neg (by omega)
    rw [ew, Nat.sub_zero]
    by_cases j0 : j = 0
    · rw [if_pos j0, j0, e10 v (by omega)]
      exact ((hB.1 v hv).symm.trans h1.1.symm)
    · rw [if_neg j0]
      have h2 := h1.2 (j - 1) (by omega)
      rw [show pcl (n + 1) v + 1 + (j - 1) = pcl (n + 1) v + j by omega] at h2
      rw [h2, hbD_r hS hB hZ hv (by omega)]
      exact smI_c _ (fun w hw => e10 _ (by omega))
  · have e1 : w11 S.1.1 (w10 r) (252 + 36 * e + 4 * v + j) = r (252 + 36 * (e - 1) + 4 * v + j) := by
      unfold w11 w10
      rw [if_neg (by omega), if_pos (by omega), show 252 + 36 * e + 4 * v + j - 36 = 252 + 36 * (e - 1) + 4 * v + j by omega]
    rw [e1, hP v hv hl (e - 1) j (by omega) hj, show n - (e - 1) = n + 1 - e by omega]
    refine (rmR_n _ (fun u hu _ => ?_)).symm
    unfold pcl
    omega
end Pst
