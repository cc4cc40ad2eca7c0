/-! the days of the class and the model's row: the springs -/
section Spr
variable {I : Iv} {S : Tn} {bas r : Nat → Int32} {x dry : Int32}
theorem h5_o {k : Nat} (hk : 9 ≤ k) : ∀ m, m ≤ 9 → (h5 I dry r x m).1 k = r k
  | 0, _ => rfl
  | m + 1, hm => by
    show ru (h5 I dry r x m).1 m _ k = r k
    rw [ru_n (by omega)]
    exact h5_o hk m (by omega)
theorem BR.upw {v nV : Nat} {z : Int32} (h : BR bas r nV) (hv : v < nV) (h9 : nV ≤ 9) : BR (ru bas (v * (1 + 3 * nV)) z) (ru r v z) nV := by
  refine ⟨fun u hu => ?_, fun u a w hu ha hw => ?_⟩
  · by_cases e : u = v
    · rw [e, ru_s, ru_s]
    · rw [ru_n (fun q => e (blk_inj (W := 1 + 3 * nV) (i := 0) (j := 0) (by omega) (by omega) (by omega)).1), ru_n e]
      exact h.1 u hu
  · have hi := it_lt ha hw
    rw [ru_n (fun q => by rw [cl_i] at q; have := (blk_inj (j := 0) hi (by omega) (by omega) : u = v ∧ _).2; omega), ru_n (by omega)]
    exact h.2 u a w hu ha hw
theorem fill_b (hM : MT I S) (hS : TnV S) (hd : nI 0 ≤ dry) (hB : BR bas r S.1.1) : ∀ m, m ≤ S.1.1 → BR (fiR S dry m (bas, x)).1 (h5 I dry r x m).1 S.1.1 ∧ (fiR S dry m (bas, x)).2 = (h5 I dry r x m).2
  | 0, _ => ⟨hB, rfl⟩
  | m + 1, hm => by
    obtain ⟨ih1, ih2⟩ := fill_b hM hS hd hB m (by omega)
    have s9 := hS.1
    have hm' : m < S.1.1 := by omega
    have hsp : I (500016 + m) 1 = nI (vz S m 1) := by unfold vz; rw [if_pos hm', hM.2.2.2 m hm' 1 (by decide)]
    have hw := ih1.1 m hm'
    show BR (fi1 S dry m (fiR S dry m (bas, x))).1 (ru (h5 I dry r x m).1 m _) S.1.1 ∧ (fi1 S dry m (fiR S dry m (bas, x))).2 = _
    generalize fiR S dry m (bas, x) = Q at ih1 ih2 hw ⊢
    have hh : (h5 I dry r x (m + 1)).2 = if nI 0 < dry then (h5 I dry r x m).2 * nI 1103515245 + nI 12345 else (h5 I dry r x m).2 := rfl
    rw [hh]
    generalize h5 I dry r x m = P at ih1 ih2 hw ⊢
    unfold fi1
    dsimp only
    rw [hsp, hw, ih2]
    by_cases q : dry = nI 0
    · have hn : ¬ nI 0 < dry := by rw [q]; decide
      rw [if_pos q, if_neg (fun c => hn c.1), if_neg hn]
      exact ⟨ih1.upw hm' s9, rfl⟩
    · have hp : nI 0 < dry := Int32.lt_of_le_of_ne hd (fun z => q z.symm)
      rw [if_neg q, if_pos hp]
      by_cases z : (loN P.2 >>> (nI 16 &&& 31) &&& nI 15) < dry
      · rw [if_pos z, if_pos ⟨hp, z⟩, nI_zero, Int32.add_zero]
        refine ⟨?_, rfl⟩
        have := ih1.upw (z := P.1 m) hm' s9
        have e : ru Q.1 (m * (1 + 3 * S.1.1)) (P.1 m) = Q.1 := by
          funext k
          by_cases e : k = m * (1 + 3 * S.1.1)
          · rw [e, ru_s, hw]
          · rw [ru_n e]
        rw [e] at this
        exact this
      · rw [if_neg z, if_neg (fun c => z c.2)]
        exact ⟨ih1.upw hm' s9, rfl⟩
end Spr
