/-! days by what is asked of them; copies -/
theorem bit_01 (x : Int32) : x &&& nI 1 = nI 0 ∨ x &&& nI 1 = nI 1 := by
  have h : (x &&& nI 1).toBitVec = (BitVec.ofBool (x.toBitVec.getLsbD 0)).setWidth 32 := by
    rw [Int32.toBitVec_and]
    exact BitVec.and_one_eq_setWidth_ofBool_getLsbD
  cases hb : x.toBitVec.getLsbD 0
  · left
    rw [hb] at h
    exact Int32.toBitVec_inj.mp h
  · right
    rw [hb] at h
    exact Int32.toBitVec_inj.mp h
theorem pl_n {x : Int32} {v : Nat} : (!decide (x >>> (nI v &&& 31) &&& nI 1 = nI 1)) = plS x v := by
  unfold plS
  rcases bit_01 (x >>> (nI v &&& 31)) with e | e
  · rw [e]; decide
  · rw [e]; decide
/-- days as kept: row r, who is pleased and contrary, grades; nothing more asked -/
def NQ (J : Iv) (y : Nat) (S : Tn) (n : Nat) (r : Nat → Int32) (pl co : Int32) (gr : Nat → Int32) : Prop := DR J y S n r ∧ J y 10 = pl ∧ J y 11 = co ∧ (∀ v, v < 9 → J (y + 6) v = gr v ∧ ∃ g, g ≤ 3 ∧ gr v = nI g) ∧ J y 14 = -1 ∧ J y 17 = nI 0
section NQs
variable {I J K : Iv} {y z n : Nat} {S : Tn} {r : Nat → Int32} {pl co : Int32} {gr : Nat → Int32}
theorem pcl_lt {v j : Nat} (m : Nat) (hv : v < 9) (hj : j < 4) : pcl m v + j < 180 := by
  unfold pcl
  omega
theorem DR.cg (hS : S.1.1 ≤ 9) (h : DR J z S n r) (h1 : ∀ k, k = 7 ∨ k = 8 ∨ k = 9 ∨ k = 12 ∨ k = 13 → K y k = J z k) (h2 : ∀ k, k < 252 → K (y + 1) k = J (z + 1) k) (h3 : ∀ k, k < 180 → K (y + 2) k = J (z + 2) k) (h4 : ∀ k, k < 9 → K (y + 3) k = J (z + 3) k) (h5 : ∀ k, k < 27 → K (y + 4) k = J (z + 4) k) (h6 : ∀ k, k < 27 → K (y + 5) k = J (z + 5) k) (h7 : ∀ k, k < 4 → K (y + 7) k = J (z + 7) k) : DR K y S n r := by
  obtain ⟨⟨a1, a2, a3⟩, b, c, d, e, f, g, i, k, l, m, o⟩ := h
  refine ⟨⟨by rw [h1 7 (by omega)]; exact a1, by rw [h1 8 (by omega)]; exact a2, a3⟩, by rw [h1 9 (by omega)]; exact b, c, d.cg hS h2, e, fun v hv hl q j hq hj => ?_, fun v hv => by rw [h4 v (by omega)]; exact g v hv, fun x hx => ⟨by rw [h5 x hx]; exact (i x hx).1, by rw [h6 x hx]; exact (i x hx).2⟩, by rw [h1 12 (by omega)]; exact k, by rw [h1 13 (by omega)]; exact l, fun x hx => by rw [h7 x hx]; exact m x hx, o⟩
  rw [h3 _ (pcl_lt _ (by omega) hj)]
  exact f v hv hl q j hq hj
theorem NQ.cg (hS : S.1.1 ≤ 9) (h : NQ J z S n r pl co gr) (h1 : ∀ k, 7 ≤ k → k < 18 → k ≠ 16 → K y k = J z k) (h2 : ∀ k, k < 252 → K (y + 1) k = J (z + 1) k) (h3 : ∀ k, k < 180 → K (y + 2) k = J (z + 2) k) (h4 : ∀ k, k < 9 → K (y + 3) k = J (z + 3) k) (h5 : ∀ k, k < 27 → K (y + 4) k = J (z + 4) k) (h6 : ∀ k, k < 27 → K (y + 5) k = J (z + 5) k) (h8 : ∀ k, k < 9 → K (y + 6) k = J (z + 6) k) (h7 : ∀ k, k < 4 → K (y + 7) k = J (z + 7) k) : NQ K y S n r pl co gr := by
  obtain ⟨a, b, c, d, e, f⟩ := h
  exact ⟨a.cg hS (fun k hk => h1 k (by omega) (by omega) (by omega)) h2 h3 h4 h5 h6 h7, by rw [h1 10 (by omega) (by omega) (by omega)]; exact b, by rw [h1 11 (by omega) (by omega) (by omega)]; exact c, fun v hv => ⟨by rw [h8 v hv]; exact (d v hv).1, (d v hv).2⟩, by rw [h1 14 (by omega) (by omega) (by omega)]; exact e, by rw [h1 17 (by omega) (by omega) (by omega)]; exact f⟩
theorem NQ.cp (hS : S.1.1 ≤ 9) (h : NQ J z S n r pl co gr) (hc : CpD J K y z) : NQ K y S n r pl co gr := by
  obtain ⟨-, c1, c2, c3, c4, c5, c6, c7, c8⟩ := hc
  exact h.cg hS (fun k a b _ => c1 k a b) c2 c3 c4 c5 c6 c7 c8
theorem NQ.mv (hS : S.1.1 ≤ 9) (h : NQ J y S n r pl co gr) (hk : ∀ i, y ≤ i → i < y + 8 → K i = J i) : NQ K y S n r pl co gr := by
  have e : ∀ j, j < 8 → K (y + j) = J (y + j) := fun j hj => hk _ (by omega) (by omega)
  have e0 : K y = J y := hk y (by omega) (by omega)
  exact h.cg hS (fun k _ _ _ => by rw [e0]) (fun k _ => by rw [e 1 (by omega)]) (fun k _ => by rw [e 2 (by omega)]) (fun k _ => by rw [e 3 (by omega)]) (fun k _ => by rw [e 4 (by omega)]) (fun k _ => by rw [e 5 (by omega)]) (fun k _ => by rw [e 6 (by omega)]) (fun k _ => by rw [e 7 (by omega)])
theorem DR.row {r' : Nat → Int32} (h : DR J y S n r) (hr : ∀ k, k < 502 → r' k = r k) : DR J y S n r' := by
  obtain ⟨a, b, c, d, e, f, g, i, k, l, m, o1, o2, o3⟩ := h
  have h9 := a.2.2
  refine ⟨a, b, by rw [hr _ (by omega)]; exact c, ⟨fun v hv => by rw [hr _ (by omega)]; exact d.1 v hv, fun v x w hv hx hw => by rw [hr _ (by omega)]; exact d.2 v x w hv hx hw⟩, ⟨fun v h1 h2 => by rw [hr _ (by omega)]; exact e.1 v h1 h2, fun v x w hv hx hw hz => by rw [hr _ (by omega)]; exact e.2 v x w hv hx hw hz⟩, fun v hv hl q j hq hj => by rw [hr _ (by omega)]; exact f v hv hl q j hq hj, fun v hv => by rw [hr _ (by omega)]; exact g v hv, fun x hx => ⟨by rw [hr _ (by omega)]; exact (i x hx).1, by rw [hr _ (by omega)]; exact (i x hx).2⟩, by rw [hr _ (by omega)]; exact k, by rw [hr _ (by omega)]; exact l, fun x hx => by rw [hr _ (by omega)]; exact m x hx, o1.eq (fun v hv => hr _ (by omega)), fun x w hx hw => (o2 x w hx hw).eq (fun v hv => hr _ (by omega)), ?_⟩
  obtain ⟨q, h1, h2⟩ := o3
  exact ⟨q, h1, by rw [hr _ (by omega)]; exact h2⟩
theorem NQ.sn {v h : Nat} (hS : TnV S) (hq : NQ J y S n r pl co gr) (hv : v < S.1.1) (hh : h < 3) : snX S (J (y + 6)) (J y 14, J y 15) v h = nI (vz S v (5 + h)) + gr v := by
  have s9 := hS.1
  unfold snX
  rw [(hq.2.2.2.1 v (by omega)).1, hq.2.2.2.2.1]
  have : ¬ (-1 : Int32) = nI (v * 3 + h) := by
    have : ∀ k, k < 27 → ¬ (-1 : Int32) = nI k := by decide
    exact this _ (by omega)
  rw [if_neg this, nI_zero, Int32.add_zero]
theorem vz_99 {v h : Nat} (hS : TnV S) (hv : v < S.1.1) (hh : h < 3) : vz S v (5 + h) ≤ 99 := by
  unfold vz
  rw [if_pos hv]
  obtain ⟨-, -, -, -, a, b, c⟩ := hS.2.2.2.2.2.2.2 v hv
  rcases (show h = 0 ∨ h = 1 ∨ h = 2 by omega) with rfl | rfl | rfl
  · exact a
  · exact b
  · exact c
theorem NQ.v (hS : TnV S) (hq : NQ J y S n r pl co gr) : PmV J y S := by
  have s9 := hS.1
  refine ⟨fun v h hv hh => ?_, by rw [hq.2.2.2.2.2]; decide⟩
  obtain ⟨g, hg, e⟩ := (hq.2.2.2.1 v (by omega)).2
  have := vz_99 hS hv hh
  rw [hq.sn hS hv hh, e, nI_add]
  exact nI_nn (by omega)
theorem sn_mt {v h : Nat} (hM : MT I S) (hv : v < S.1.1) (hh : h < 3) : nI (vz S v (5 + h)) = sn0 I v h := by
  unfold vz sn0
  rw [if_pos hv, hM.2.2.2 v hv (5 + h) (by omega)]
theorem NQ.pe (hS : TnV S) (hq : NQ J y S n r pl co gr) (hM : MT I S) (hg : ∀ v, v < 9 → gr v = I 500123 v) : Pe S.1.1 (PmD J y S) (plS pl, coS co, snG I, nI 0) := by
  have s9 := hS.1
  refine ⟨fun v hv => ⟨?_, ?_, fun h hh => ?_⟩, hq.2.2.2.2.2⟩
  · show (!plX J y v) = plS pl v
    unfold plX
    rw [hq.2.1]
    exact pl_n
  · show coX J y v = coS co v
    unfold coX coS
    rw [hq.2.2.1]
  · show snX S (J (y + 6)) (J y 14, J y 15) v h = snG I v h
    rw [hq.sn hS hv hh, sn_mt hM hv hh, hg v (by omega)]
    rfl
theorem NQ.s (hS : TnV S) (hq : NQ J y S n r pl co gr) : DyS S (PmD J y S) y n (r, J y 16) J := ⟨hq.1, rfl, rfl, hq.v hS⟩
/-- who is pleased, asked otherwise -/
theorem NQ.upl {x : Int32} (hS : S.1.1 ≤ 9) (h : NQ J y S n r pl co gr) : NQ (up J y 10 x) y S n r x co gr := by
  obtain ⟨a, b, c, d, e, f⟩ := h
  have n1 : ∀ k, k ≠ 10 → up J y 10 x y k = J y k := fun k hk => up_n (by omega)
  have n2 : ∀ j k, 1 ≤ j → up J y 10 x (y + j) k = J (y + j) k := fun j k hj => up_n (by omega)
  exact ⟨a.cg hS (fun k hk => n1 k (by omega)) (fun k _ => n2 1 k (by omega)) (fun k _ => n2 2 k (by omega)) (fun k _ => n2 3 k (by omega)) (fun k _ => n2 4 k (by omega)) (fun k _ => n2 5 k (by omega)) (fun k _ => n2 7 k (by omega)), up_s, by rw [n1 11 (by decide)]; exact c, fun v hv => by rw [n2 6 v (by omega)]; exact d v hv, by rw [n1 14 (by decide)]; exact e, by rw [n1 17 (by decide)]; exact f⟩
theorem NQ.uco {x : Int32} (hS : S.1.1 ≤ 9) (h : NQ J y S n r pl co gr) : NQ (up J y 11 x) y S n r pl x gr := by
  obtain ⟨a, b, c, d, e, f⟩ := h
  have n1 : ∀ k, k ≠ 11 → up J y 11 x y k = J y k := fun k hk => up_n (by omega)
  have n2 : ∀ j k, 1 ≤ j → up J y 11 x (y + j) k = J (y + j) k := fun j k hj => up_n (by omega)
  exact ⟨a.cg hS (fun k hk => n1 k (by omega)) (fun k _ => n2 1 k (by omega)) (fun k _ => n2 2 k (by omega)) (fun k _ => n2 3 k (by omega)) (fun k _ => n2 4 k (by omega)) (fun k _ => n2 5 k (by omega)) (fun k _ => n2 7 k (by omega)), by rw [n1 10 (by decide)]; exact b, up_s, fun v hv => by rw [n2 6 v (by omega)]; exact d v hv, by rw [n1 14 (by decide)]; exact e, by rw [n1 17 (by decide)]; exact f⟩
theorem NQ.ugr {v g : Nat} (hS : S.1.1 ≤ 9) (hg : g ≤ 3) (h : NQ J y S n r pl co gr) : NQ (up J (y + 6) v (nI g)) y S n r pl co (ru gr v (nI g)) := by
  obtain ⟨a, b, c, d, e, f⟩ := h
  have n1 : ∀ k, up J (y + 6) v (nI g) y k = J y k := fun k => up_n (by omega)
  have n2 : ∀ j k, j ≠ 6 → up J (y + 6) v (nI g) (y + j) k = J (y + j) k := fun j k hj => up_n (by omega)
  refine ⟨a.cg hS (fun k hk => n1 k) (fun k _ => n2 1 k (by omega)) (fun k _ => n2 2 k (by omega)) (fun k _ => n2 3 k (by omega)) (fun k _ => n2 4 k (by omega)) (fun k _ => n2 5 k (by omega)) (fun k _ => n2 7 k (by omega)), by rw [n1 10]; exact b, by rw [n1 11]; exact c, fun u hu => ?_, by rw [n1 14]; exact e, by rw [n1 17]; exact f⟩
  by_cases q : u = v
  · subst q
    rw [up_s, ru_s]
    exact ⟨rfl, g, hg, rfl⟩
  · rw [up_n (by omega), ru_n q]
    exact d u hu
theorem DR.pos {k : Nat} (h : DR J y S n r) : DR (up J y k (J y k)) y S n r := by
  have e : up J y k (J y k) = J := by
    funext i j
    by_cases c : i = y ∧ j = k
    · rw [c.1, c.2, up_s]
    · exact up_n c
  rw [e]; exact h
end NQs
