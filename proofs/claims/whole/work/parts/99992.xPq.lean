/-! what a part puts is one -/
section Unq
variable {kn : Nat → Int32}
def cdR (M : List Cd) : Nat → Int32 := fun i => if i % 2 = 0 then nI (M.getD (i / 2) (0, 0)).1 else nI (M.getD (i / 2) (0, 0)).2
theorem cdR_at {M : List Cd} : ∀ j c, M[j]? = some c → cdR M (2 * (0 + j)) = nI c.1 ∧ cdR M (2 * (0 + j) + 1) = nI c.2 := by
  intro j c h
  have e : M.getD j (0, 0) = c := by rw [List.getD_eq_getElem?_getD, h]; rfl
  unfold cdR
  rw [if_pos (by omega), if_neg (by omega), show 2 * (0 + j) / 2 = j by omega, show (2 * (0 + j) + 1) / 2 = j by omega, e]
  exact ⟨rfl, rfl⟩
theorem MdS.un {M : List Cd} {D : Nat} {u w : Int32} (h : MdS kn M D u) (h2 : MdS kn M D w) (hD : D ≤ 160) : u = w := by
  have a := ((h (cdR M) 0 cdR_at 0 (by omega)).2.2 (fun _ => nI 0)).1
  have b := ((h2 (cdR M) 0 cdR_at 0 (by omega)).2.2 (fun _ => nI 0)).1
  exact a.symm.trans b
theorem PvR.un {fr : Bool} {p : Pt} {x z : Int32} (h : PvR kn fr p x) (h2 : PvR kn fr p z) : x = z := by
  obtain ⟨u, hu, hx⟩ := h
  obtain ⟨w, hw, hz⟩ := h2
  have e := MdS.un hu.md.2 hw.md.2 (by decide)
  subst e
  rcases hx with ⟨a, hx⟩ | ⟨c, a, hc, hx⟩ <;> rcases hz with ⟨b, hz⟩ | ⟨c', b, hc', hz⟩
  · rw [hx, hz]
  · exact absurd a b
  · exact absurd b a
  · have e := MdS.un hc.md.2 hc'.md.2 (by decide)
    subst e
    rw [hx, hz]
/-- what the part p puts -/
noncomputable def pkV (fr : Bool) (kn : Nat → Int32) (p : Pt) : Int32 := Classical.epsilon (fun z => PvR kn fr p z)
theorem pkV_R {fr : Bool} {p : Pt} {z : Int32} (h : PvR kn fr p z) : pkV fr kn p = z := by
  exact PvR.un (Classical.epsilon_spec (p := fun z => PvR kn fr p z) ⟨z, h⟩) h
end Unq
