/-! what lies beyond an array's end doesn't matter -/
theorem arrV_ext {c : ClassId} {n : Nat} {f g : Nat → Value} (h : ∀ j, j < n → f j = g j) : arrV c n f = arrV c n g := by
  unfold arrV
  congr 2
  funext j
  exact h j.val j.isLt
def Eqv (sh : Sh) (E : Ev) (I J : Iv) : Prop := ∀ i j, (tyc sh E i < 100 ∨ j < len sh E i) → J i j = I i j
theorem Wd.eqv {Γ : Gm} {sh : Sh} {I J : Iv} {E : Ev} {H : Heap} (h : Wd Γ sh I E H) (he : Eqv sh E I J) : Wd Γ sh J E H := by
  obtain ⟨h1, h2, h3, h4⟩ := h
  refine ⟨h1, h2, h3, fun i hi => ?_⟩
  obtain ⟨h5, h6⟩ := h4 i hi
  refine ⟨h5, ?_⟩
  unfold ck at h6 ⊢
  by_cases ht : tyc sh E i < 100
  · rw [if_pos ht] at h6 ⊢
    obtain ⟨r, q1, q2⟩ := h6
    refine ⟨r, q1, q2.to (fun k _ => ?_)⟩
    unfold vl
    rw [he i k (Or.inl ht)]
  · rw [if_neg ht] at h6 ⊢
    refine ⟨h6.1, h6.2.trans ?_⟩
    refine congrArg some (arrV_ext fun j hj => ?_)
    unfold vl
    rw [he i j (Or.inr hj)]
theorem ex_eqv {Γ : Gm} {l : Launch} {sh : Sh} {d : Nat} {M : Uv} {mt : Mt} {av : List Value} {I : Iv} {E : Ev} {kr : Kr} {kx : Kxx} (h : Ex Γ l sh d M mt av I E (fun r J E' => ∃ J', Eqv sh E' J J' ∧ kr r J' E') kx) : Ex Γ l sh d M mt av I E kr kx := by
  intro p e h1 h2 h3 s m args below h4 h5 h6 h7
  obtain ⟨k, o, a1, a2, a3, a4⟩ := h p e h1 h2 h3 s m args below h4 h5 h6 h7
  refine ⟨k, o, a1, a2, a3, ?_⟩
  rcases a4 with ⟨⟨r, I', E', q1, q2, J', q3, q4⟩, q5⟩ | q
  · exact Or.inl ⟨⟨r, J', E', q1, q2.eqv q3, q4⟩, q5⟩
  · exact Or.inr q
