/-! the model's opinions: what is read is well -/
section XMo
variable {cf kn : Nat → Int32}
theorem wst_p : ∀ (m1 m2 k n : Nat) (s : Nat → Int32), wst cf kn k (m1 + m2) s n = wst cf kn (k + m1) m2 (wst cf kn k m1 s n) (wdp cf k m1 n)
  | 0, m2, k, n, s => by rw [Nat.zero_add]; rfl
  | m1 + 1, m2, k, n, s => by
    rw [show m1 + 1 + m2 = m1 + m2 + 1 by omega]
    show wst cf kn (k + 1) (m1 + m2) _ _ = _
    rw [wst_p m1 m2 (k + 1) _ _, show k + 1 + m1 = k + (m1 + 1) by omega]
    rfl
theorem wdp_p : ∀ (m1 m2 k n : Nat), wdp cf k (m1 + m2) n = wdp cf (k + m1) m2 (wdp cf k m1 n)
  | 0, m2, k, n => by rw [Nat.zero_add]; rfl
  | m1 + 1, m2, k, n => by
    rw [show m1 + 1 + m2 = m1 + m2 + 1 by omega]
    show wdp cf (k + 1) (m1 + m2) _ = _
    rw [wdp_p m1 m2 (k + 1) _, show k + 1 + m1 = k + (m1 + 1) by omega]
    rfl
theorem wfW_p : ∀ (m1 m2 k n : Nat), wfW cf k m1 n → wfW cf (k + m1) m2 (wdp cf k m1 n) → wfW cf k (m1 + m2) n
  | 0, m2, k, n, _, h => by rw [Nat.zero_add]; exact h
  | m1 + 1, m2, k, n, h1, h2 => by
    rw [show m1 + 1 + m2 = m1 + m2 + 1 by omega]
    refine ⟨h1.1, h1.2.1, wfW_p m1 m2 (k + 1) _ h1.2.2 ?_⟩
    rw [show k + 1 + m1 = k + (m1 + 1) by omega]
    exact h2
/-- the code M in the model's row leaves u -/
def MdS (kn : Nat → Int32) (M : List Cd) (D : Nat) (u : Int32) : Prop := ∀ (cf : Nat → Int32) (k : Nat), (∀ j c, M[j]? = some c → cf (2 * (k + j)) = nI c.1 ∧ cf (2 * (k + j) + 1) = nI c.2) → ∀ n, n + D ≤ 160 → wfW cf k M.length n ∧ wdp cf k M.length n = n + 1 ∧ ∀ s, wst cf kn k M.length s n n = u ∧ ∀ j, j < n → wst cf kn k M.length s n j = s j
theorem mds_op {k w n : Nat} (hw : 2 ≤ w) (h9 : ¬ w = 9) (h11 : w ≤ 11) (hc : cf (2 * k) = nI w) (hn : n + 2 ≤ 160) : wfW cf k 1 (n + 2) ∧ wdp cf k 1 (n + 2) = n + 1 ∧ ∀ s, wst cf kn k 1 s (n + 2) n = byF (nI w) (s n) (s (n + 1)) ∧ ∀ j, j < n → wst cf kn k 1 s (n + 2) j = s j := by
  have c2 : ¬ nI w < nI 2 := nI_nlt (by omega) (by omega)
  have c9 : ¬ nI w = nI 9 := by rw [nIe (by omega) (by omega)]; exact h9
  have hd : dn (nI w) (n + 2) = n + 1 := by unfold dn; rw [if_neg c2, if_neg c9]; omega
  refine ⟨⟨?_, hn, trivial⟩, ?_, fun s => ?_⟩
  · rw [hc, if_neg c2, if_neg c9]; omega
  · show dn (cf (2 * k)) (n + 2) = n + 1
    rw [hc, hd]
  · have e : wst cf kn k 1 s (n + 2) = ru s n (byF (nI w) (s n) (s (n + 1))) := by
      show ws1 (cf (2 * k)) (cf (2 * k + 1)) kn s (n + 2) = _
      unfold ws1
      rw [hc, if_neg c2, if_neg c9]
      rfl
    rw [e]
    refine ⟨if_pos rfl, fun j hj => if_neg (by omega)⟩
theorem mds_app {A B : List Cd} {D w : Nat} {u x : Int32} (h2 : 2 ≤ w) (h9 : ¬ w = 9) (h11 : w ≤ 11) (hA : MdS kn A (D + 1) u) (hB : MdS kn B D x) (hD : 1 ≤ D) : MdS kn (A ++ (B ++ [(w, 0)])) (D + 1) (byF (nI w) u x) := by
  intro cf k hc n hn
  rw [List.length_append, List.length_append, List.length_singleton]
  have ha := hA cf k (fun j c hj => hc j c (by rw [List.getElem?_append_left (List.getElem?_eq_some_iff.mp hj).1]; exact hj)) n hn
  have hb := hB cf (k + A.length) (fun j c hj => by
    rw [Nat.add_assoc]
    refine hc _ _ ?_
    rw [List.getElem?_append_right (by omega), Nat.add_sub_cancel_left, List.getElem?_append_left (List.getElem?_eq_some_iff.mp hj).1]
    exact hj) (n + 1) (by omega)
  have he : cf (2 * (k + A.length + B.length)) = nI w := by
    rw [Nat.add_assoc]
    refine (hc _ (w, 0) ?_).1
    rw [List.getElem?_append_right (by omega), Nat.add_sub_cancel_left, List.getElem?_append_right (by omega), Nat.sub_self]
    rfl
  have ho := mds_op (cf := cf) (kn := kn) (n := n) h2 h9 h11 he (by omega)
  refine ⟨?_, ?_, fun s => ?_⟩
  · refine wfW_p _ _ _ _ ha.1 ?_
    rw [ha.2.1]
    refine wfW_p _ _ _ _ hb.1 ?_
    rw [hb.2.1]
    exact ho.1
  · rw [wdp_p, ha.2.1, wdp_p, hb.2.1]
    exact ho.2.1
  · rw [wst_p, ha.2.1, wst_p, hb.2.1]
    obtain ⟨o1, o2⟩ := ho.2.2 (wst cf kn (k + A.length) B.length (wst cf kn k A.length s n) (n + 1))
    obtain ⟨b1, b2⟩ := hb.2.2 (wst cf kn k A.length s n)
    obtain ⟨a1, a2⟩ := ha.2.2 s
    refine ⟨?_, fun j hj => ?_⟩
    · rw [o1, b1, b2 n (by omega), a1]
    · rw [o2 j hj, b2 j (by omega), a2 j hj]
theorem NV.md {M : List Cd} {D : Nat} {u : Int32} (h : NV kn M D u) : 1 ≤ D ∧ MdS kn M D u := by
  refine h (fun M D u => 1 ≤ D ∧ MdS kn M D u) ?_ ?_ ?_
  · intro v D hv
    refine ⟨by omega, fun cf k hc n hn => ?_⟩
    obtain ⟨e0, e1⟩ := hc 0 _ rfl
    have e0' : cf (2 * k) = nI 0 := e0
    have e1' : cf (2 * k + 1) = nI v := e1
    have c2 : nI 0 < nI 2 := by decide
    refine ⟨⟨?_, by omega, trivial⟩, ?_, fun s => ?_⟩
    · rw [e0', if_pos c2]; exact ⟨by omega, Or.inl rfl⟩
    · show dn (cf (2 * k)) n = n + 1
      rw [e0']; rfl
    · have e : wst cf kn k 1 s n = ru s n (nI v) := by
        show ws1 (cf (2 * k)) (cf (2 * k + 1)) kn s n = _
        unfold ws1
        rw [e0', e1', if_pos c2, if_pos rfl]
      show wst cf kn k 1 s n n = _ ∧ ∀ j, j < n → wst cf kn k 1 s n j = s j
      rw [e]
      exact ⟨if_pos rfl, fun j hj => if_neg (by omega)⟩
  · intro v D hv
    refine ⟨by omega, fun cf k hc n hn => ?_⟩
    obtain ⟨e0, e1⟩ := hc 0 _ rfl
    have e0' : cf (2 * k) = nI 1 := e0
    have e1' : cf (2 * k + 1) = nI v := e1
    have c2 : nI 1 < nI 2 := by decide
    refine ⟨⟨?_, by omega, trivial⟩, ?_, fun s => ?_⟩
    · rw [e0', e1', if_pos c2]; exact ⟨by omega, Or.inr ⟨v, hv, rfl⟩⟩
    · show dn (cf (2 * k)) n = n + 1
      rw [e0']; rfl
    · have e : wst cf kn k 1 s n = ru s n (kn v) := by
        show ws1 (cf (2 * k)) (cf (2 * k + 1)) kn s n = _
        unfold ws1
        rw [e0', e1', if_pos c2, if_neg (by decide), nI_clamp (by omega)]
      show wst cf kn k 1 s n n = _ ∧ ∀ j, j < n → wst cf kn k 1 s n j = s j
      rw [e]
      exact ⟨if_pos rfl, fun j hj => if_neg (by omega)⟩
  · intro k A B D u w h2 h5 ha hb
    exact ⟨by omega, mds_app h2 (by omega) (by omega) ha.2 hb.2 hb.1⟩
theorem BV.md {M : List Cd} {D : Nat} {u : Int32} (h : BV kn M D u) : 1 ≤ D ∧ MdS kn M D u := by
  refine h (fun M D u => 1 ≤ D ∧ MdS kn M D u) ?_ ?_ ?_
  · intro k A B D u w h2 h5 ha hb
    exact ⟨by omega, mds_app (by omega) (by omega) (by omega) ha.md.2 hb.md.2 hb.md.1⟩
  · intro A D u ha
    refine ⟨ha.1, fun cf k hc n hn => ?_⟩
    rw [List.length_append, List.length_singleton]
    have h1 := ha.2 cf k (fun j c hj => hc j c (by rw [List.getElem?_append_left (List.getElem?_eq_some_iff.mp hj).1]; exact hj)) n hn
    have he : cf (2 * (k + A.length)) = nI 9 := by
      refine (hc _ (9, 0) ?_).1
      rw [List.getElem?_append_right (by omega), Nat.sub_self]
      rfl
    have hD := ha.1
    refine ⟨wfW_p _ _ _ _ h1.1 ?_, ?_, fun s => ?_⟩
    · rw [h1.2.1]
      refine ⟨?_, by omega, trivial⟩
      rw [he, if_neg (by decide), if_pos rfl]
      omega
    · rw [wdp_p, h1.2.1]
      show dn (cf (2 * (k + A.length))) (n + 1) = n + 1
      rw [he]; rfl
    · rw [wst_p, h1.2.1]
      obtain ⟨a1, a2⟩ := h1.2.2 s
      generalize wst cf kn k A.length s n = s1 at a1 a2 ⊢
      have e : wst cf kn (k + A.length) 1 s1 (n + 1) = ru s1 n (nI 1 - s1 n) := by
        show ws1 (cf (2 * (k + A.length))) (cf (2 * (k + A.length) + 1)) kn s1 (n + 1) = _
        unfold ws1
        rw [he, if_neg (by decide), if_pos rfl]
        rfl
      rw [e]
      refine ⟨by rw [← a1]; exact if_pos rfl, fun j hj => ?_⟩
      rw [← a2 j hj]
      exact if_neg (by omega)
  · intro k A B D u w h2 h5 ha hb
    exact ⟨by omega, mds_app (by omega) (by omega) (by omega) ha.2 hb.2 hb.1⟩
end XMo
