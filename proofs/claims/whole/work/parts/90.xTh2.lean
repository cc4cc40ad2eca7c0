/-! contracts of the class, 21: what opinions put -/
def Agr (o top : Nat) (K K' : Iv) : Prop := (∀ i, i ≠ o + 2 → K' i = K i) ∧ ∀ j, j < top → K' (o + 2) j = K (o + 2) j
theorem Agr.tr {o top top' : Nat} {I J K : Iv} (h : Agr o top I J) (h2 : Agr o top' J K) (ht : top ≤ top') : Agr o top I K := ⟨fun i a => (h2.1 i a).trans (h.1 i a), fun j a => (h2.2 j (by omega)).trans (h.2 j a)⟩
theorem Agr.up {o top j : Nat} {x : Int32} {K : Iv} (h : top ≤ j) : Agr o top K (up K (o + 2) j x) := ⟨fun i a => by funext y; exact up_n (by omega), fun y a => up_n (by omega)⟩
theorem TN_1 {M : List Cd} {D : Nat} {kn : Nat → Int32} {u : Int32} (h : NV kn M D u) : 1 ≤ D := h (fun _ D _ => 1 ≤ D) (fun _ _ _ => by omega) (fun _ _ _ => by omega) (fun _ _ _ _ _ _ _ _ _ _ => by omega)
theorem TB_1 {M : List Cd} {D : Nat} {kn : Nat → Int32} {u : Int32} (h : BV kn M D u) : 1 ≤ D := h (fun _ D _ => 1 ≤ D) (fun _ _ _ _ _ _ _ _ _ _ => by omega) (fun _ _ _ q => q) (fun _ _ _ _ _ _ _ _ _ _ => by omega)
section XTh2
variable {Γ : Gm} {l : Launch} {b : Bool} {d : Nat} {J : Iv} {E : Ev} {kr : Kr} {kx : Kxx} {n a o op : Nat}
/-- the code M at i, from a stack of top, leaves u on it -/
def ThS (go : Go) (E : Ev) (o sg cu len : Nat) (fv : Int32) (kn : Nat → Int32) (M : List Cd) (D : Nat) (u : Int32) : Prop := ∀ (K : Iv) (i top : Nat) (y : Option Value), K o 2 = nI len → (∀ k, k < 7 → K sg (lkX k) = kn k) → (∀ j c, M[j]? = some c → K (o + 1) (i + j) = nI (enc c)) → i + M.length ≤ len → top + D < 64 → (∀ K' y', Agr o top K K' → K' (o + 2) top = u → go 13 [some (.ref o), some (.ref sg), some (.int fv), some (.ref cu), some (.int (nI (top + 1))), some (.int (nI (i + M.length))), y'] [] K' E (0, 0)) → go 13 [some (.ref o), some (.ref sg), some (.int fv), some (.ref cu), some (.int (nI top)), some (.int (nI i)), y] [] K E (0, 0)
theorem ths_app {go : Go} {sg cu len : Nat} {fv : Int32} {kn : Nat → Int32} {A B : List Cd} {D : Nat} {u w x : Int32} {c : Cd} (hs : sg ≠ o + 2) (hA : ThS go E o sg cu len fv kn A (D + 1) u) (hB : ThS go E o sg cu len fv kn B D w)
    (hop : ∀ (K : Iv) (i top : Nat) (y : Option Value), K o 2 = nI len → K (o + 1) i = nI (enc c) → i + 1 ≤ len → top + 2 < 64 → K (o + 2) top = u → K (o + 2) (top + 1) = w → (∀ K' y', Agr o top K K' → K' (o + 2) top = x → go 13 [some (.ref o), some (.ref sg), some (.int fv), some (.ref cu), some (.int (nI (top + 1))), some (.int (nI (i + 1))), y'] [] K' E (0, 0)) → go 13 [some (.ref o), some (.ref sg), some (.int fv), some (.ref cu), some (.int (nI (top + 2))), some (.int (nI i)), y] [] K E (0, 0)) (hD : 1 ≤ D) : ThS go E o sg cu len fv kn (A ++ (B ++ [c])) (D + 1) x := by
  intro K i top y h2 hkn hc hl ht hk
  rw [List.length_append, List.length_append, List.length_singleton] at hl
  refine hA K i top y h2 hkn (fun j c' hj => hc j c' ?_) (by omega) ht (fun K1 y1 a1 e1 => ?_)
  · rw [List.getElem?_append_left (List.getElem?_eq_some_iff.mp hj).1]; exact hj
  refine hB K1 (i + A.length) (top + 1) y1 (by rw [a1.1 o (by omega)]; exact h2) (fun k hk => by rw [a1.1 sg hs]; exact hkn k hk) (fun j c' hj => ?_) (by omega) (by omega) (fun K2 y2 a2 e2 => ?_)
  · rw [a1.1 (o + 1) (by omega), Nat.add_assoc]
    refine hc _ _ ?_
    rw [List.getElem?_append_right (by omega), Nat.add_sub_cancel_left, List.getElem?_append_left (List.getElem?_eq_some_iff.mp hj).1]
    exact hj
  refine hop K2 (i + A.length + B.length) top y2 (by rw [a2.1 o (by omega), a1.1 o (by omega)]; exact h2) ?_ (by omega) (by omega) (by rw [a2.2 top (by omega)]; exact e1) e2 (fun K3 y3 a3 e3 => ?_)
  · rw [a2.1 (o + 1) (by omega), a1.1 (o + 1) (by omega), Nat.add_assoc]
    refine hc _ _ ?_
    rw [List.getElem?_append_right (by omega), Nat.add_sub_cancel_left, List.getElem?_append_right (by omega), Nat.sub_self]
    rfl
  · have := hk K3 y3 ((a1.tr a2 (by omega)).tr a3 (by omega)) e3
    rw [List.length_append, List.length_append, List.length_singleton] at this
    rw [show i + A.length + B.length + 1 = i + (A.length + (B.length + 1)) by omega]
    exact this
theorem up_id {I : Iv} {i j : Nat} : up I i j (I i j) = I := by
  funext a c
  by_cases h : a = i ∧ c = j
  · obtain ⟨rfl, rfl⟩ := h
    exact up_s
  · exact up_n h
def PtV (ps : List Pt) : Prop := ∀ p ∈ ps, p.1 < 3 ∧ TN p.2.1 15 ∧ (p.2.2 = [] ∨ TB p.2.2 18)
/-- the part p puts x by what is known -/
def PvR (kn : Nat → Int32) (fr : Bool) (p : Pt) (x : Int32) : Prop := ∃ u, NV kn p.2.1 15 u ∧ ((p.2.2 = [] ∧ x = duF fr u) ∨ ∃ c, ¬ p.2.2 = [] ∧ BV kn p.2.2 18 c ∧ x = if c = nI 0 then nI 0 else duF fr u)
/-- cups of each herb -/
def cuA (pv : Pt → Int32) : List Pt → (Nat → Int32) → (Nat → Int32)
  | [], r => r
  | p :: ps, r => cuA pv ps (ru r p.1 (r p.1 + pv p))
theorem cuA_a (pv : Pt → Int32) : ∀ (ps : List Pt) (p : Pt) (r : Nat → Int32), cuA pv (ps ++ [p]) r = ru (cuA pv ps r) p.1 (cuA pv ps r p.1 + pv p)
  | [], _, _ => rfl
  | q :: ps, p, r => cuA_a pv ps p _
theorem stA_app : ∀ ps qs, stA (ps ++ qs) = stA ps ++ stA qs
  | [], _ => rfl
  | p :: ps, qs => by
    show stP p ++ stA (ps ++ qs) = _
    rw [stA_app ps qs, ← List.append_assoc]
    rfl
theorem x_think {sg cu : Nat} {fr : Bool} {ps : List Pt} {kn : Nat → Int32} {pv : Pt → Int32} (hA : OpA (shB b) E o) (hsg : tyc (shB b) E sg = 101) (hlg : len (shB b) E sg = 7) (hcu : tyc (shB b) E cu = 101) (hlc : len (shB b) E cu = 3) (hs2 : sg ≠ o + 2) (hc2 : cu ≠ o ∧ cu ≠ o + 1 ∧ cu ≠ o + 2 ∧ cu ≠ sg) (hX : XOq J o ps) (hkn : ∀ k, k < 7 → J sg (lkX k) = kn k) (hv : ∀ p ∈ ps, p.1 < 3 ∧ PvR kn fr p (pv p)) (hl : (stA ps).length ≤ 160) (hk : ∀ K, (∀ i, i ≠ o + 2 → i ≠ cu → K i = J i) → (∀ h, h < 3 → K cu h = cuA pv ps (fun _ => nI 0) h) → kr none K E) : Ex Γ l (shB b) (d + 3) (0, 0) mOp_think [.ref o, .ref sg, .int (if fr then nI 1 else nI 0), .ref cu] J E kr kx := by
  refine ex_of (ls0 := [some (.ref o), some (.ref sg), some (.int (if fr then nI 1 else nI 0)), some (.ref cu), none, none, none]) tOp_think (by decide +kernel) kOp_think rfl (Nat.le_of_ble_eq_true rfl) rfl ?_
  intro go hgo
  have hA0 := hA
  obtain ⟨ht, r0, r1, t0, t1, l0, l1⟩ := hA
  obtain ⟨fv, hfv⟩ : ∃ fv, fv = (if fr then nI 1 else nI 0) := ⟨_, rfl⟩
  rw [← hfv]
  obtain ⟨N, hN⟩ : ∃ N, N = (stA ps).length := ⟨_, rfl⟩
  rw [← hN] at hl
  have num : ∀ v D, v ≤ 999 → ThS go E o sg cu N fv kn [(0, v)] (D + 1) (nI v) := by
    intro v D hv K i top y h2 hkn hc hl' ht' hk
    have hl1 : i + 1 ≤ N := hl'
    have e : K (o + 1) i = nI v := hc 0 _ rfl
    have c1 : (nI N ≤ nI i) = False := by rw [nIl (by omega) (by omega)]; exact eq_false (by omega)
    have c2 : (nI 64 ≤ nI top) = False := by rw [nIl (by omega) (by omega)]; exact eq_false (by omega)
    have c3 : (nI 1000 ≤ nI v) = False := by rw [nIl (by omega) (by omega)]; exact eq_false (by omega)
    have i1 : i < 160 := by omega
    have i2 : top < 64 := by omega
    refine hgo 20 [13] 13 _ _ _ _ _ ?_
    simp only [ixr_of, run_s, run_0, rOp_think, rok_i, rok_z, bx_cons, bx_nil, eBP, eC0, eC1, eC2, eC3, eCS3, eCS4, eCV4, eDEC4, eGI, eGO, eGR, eIALD, eIAST, jICge, jIClt, jICne, eINC4, eINC5, eLA0, eLA1, eLA3, eLI2, eLI4, eLI5, eLI6, eRV, eSI4, eSI5, eSI6, eSP, eSUB, fOp_think_0, fOp_think_13, fOp_think_22, fOp_think_29, fOp_think_46, fOp_think_61, fOp_think_69, fOp_think_90, fOp_think_98, fOp_think_114, fOp_think_122, fOp_think_128, fOp_think_151, fOp_think_157, fOp_think_190, fOp_think_196, bOp_think_0, bOp_think_13, bOp_think_22, bOp_think_29, bOp_think_46, bOp_think_61, bOp_think_69, bOp_think_90, bOp_think_98, bOp_think_114, bOp_think_122, bOp_think_128, bOp_think_151, bOp_think_157, bOp_think_190, bOp_think_196, Option.toList_some, Option.toList_none, List.cons_append, List.nil_append, List.length_cons, List.length_nil, List.mem_cons, List.not_mem_nil, or_false, false_or, or_true, true_or, ↓reduceIte, true_and, and_true, Nat.reduceEqDiff, Nat.reduceAdd, Nat.reduceLeDiff, Nat.reduceLT, dl_i, dl_r, dl_n, dl_u, eq_self, not_true_eq_false, not_false_eq_true, n10, n01, nm0, n0m, ht, r0, r1, t0, t1, l0, l1, h2, e, c1, c2, c3, i1, i2, nI_add, imp_t, imp_f]
    exact hk _ _ (Agr.up (Nat.le_refl _)) up_s
  have look : ∀ k D, k < 7 → ThS go E o sg cu N fv kn [(1, k)] (D + 1) (kn k) := by
    intro k D hv K i top y h2 hkn hc hl' ht' hk
    have hl1 : i + 1 ≤ N := hl'
    have hx7 : lkX k < 7 := by
      have : ∀ k, k < 7 → lkX k < 7 := by decide
      exact this k hv
    obtain ⟨x, hx⟩ : ∃ x, x = lkX k := ⟨_, rfl⟩
    have ek := hkn k hv
    rw [← hx] at hx7 ek
    have e : K (o + 1) i = nI (1000 + x) := by rw [hx]; exact hc 0 _ rfl
    have c1 : (nI N ≤ nI i) = False := by rw [nIl (by omega) (by omega)]; exact eq_false (by omega)
    have c2 : (nI 64 ≤ nI top) = False := by rw [nIl (by omega) (by omega)]; exact eq_false (by omega)
    have c3 : (nI 1000 ≤ nI (1000 + x)) = True := eq_true (nI_le (by omega) (by omega))
    have c4 : (nI 1007 ≤ nI (1000 + x)) = False := by rw [nIl (by omega) (by omega)]; exact eq_false (by omega)
    have e5 : nI (1000 + x) - nI 1000 = nI x := by rw [nI_sb (by omega), Nat.add_sub_cancel_left]
    have i1 : i < 160 := by omega
    have i2 : top < 64 := by omega
    refine hgo 20 [13] 13 _ _ _ _ _ ?_
    simp only [ixr_of, run_s, run_0, rOp_think, rok_i, rok_z, bx_cons, bx_nil, eBP, eC0, eC1, eC2, eC3, eCS3, eCS4, eCV4, eDEC4, eGI, eGO, eGR, eIALD, eIAST, jICge, jIClt, jICne, eINC4, eINC5, eLA0, eLA1, eLA3, eLI2, eLI4, eLI5, eLI6, eRV, eSI4, eSI5, eSI6, eSP, eSUB, fOp_think_0, fOp_think_13, fOp_think_22, fOp_think_29, fOp_think_46, fOp_think_61, fOp_think_69, fOp_think_90, fOp_think_98, fOp_think_114, fOp_think_122, fOp_think_128, fOp_think_151, fOp_think_157, fOp_think_190, fOp_think_196, bOp_think_0, bOp_think_13, bOp_think_22, bOp_think_29, bOp_think_46, bOp_think_61, bOp_think_69, bOp_think_90, bOp_think_98, bOp_think_114, bOp_think_122, bOp_think_128, bOp_think_151, bOp_think_157, bOp_think_190, bOp_think_196, Option.toList_some, Option.toList_none, List.cons_append, List.nil_append, List.length_cons, List.length_nil, List.mem_cons, List.not_mem_nil, or_false, false_or, or_true, true_or, ↓reduceIte, true_and, and_true, Nat.reduceEqDiff, Nat.reduceAdd, Nat.reduceLeDiff, Nat.reduceLT, dl_i, dl_r, dl_n, dl_u, eq_self, not_true_eq_false, not_false_eq_true, n10, n01, nm0, n0m, ht, r0, r1, t0, t1, l0, l1, h2, e, c1, c2, c3, c4, e5, hsg, hlg, hx7, ek, i1, i2, nI_add, imp_t, imp_f]
    exact hk _ _ (Agr.up (Nat.le_refl _)) up_s
  have bin : ∀ (k : Nat) (u w : Int32), (k = 2 ∨ k = 3 ∨ k = 4 ∨ k = 5 ∨ k = 6 ∨ k = 7 ∨ k = 8 ∨ k = 10 ∨ k = 11) → (10 ≤ k → (u = nI 0 ∨ u = nI 1) ∧ (w = nI 0 ∨ w = nI 1)) → ∀ (K : Iv) (i top : Nat) (y : Option Value), K o 2 = nI N → K (o + 1) i = nI (enc (k, 0)) → i + 1 ≤ N → top + 2 < 64 → K (o + 2) top = u → K (o + 2) (top + 1) = w → (∀ K' y', Agr o top K K' → K' (o + 2) top = byF (nI k) u w → go 13 [some (.ref o), some (.ref sg), some (.int fv), some (.ref cu), some (.int (nI (top + 1))), some (.int (nI (i + 1))), y'] [] K' E (0, 0)) → go 13 [some (.ref o), some (.ref sg), some (.int fv), some (.ref cu), some (.int (nI (top + 2))), some (.int (nI i)), y] [] K E (0, 0) := by
    intro k u w hk9 h01 K i top y h2 he hi ht' hu hw hk
    have hx : enc (k, 0) = opX k ∧ 1007 ≤ opX k ∧ opX k < 1016 := by
      rcases hk9 with rfl | rfl | rfl | rfl | rfl | rfl | rfl | rfl | rfl <;> decide
    rw [hx.1] at he
    obtain ⟨x, hxe⟩ : ∃ x, x = opX k := ⟨_, rfl⟩
    have hj := fun J' kr' hh => x_joined (Γ := Γ) (l := l) (d := d + 1) (sh := shB b) (J := J') (E := E) (kr := kr') (kx := kx) hk9 h01 hh
    rw [← hxe] at hx he hj
    have c1 : (nI N ≤ nI i) = False := by rw [nIl (by omega) (by omega)]; exact eq_false (by omega)
    have c2 : (nI 64 ≤ nI (top + 2)) = False := by rw [nIl (by omega) (by omega)]; exact eq_false (by omega)
    have c3 : (nI 1000 ≤ nI x) = True := by rw [nIl (by omega) (by omega)]; exact eq_true (by omega)
    have c4 : (nI 1007 ≤ nI x) = True := by rw [nIl (by omega) (by omega)]; exact eq_true (by omega)
    have c5 : (nI x < nI 1017) = True := by rw [nIs (by omega) (by omega)]; exact eq_true (by omega)
    have c6 : (nI x = nI 1016) = False := by rw [nIe (by omega) (by omega)]; exact eq_false (by omega)
    have c7 : (nI (top + 2) < nI 2) = False := by rw [nIs (by omega) (by omega)]; exact eq_false (by omega)
    have s1 : nI (top + 2) - nI 1 = nI (top + 1) := nI_sb (by omega)
    have s2 : nI (top + 1) - nI 1 = nI top := nI_sb (by omega)
    have i1 : i < 160 := by omega
    have i2 : top < 64 := by omega
    have i3 : top + 1 < 64 := by omega
    refine hgo 20 [13] 13 _ _ _ _ _ ?_
    simp only [ixr_of, run_s, run_0, rOp_think, rok_i, rok_z, bx_cons, bx_nil, eBP, eC0, eC1, eC2, eC3, eCS3, eCS4, eCV4, eDEC4, eGI, eGO, eGR, eIALD, eIAST, jICge, jIClt, jICne, eINC4, eINC5, eLA0, eLA1, eLA3, eLI2, eLI4, eLI5, eLI6, eRV, eSI4, eSI5, eSI6, eSP, eSUB, fOp_think_0, fOp_think_13, fOp_think_22, fOp_think_29, fOp_think_46, fOp_think_61, fOp_think_69, fOp_think_90, fOp_think_98, fOp_think_114, fOp_think_122, fOp_think_128, fOp_think_151, fOp_think_157, fOp_think_190, fOp_think_196, bOp_think_0, bOp_think_13, bOp_think_22, bOp_think_29, bOp_think_46, bOp_think_61, bOp_think_69, bOp_think_90, bOp_think_98, bOp_think_114, bOp_think_122, bOp_think_128, bOp_think_151, bOp_think_157, bOp_think_190, bOp_think_196, Option.toList_some, Option.toList_none, List.cons_append, List.nil_append, List.length_cons, List.length_nil, List.mem_cons, List.not_mem_nil, or_false, false_or, or_true, true_or, ↓reduceIte, true_and, and_true, Nat.reduceEqDiff, Nat.reduceAdd, Nat.reduceLeDiff, Nat.reduceLT, dl_i, dl_r, dl_n, dl_u, eq_self, not_true_eq_false, not_false_eq_true, n10, n01, nm0, n0m, ht, r0, r1, t0, t1, l0, l1, h2, he, c1, c2, c3, c4, c5, c6, c7, s1, s2, hu, hw, i1, i2, i3, nI_add, imp_t, imp_f]
    refine call0 (hj _ _ ?_)
    simp only [ixr_of, run_s, run_0, rOp_think, rok_i, rok_z, bx_cons, bx_nil, eBP, eC0, eC1, eC2, eC3, eCS3, eCS4, eCV4, eDEC4, eGI, eGO, eGR, eIALD, eIAST, jICge, jIClt, jICne, eINC4, eINC5, eLA0, eLA1, eLA3, eLI2, eLI4, eLI5, eLI6, eRV, eSI4, eSI5, eSI6, eSP, eSUB, fOp_think_0, fOp_think_13, fOp_think_22, fOp_think_29, fOp_think_46, fOp_think_61, fOp_think_69, fOp_think_90, fOp_think_98, fOp_think_114, fOp_think_122, fOp_think_128, fOp_think_151, fOp_think_157, fOp_think_190, fOp_think_196, bOp_think_0, bOp_think_13, bOp_think_22, bOp_think_29, bOp_think_46, bOp_think_61, bOp_think_69, bOp_think_90, bOp_think_98, bOp_think_114, bOp_think_122, bOp_think_128, bOp_think_151, bOp_think_157, bOp_think_190, bOp_think_196, Option.toList_some, Option.toList_none, List.cons_append, List.nil_append, List.length_cons, List.length_nil, List.mem_cons, List.not_mem_nil, or_false, false_or, or_true, true_or, ↓reduceIte, true_and, and_true, Nat.reduceEqDiff, Nat.reduceAdd, Nat.reduceLeDiff, Nat.reduceLT, dl_i, dl_r, dl_n, dl_u, eq_self, not_true_eq_false, not_false_eq_true, n10, n01, nm0, n0m, ht, r0, r1, t0, t1, l0, l1, i2, nI_add, imp_t, imp_f]
    exact hk _ _ (Agr.up (Nat.le_refl _)) up_s
  have thN : ∀ M D u, NV kn M D u → 1 ≤ D ∧ ThS go E o sg cu N fv kn M D u := fun M D u h => h (fun M D u => 1 ≤ D ∧ ThS go E o sg cu N fv kn M D u) (fun v D hv => ⟨by omega, num v D hv⟩) (fun k D hk => ⟨by omega, look k D hk⟩) (fun k A B D u w h2 h5 ha hb => ⟨by omega, ths_app hs2 ha.2 hb.2 (bin k u w (by omega) (fun z => by omega)) hb.1⟩)
  have b01 : ∀ (p : Prop) [Decidable p], bi p = nI 0 ∨ bi p = nI 1 := fun p _ => by
    by_cases q : p
    · exact Or.inr (bi_t q)
    · exact Or.inl (bi_f q)
  have thB : ∀ M D u, BV kn M D u → (u = nI 0 ∨ u = nI 1) ∧ 1 ≤ D ∧ ThS go E o sg cu N fv kn M D u := fun M D u h => by
    refine h (fun M D u => (u = nI 0 ∨ u = nI 1) ∧ 1 ≤ D ∧ ThS go E o sg cu N fv kn M D u) ?_ ?_ ?_
    · intro k A B D u w h6 h8 ha hb
      refine ⟨?_, by omega, ths_app hs2 (thN _ _ _ ha).2 (thN _ _ _ hb).2 (bin k u w (by omega) (fun z => by omega)) (thN _ _ _ hb).1⟩
      rcases (show k = 6 ∨ k = 7 ∨ k = 8 by omega) with rfl | rfl | rfl
      · exact b01 (u < w)
      · exact b01 (w < u)
      · exact b01 (u = w)
    · intro A D u ha
      refine ⟨by rcases ha.1 with rfl | rfl <;> decide, ha.2.1, ?_⟩
      intro K i top y h2 hkn hc hl' ht' hk
      rw [List.length_append, List.length_singleton] at hl'
      refine ha.2.2 K i top y h2 hkn (fun j c' hj => hc j c' ?_) (by omega) ht' (fun K1 y1 a1 e1 => ?_)
      · rw [List.getElem?_append_left (List.getElem?_eq_some_iff.mp hj).1]; exact hj
      obtain ⟨i', hi'⟩ : ∃ i', i' = i + A.length := ⟨_, rfl⟩
      have he : K1 (o + 1) i' = nI 1016 := by
        rw [a1.1 (o + 1) (by omega), hi']
        refine hc A.length (9, 0) ?_
        rw [List.getElem?_append_right (Nat.le_refl _), Nat.sub_self]
        rfl
      have h2' : K1 o 2 = nI N := by rw [a1.1 o (by omega)]; exact h2
      rw [← hi']
      have hD := ha.2.1
      have c1 : (nI N ≤ nI i') = False := by rw [nIl (by omega) (by omega)]; exact eq_false (by omega)
      have c2 : (nI 64 ≤ nI (top + 1)) = False := by rw [nIl (by omega) (by omega)]; exact eq_false (by omega)
      have c7 : (nI (top + 1) < nI 1) = False := by rw [nIs (by omega) (by omega)]; exact eq_false (by omega)
      have d1 : (nI 1000 ≤ nI 1016) = True := eq_true (by decide)
      have d2 : (nI 1007 ≤ nI 1016) = True := eq_true (by decide)
      have d3 : (nI 1016 < nI 1017) = True := eq_true (by decide)
      have s2 : nI (top + 1) - nI 1 = nI top := nI_sb (by omega)
      have i1 : i' < 160 := by omega
      have i2 : top < 64 := by omega
      refine hgo 20 [13] 13 _ _ _ _ _ ?_
      simp only [ixr_of, run_s, run_0, rOp_think, rok_i, rok_z, bx_cons, bx_nil, eBP, eC0, eC1, eC2, eC3, eCS3, eCS4, eCV4, eDEC4, eGI, eGO, eGR, eIALD, eIAST, jICge, jIClt, jICne, eINC4, eINC5, eLA0, eLA1, eLA3, eLI2, eLI4, eLI5, eLI6, eRV, eSI4, eSI5, eSI6, eSP, eSUB, fOp_think_0, fOp_think_13, fOp_think_22, fOp_think_29, fOp_think_46, fOp_think_61, fOp_think_69, fOp_think_90, fOp_think_98, fOp_think_114, fOp_think_122, fOp_think_128, fOp_think_151, fOp_think_157, fOp_think_190, fOp_think_196, bOp_think_0, bOp_think_13, bOp_think_22, bOp_think_29, bOp_think_46, bOp_think_61, bOp_think_69, bOp_think_90, bOp_think_98, bOp_think_114, bOp_think_122, bOp_think_128, bOp_think_151, bOp_think_157, bOp_think_190, bOp_think_196, Option.toList_some, Option.toList_none, List.cons_append, List.nil_append, List.length_cons, List.length_nil, List.mem_cons, List.not_mem_nil, or_false, false_or, or_true, true_or, ↓reduceIte, true_and, and_true, Nat.reduceEqDiff, Nat.reduceAdd, Nat.reduceLeDiff, Nat.reduceLT, dl_i, dl_r, dl_n, dl_u, eq_self, not_true_eq_false, not_false_eq_true, n10, n01, nm0, n0m, ht, r0, r1, t0, t1, l0, l1, h2', he, c1, c2, c7, d1, d2, d3, s2, e1, i1, i2, nI_add, imp_t, imp_f]
      have := hk (up K1 (o + 2) top (nI 1 - u)) (some (.int (nI 1016))) (a1.tr (Agr.up (Nat.le_refl _)) (Nat.le_refl _)) up_s
      rw [List.length_append, List.length_singleton, ← Nat.add_assoc, ← hi'] at this
      exact this
    · intro k A B D u w h10 h11 ha hb
      refine ⟨?_, by omega, ths_app hs2 ha.2.2 hb.2.2 (bin k u w (by omega) (fun z => ⟨ha.1, hb.1⟩)) hb.2.1⟩
      obtain ⟨hu, -⟩ := ha
      obtain ⟨hw, -⟩ := hb
      rcases (show k = 10 ∨ k = 11 by omega) with rfl | rfl <;> rcases hu with rfl | rfl <;> rcases hw with rfl | rfl <;> decide
  have endp : ∀ (q : Bool) (h : Nat) (K : Iv) (i top : Nat) (y : Option Value), h < 3 → K o 2 = nI N → K (o + 1) i = nI ((if q then 1020 else 1017) + h) → i + 1 ≤ N → top = (if q then 2 else 1) → (q = true → K (o + 2) 1 = nI 0 → ∀ y', go 13 [some (.ref o), some (.ref sg), some (.int fv), some (.ref cu), some (.int (nI 0)), some (.int (nI (i + 1))), y'] [] K E (0, 0)) → (¬ (q = true ∧ K (o + 2) 1 = nI 0) → ∀ y', go 13 [some (.ref o), some (.ref sg), some (.int fv), some (.ref cu), some (.int (nI 0)), some (.int (nI (i + 1))), y'] [] (up K cu h (K cu h + duF fr (K (o + 2) 0))) E (0, 0)) → go 13 [some (.ref o), some (.ref sg), some (.int fv), some (.ref cu), some (.int (nI top)), some (.int (nI i)), y] [] K E (0, 0) := by
    intro q h K i top y hh h2 he hi hq g0 g1
    have hx : 1017 ≤ (if q then 1020 else 1017) + h ∧ (if q then 1020 else 1017) + h < 1023 := by cases q <;> simp <;> omega
    have htop : top < 64 := by cases q <;> simp at hq <;> omega
    have hj := fun kr' h0 h1 => x_addPart (Γ := Γ) (l := l) (b := b) (d := d + 1) (J := K) (E := E) (kr := kr') (kx := kx) (o := o) (q := q) (fr := fr) (top := top) hA0 hcu hlc hh rfl rfl hq h0 h1
    rw [← hfv] at hj
    obtain ⟨x, hxe⟩ : ∃ x, x = (if q then 1020 else 1017) + h := ⟨_, rfl⟩
    rw [← hxe] at hx he hj
    have c1 : (nI N ≤ nI i) = False := by rw [nIl (by omega) (by omega)]; exact eq_false (by omega)
    have c2 : (nI 64 ≤ nI top) = False := by rw [nIl (by omega) (by omega)]; exact eq_false (by omega)
    have c3 : (nI 1000 ≤ nI x) = True := by rw [nIl (by omega) (by omega)]; exact eq_true (by omega)
    have c4 : (nI 1007 ≤ nI x) = True := by rw [nIl (by omega) (by omega)]; exact eq_true (by omega)
    have c5 : (nI x < nI 1017) = False := by rw [nIs (by omega) (by omega)]; exact eq_false (by omega)
    have i1 : i < 160 := by omega
    refine hgo 20 [13] 13 _ _ _ _ _ ?_
    simp only [ixr_of, run_s, run_0, rOp_think, rok_i, rok_z, bx_cons, bx_nil, eBP, eC0, eC1, eC2, eC3, eCS3, eCS4, eCV4, eDEC4, eGI, eGO, eGR, eIALD, eIAST, jICge, jIClt, jICne, eINC4, eINC5, eLA0, eLA1, eLA3, eLI2, eLI4, eLI5, eLI6, eRV, eSI4, eSI5, eSI6, eSP, eSUB, fOp_think_0, fOp_think_13, fOp_think_22, fOp_think_29, fOp_think_46, fOp_think_61, fOp_think_69, fOp_think_90, fOp_think_98, fOp_think_114, fOp_think_122, fOp_think_128, fOp_think_151, fOp_think_157, fOp_think_190, fOp_think_196, bOp_think_0, bOp_think_13, bOp_think_22, bOp_think_29, bOp_think_46, bOp_think_61, bOp_think_69, bOp_think_90, bOp_think_98, bOp_think_114, bOp_think_122, bOp_think_128, bOp_think_151, bOp_think_157, bOp_think_190, bOp_think_196, Option.toList_some, Option.toList_none, List.cons_append, List.nil_append, List.length_cons, List.length_nil, List.mem_cons, List.not_mem_nil, or_false, false_or, or_true, true_or, ↓reduceIte, true_and, and_true, Nat.reduceEqDiff, Nat.reduceAdd, Nat.reduceLeDiff, Nat.reduceLT, dl_i, dl_r, dl_n, dl_u, eq_self, not_true_eq_false, not_false_eq_true, n10, n01, nm0, n0m, ht, r0, r1, t0, t1, l0, l1, h2, he, c1, c2, c3, c4, c5, i1, nI_add, imp_t, imp_f]
    refine call0 (hj _ (fun z1 z2 => ?_) (fun z => ?_))
    · simp only [ixr_of, run_s, run_0, rOp_think, rok_i, rok_z, bx_cons, bx_nil, eBP, eC0, eC1, eC2, eC3, eCS3, eCS4, eCV4, eDEC4, eGI, eGO, eGR, eIALD, eIAST, jICge, jIClt, jICne, eINC4, eINC5, eLA0, eLA1, eLA3, eLI2, eLI4, eLI5, eLI6, eRV, eSI4, eSI5, eSI6, eSP, eSUB, fOp_think_0, fOp_think_13, fOp_think_22, fOp_think_29, fOp_think_46, fOp_think_61, fOp_think_69, fOp_think_90, fOp_think_98, fOp_think_114, fOp_think_122, fOp_think_128, fOp_think_151, fOp_think_157, fOp_think_190, fOp_think_196, bOp_think_0, bOp_think_13, bOp_think_22, bOp_think_29, bOp_think_46, bOp_think_61, bOp_think_69, bOp_think_90, bOp_think_98, bOp_think_114, bOp_think_122, bOp_think_128, bOp_think_151, bOp_think_157, bOp_think_190, bOp_think_196, Option.toList_some, Option.toList_none, List.cons_append, List.nil_append, List.length_cons, List.length_nil, List.mem_cons, List.not_mem_nil, or_false, false_or, or_true, true_or, ↓reduceIte, true_and, and_true, Nat.reduceEqDiff, Nat.reduceAdd, Nat.reduceLeDiff, Nat.reduceLT, dl_i, dl_r, dl_n, dl_u, eq_self, not_true_eq_false, not_false_eq_true, n10, n01, nm0, n0m, imp_t, imp_f]
      exact g0 z1 z2 _
    · simp only [ixr_of, run_s, run_0, rOp_think, rok_i, rok_z, bx_cons, bx_nil, eBP, eC0, eC1, eC2, eC3, eCS3, eCS4, eCV4, eDEC4, eGI, eGO, eGR, eIALD, eIAST, jICge, jIClt, jICne, eINC4, eINC5, eLA0, eLA1, eLA3, eLI2, eLI4, eLI5, eLI6, eRV, eSI4, eSI5, eSI6, eSP, eSUB, fOp_think_0, fOp_think_13, fOp_think_22, fOp_think_29, fOp_think_46, fOp_think_61, fOp_think_69, fOp_think_90, fOp_think_98, fOp_think_114, fOp_think_122, fOp_think_128, fOp_think_151, fOp_think_157, fOp_think_190, fOp_think_196, bOp_think_0, bOp_think_13, bOp_think_22, bOp_think_29, bOp_think_46, bOp_think_61, bOp_think_69, bOp_think_90, bOp_think_98, bOp_think_114, bOp_think_122, bOp_think_128, bOp_think_151, bOp_think_157, bOp_think_190, bOp_think_196, Option.toList_some, Option.toList_none, List.cons_append, List.nil_append, List.length_cons, List.length_nil, List.mem_cons, List.not_mem_nil, or_false, false_or, or_true, true_or, ↓reduceIte, true_and, and_true, Nat.reduceEqDiff, Nat.reduceAdd, Nat.reduceLeDiff, Nat.reduceLT, dl_i, dl_r, dl_n, dl_u, eq_self, not_true_eq_false, not_false_eq_true, n10, n01, nm0, n0m, imp_t, imp_f]
      exact g1 z _
  have loop : ∀ (qs done : List Pt) (K : Iv) (y : Option Value), ps = done ++ qs → (∀ i, i ≠ o + 2 → i ≠ cu → K i = J i) → (∀ h, h < 3 → K cu h = cuA pv done (fun _ => nI 0) h) → go 13 [some (.ref o), some (.ref sg), some (.int fv), some (.ref cu), some (.int (nI 0)), some (.int (nI (stA done).length)), y] [] K E (0, 0) := by
    intro qs
    induction qs with
    | nil =>
      intro done K y hps hF hC
      rw [List.append_nil] at hps
      rw [← hps] at hC ⊢
      have h2 : K o 2 = nI N := by rw [hF o (by omega) (by omega), hN]; exact hX.1.1
      have c1 : (nI N ≤ nI N) = True := eq_true (Int32.le_refl _)
      rw [← hN]
      refine hgo 20 [13] 13 _ _ _ _ _ ?_
      simp only [ixr_of, run_s, run_0, rOp_think, rok_i, rok_z, bx_cons, bx_nil, eBP, eC0, eC1, eC2, eC3, eCS3, eCS4, eCV4, eDEC4, eGI, eGO, eGR, eIALD, eIAST, jICge, jIClt, jICne, eINC4, eINC5, eLA0, eLA1, eLA3, eLI2, eLI4, eLI5, eLI6, eRV, eSI4, eSI5, eSI6, eSP, eSUB, fOp_think_0, fOp_think_13, fOp_think_22, fOp_think_29, fOp_think_46, fOp_think_61, fOp_think_69, fOp_think_90, fOp_think_98, fOp_think_114, fOp_think_122, fOp_think_128, fOp_think_151, fOp_think_157, fOp_think_190, fOp_think_196, bOp_think_0, bOp_think_13, bOp_think_22, bOp_think_29, bOp_think_46, bOp_think_61, bOp_think_69, bOp_think_90, bOp_think_98, bOp_think_114, bOp_think_122, bOp_think_128, bOp_think_151, bOp_think_157, bOp_think_190, bOp_think_196, Option.toList_some, Option.toList_none, List.cons_append, List.nil_append, List.length_cons, List.length_nil, List.mem_cons, List.not_mem_nil, or_false, false_or, or_true, true_or, ↓reduceIte, true_and, and_true, Nat.reduceEqDiff, Nat.reduceAdd, Nat.reduceLeDiff, Nat.reduceLT, dl_i, dl_r, dl_n, dl_u, eq_self, not_true_eq_false, not_false_eq_true, n10, n01, nm0, n0m, ht, h2, c1, imp_t, imp_f]
      exact hk K hF hC
    | cons p qs ih =>
      intro done K y hps hF hC
      obtain ⟨hp3, u, hu, hpv⟩ := hv p (by rw [hps]; simp)
      have hlen : N = (stA done).length + (p.2.1.length + p.2.2.length + 1) + (stA qs).length := by
        rw [hN, hps, stA_app]
        show (stA done ++ (stP p ++ stA qs)).length = _
        unfold stP
        simp only [List.length_append, List.length_map, List.length_singleton]
        omega
      have row : ∀ j x, (stP p ++ stA qs)[j]? = some x → J (o + 1) ((stA done).length + j) = nI x := by
        intro j x hj
        refine hX.1.2 _ _ ?_
        rw [hps, stA_app, List.getElem?_append_right (by omega), Nat.add_sub_cancel_left]
        exact hj
      have row1 : ∀ j c, p.2.1[j]? = some c → J (o + 1) ((stA done).length + j) = nI (enc c) := by
        intro j c hj
        have hjl := (List.getElem?_eq_some_iff.mp hj).1
        refine row j _ ?_
        unfold stP
        simp only [List.append_assoc]
        rw [List.getElem?_append_left (by rw [List.length_map]; exact hjl), List.getElem?_map, hj]
        rfl
      have row2 : ∀ j c, p.2.2[j]? = some c → J (o + 1) ((stA done).length + p.2.1.length + j) = nI (enc c) := by
        intro j c hj
        have hjl := (List.getElem?_eq_some_iff.mp hj).1
        rw [Nat.add_assoc]
        refine row _ _ ?_
        unfold stP
        simp only [List.append_assoc]
        rw [List.getElem?_append_right (by rw [List.length_map]; omega), List.length_map, Nat.add_sub_cancel_left, List.getElem?_append_left (by rw [List.length_map]; exact hjl), List.getElem?_map, hj]
        rfl
      have row3 : J (o + 1) ((stA done).length + p.2.1.length + p.2.2.length) = nI ((if p.2.2 = [] then 1017 else 1020) + p.1) := by
        rw [Nat.add_assoc]
        refine row _ _ ?_
        unfold stP
        simp only [List.append_assoc]
        rw [List.getElem?_append_right (by rw [List.length_map]; omega), List.length_map, Nat.add_sub_cancel_left, List.getElem?_append_right (by rw [List.length_map]; omega), List.length_map, Nat.sub_self]
        rfl
      have hnx : (stA (done ++ [p])).length = (stA done).length + p.2.1.length + p.2.2.length + 1 := by
        rw [stA_a]
        unfold stP
        simp only [List.length_append, List.length_map, List.length_singleton]
        omega
      have hoo : ∀ i, i ≠ o + 2 → i ≠ cu → K i = J i := hF
      refine (thN _ _ _ hu).2 K _ 0 y (by rw [hF o (by omega) (by omega), hN]; exact hX.1.1) (fun k hk => by rw [hF sg hs2 (by omega)]; exact hkn k hk) (fun j c hj => by rw [hF (o + 1) (by omega) (by omega)]; exact row1 j c hj) (by omega) (by decide) (fun K1 y1 a1 e1 => ?_)
      have hF1 : ∀ i, i ≠ o + 2 → i ≠ cu → K1 i = J i := fun i q1 q2 => by rw [a1.1 i q1]; exact hF i q1 q2
      have hC1 : K1 cu = K cu := a1.1 cu (by omega)
      have fin : ∀ (K2 : Iv) (x : Int32) (y' : Option Value), (∀ i, i ≠ o + 2 → i ≠ cu → K2 i = J i) → K2 cu = K cu → x = pv p → go 13 [some (.ref o), some (.ref sg), some (.int fv), some (.ref cu), some (.int (nI 0)), some (.int (nI ((stA done).length + p.2.1.length + p.2.2.length + 1))), y'] [] (up K2 cu p.1 (K2 cu p.1 + x)) E (0, 0) := by
        intro K2 x y' hF2 hC2 hx
        rw [← hnx]
        refine ih (done ++ [p]) _ _ (by rw [hps, List.append_assoc]; rfl) (fun i q1 q2 => by rw [← hF2 i q1 q2]; funext j; exact up_n (by omega)) (fun h hh => ?_)
        rw [cuA_a, hC2, hC p.1 hp3, hx]
        unfold ru
        by_cases q : h = p.1
        · rw [if_pos q, q, up_s]
        · rw [if_neg q, up_n (by omega), hC2, hC h hh]
      rcases hpv with ⟨hnil, hx⟩ | ⟨c, hnn, hc, hx⟩
      · rw [hnil, List.length_nil, Nat.add_zero, if_pos rfl] at row3
        rw [hnil] at hlen
        have hlen' : N = (stA done).length + (p.2.1.length + 0 + 1) + (stA qs).length := hlen
        refine endp false p.1 K1 _ _ _ hp3 (by rw [hF1 o (by omega) (by omega), hN]; exact hX.1.1) (by rw [hF1 (o + 1) (by omega) (by omega)]; exact row3) (by omega) rfl (fun z => by cases z) (fun _ y' => ?_)
        have := fin K1 (duF fr (K1 (o + 2) 0)) y' hF1 hC1 (by rw [hx, e1])
        rw [hnil] at this
        exact this
      · refine (thB _ _ _ hc).2.2 K1 _ 1 y1 (by rw [hF1 o (by omega) (by omega), hN]; exact hX.1.1) (fun k hk => by rw [hF1 sg hs2 (by omega)]; exact hkn k hk) (fun j c hj => by rw [hF1 (o + 1) (by omega) (by omega)]; exact row2 j c hj) (by omega) (by decide) (fun K2 y2 a2 e2 => ?_)
        have hF2 : ∀ i, i ≠ o + 2 → i ≠ cu → K2 i = J i := fun i q1 q2 => by rw [a2.1 i q1]; exact hF1 i q1 q2
        have hC2 : K2 cu = K cu := (a2.1 cu (by omega)).trans hC1
        have e0 : K2 (o + 2) 0 = u := (a2.2 0 (by omega)).trans e1
        rw [if_neg hnn] at row3
        refine endp true p.1 K2 _ _ _ hp3 (by rw [hF2 o (by omega) (by omega), hN]; exact hX.1.1) (by rw [hF2 (o + 1) (by omega) (by omega)]; exact row3) (by omega) rfl (fun _ z y' => ?_) (fun z y' => ?_)
        · rw [e2] at z
          rw [if_pos z] at hx
          have := fin K2 (nI 0) y' hF2 hC2 hx.symm
          rw [show K2 cu p.1 + nI 0 = K2 cu p.1 from Int32.add_zero _, up_id] at this
          exact this
        · rw [e2] at z
          rw [if_neg (fun z' => z ⟨rfl, z'⟩)] at hx
          exact fin K2 (duF fr (K2 (o + 2) 0)) y' hF2 hC2 (by rw [hx, e0])
  refine hgo 20 [13] 0 _ _ _ _ _ ?_
  simp only [ixr_of, run_s, run_0, rOp_think, rok_i, rok_z, bx_cons, bx_nil, eBP, eC0, eC1, eC2, eC3, eCS3, eCS4, eCV4, eDEC4, eGI, eGO, eGR, eIALD, eIAST, jICge, jIClt, jICne, eINC4, eINC5, eLA0, eLA1, eLA3, eLI2, eLI4, eLI5, eLI6, eRV, eSI4, eSI5, eSI6, eSP, eSUB, fOp_think_0, fOp_think_13, fOp_think_22, fOp_think_29, fOp_think_46, fOp_think_61, fOp_think_69, fOp_think_90, fOp_think_98, fOp_think_114, fOp_think_122, fOp_think_128, fOp_think_151, fOp_think_157, fOp_think_190, fOp_think_196, bOp_think_0, bOp_think_13, bOp_think_22, bOp_think_29, bOp_think_46, bOp_think_61, bOp_think_69, bOp_think_90, bOp_think_98, bOp_think_114, bOp_think_122, bOp_think_128, bOp_think_151, bOp_think_157, bOp_think_190, bOp_think_196, Option.toList_some, Option.toList_none, List.cons_append, List.nil_append, List.length_cons, List.length_nil, List.mem_cons, List.not_mem_nil, or_false, false_or, or_true, true_or, ↓reduceIte, true_and, and_true, Nat.reduceEqDiff, Nat.reduceAdd, Nat.reduceLeDiff, Nat.reduceLT, dl_i, dl_r, dl_n, dl_u, eq_self, not_true_eq_false, not_false_eq_true, n10, n01, nm0, n0m, imp_t, imp_f]
  refine call0 (x_fillR hcu (by decide) (by rw [hlc]; decide) (by rw [hlc]; decide) ?_)
  simp only [ixr_of, run_s, run_0, rOp_think, rok_i, rok_z, bx_cons, bx_nil, eBP, eC0, eC1, eC2, eC3, eCS3, eCS4, eCV4, eDEC4, eGI, eGO, eGR, eIALD, eIAST, jICge, jIClt, jICne, eINC4, eINC5, eLA0, eLA1, eLA3, eLI2, eLI4, eLI5, eLI6, eRV, eSI4, eSI5, eSI6, eSP, eSUB, fOp_think_0, fOp_think_13, fOp_think_22, fOp_think_29, fOp_think_46, fOp_think_61, fOp_think_69, fOp_think_90, fOp_think_98, fOp_think_114, fOp_think_122, fOp_think_128, fOp_think_151, fOp_think_157, fOp_think_190, fOp_think_196, bOp_think_0, bOp_think_13, bOp_think_22, bOp_think_29, bOp_think_46, bOp_think_61, bOp_think_69, bOp_think_90, bOp_think_98, bOp_think_114, bOp_think_122, bOp_think_128, bOp_think_151, bOp_think_157, bOp_think_190, bOp_think_196, Option.toList_some, Option.toList_none, List.cons_append, List.nil_append, List.length_cons, List.length_nil, List.mem_cons, List.not_mem_nil, or_false, false_or, or_true, true_or, ↓reduceIte, true_and, and_true, Nat.reduceEqDiff, Nat.reduceAdd, Nat.reduceLeDiff, Nat.reduceLT, dl_i, dl_r, dl_n, dl_u, eq_self, not_true_eq_false, not_false_eq_true, n10, n01, nm0, n0m, imp_t, imp_f]
  refine loop ps [] _ _ rfl (fun i q1 q2 => ?_) (fun h hh => ?_)
  · funext j
    exact if_neg (fun z => q2 z.1)
  · exact if_pos ⟨rfl, by omega, hh⟩
end XTh2
