/-! contracts of the class, 20: what opinions put: pieces -/
theorem div_m1 {u : Int32} : u / -1 = -u := by
  apply Int32.toInt_inj.mp
  rw [Int32.toInt_div, show (-1 : Int32).toInt = -1 from rfl, Int.tdiv_neg, Int.tdiv_one, Int32.toInt_neg]
section XTh
variable {Γ : Gm} {l : Launch} {b : Bool} {d : Nat} {J : Iv} {E : Ev} {kr : Kr} {kx : Kxx} {n a o op : Nat}
theorem x_joined {sh : Sh} {k : Nat} {u w : Int32} (hk : k = 2 ∨ k = 3 ∨ k = 4 ∨ k = 5 ∨ k = 6 ∨ k = 7 ∨ k = 8 ∨ k = 10 ∨ k = 11) (h01 : 10 ≤ k → (u = nI 0 ∨ u = nI 1) ∧ (w = nI 0 ∨ w = nI 1)) (h : kr (some (.int (byF (nI k) u w))) J E) : Ex Γ l sh (d + 1) (0, 0) mOp_joined [.int (nI (opX k)), .int u, .int w] J E kr kx := by
  refine ex_of (ls0 := [some (.int (nI (opX k))), some (.int u), some (.int w)]) tOp_joined (by decide +kernel) kOp_joined rfl (Nat.le_of_ble_eq_true rfl) rfl ?_
  intro go hgo
  refine hgo 20 [] 0 _ _ _ _ _ ?_
  simp only [ixr_of, run_s, run_0, rOp_joined, rok_i, rok_z, bx_cons, bx_nil, eADD, eAND, eC0, eC1, eDIV, eGO, jICge, jICle, jICne, jIFne, eLI0, eLI1, eLI2, eMUL, eOR, eRI, eSUB, eSWb, jswA_c, swA_n, fOp_joined_0, fOp_joined_48, fOp_joined_52, fOp_joined_56, fOp_joined_60, fOp_joined_64, fOp_joined_68, fOp_joined_71, fOp_joined_72, fOp_joined_77, fOp_joined_81, fOp_joined_82, fOp_joined_83, fOp_joined_88, fOp_joined_92, fOp_joined_93, fOp_joined_94, fOp_joined_99, fOp_joined_103, fOp_joined_104, fOp_joined_105, fOp_joined_109, bOp_joined_0, bOp_joined_48, bOp_joined_52, bOp_joined_56, bOp_joined_60, bOp_joined_64, bOp_joined_68, bOp_joined_71, bOp_joined_72, bOp_joined_77, bOp_joined_81, bOp_joined_82, bOp_joined_83, bOp_joined_88, bOp_joined_92, bOp_joined_93, bOp_joined_94, bOp_joined_99, bOp_joined_103, bOp_joined_104, bOp_joined_105, bOp_joined_109, Option.toList_some, Option.toList_none, List.cons_append, List.nil_append, List.length_cons, List.length_nil, List.mem_cons, List.not_mem_nil, or_false, false_or, or_true, true_or, ↓reduceIte, true_and, and_true, Nat.reduceEqDiff, Nat.reduceAdd, Nat.reduceLeDiff, Nat.reduceLT, dl_i, dl_r, dl_n, dl_u, eq_self, not_true_eq_false, not_false_eq_true, n10, n01, nm0, n0m, imp_t, imp_f]
  rcases hk with rfl | rfl | rfl | rfl | rfl | rfl | rfl | rfl | rfl
  · refine ⟨⟨fun _ => ?_, fun q => absurd q (by decide), fun q => absurd q (by decide), fun q => absurd q (by decide), fun q => absurd q (by decide), fun q => absurd q (by decide), fun q => absurd q (by decide), fun q => absurd q (by decide)⟩, fun q => absurd rfl (q 0 (by decide))⟩
    exact h
  · refine ⟨⟨fun q => absurd q (by decide), fun _ => ?_, fun q => absurd q (by decide), fun q => absurd q (by decide), fun q => absurd q (by decide), fun q => absurd q (by decide), fun q => absurd q (by decide), fun q => absurd q (by decide)⟩, fun q => absurd rfl (q 1 (by decide))⟩
    exact h
  · refine ⟨⟨fun q => absurd q (by decide), fun q => absurd q (by decide), fun _ => ?_, fun q => absurd q (by decide), fun q => absurd q (by decide), fun q => absurd q (by decide), fun q => absurd q (by decide), fun q => absurd q (by decide)⟩, fun q => absurd rfl (q 2 (by decide))⟩
    exact h
  · refine ⟨⟨fun q => absurd q (by decide), fun q => absurd q (by decide), fun q => absurd q (by decide), fun _ => ?_, fun q => absurd q (by decide), fun q => absurd q (by decide), fun q => absurd q (by decide), fun q => absurd q (by decide)⟩, fun q => absurd rfl (q 3 (by decide))⟩
    have e : byF (nI 5) u w = if w = nI 0 then nI 0 else u / w := by
      show (if w = nI 0 then nI 0 else if w = -1 then -u else u / w) = _
      by_cases q : w = -1
      · rw [if_pos q, q, div_m1]
      · rw [if_neg q]
    rw [e] at h
    refine ⟨fun q => ⟨q, ?_⟩, fun q => ?_⟩
    · rw [if_neg q] at h; exact h
    · rw [if_pos q] at h; exact h
  · refine ⟨⟨fun q => absurd q (by decide), fun q => absurd q (by decide), fun q => absurd q (by decide), fun q => absurd q (by decide), fun _ => ?_, fun q => absurd q (by decide), fun q => absurd q (by decide), fun q => absurd q (by decide)⟩, fun q => absurd rfl (q 4 (by decide))⟩
    refine ⟨fun q => ?_, fun q => ?_⟩
    · rw [show byF (nI 6) u w = nI 0 from bi_f (Int32.not_lt.mpr q)] at h; exact h
    · rw [show byF (nI 6) u w = nI 1 from bi_t (Int32.not_le.mp q)] at h; exact h
  · refine ⟨⟨fun q => absurd q (by decide), fun q => absurd q (by decide), fun q => absurd q (by decide), fun q => absurd q (by decide), fun q => absurd q (by decide), fun _ => ?_, fun q => absurd q (by decide), fun q => absurd q (by decide)⟩, fun q => absurd rfl (q 5 (by decide))⟩
    refine ⟨fun q => ?_, fun q => ?_⟩
    · rw [show byF (nI 7) u w = nI 0 from bi_f (Int32.not_lt.mpr q)] at h; exact h
    · rw [show byF (nI 7) u w = nI 1 from bi_t (Int32.not_le.mp q)] at h; exact h
  · refine ⟨⟨fun q => absurd q (by decide), fun q => absurd q (by decide), fun q => absurd q (by decide), fun q => absurd q (by decide), fun q => absurd q (by decide), fun q => absurd q (by decide), fun _ => ?_, fun q => absurd q (by decide)⟩, fun q => absurd rfl (q 6 (by decide))⟩
    refine ⟨fun q => ?_, fun q => ?_⟩
    · rw [show byF (nI 8) u w = nI 0 from bi_f q] at h; exact h
    · rw [show byF (nI 8) u w = nI 1 from bi_t q] at h; exact h
  · refine ⟨⟨fun q => absurd q (by decide), fun q => absurd q (by decide), fun q => absurd q (by decide), fun q => absurd q (by decide), fun q => absurd q (by decide), fun q => absurd q (by decide), fun q => absurd q (by decide), fun _ => ?_⟩, fun q => absurd rfl (q 7 (by decide))⟩
    have e : u &&& w = byF (nI 10) u w := by
      obtain ⟨h1, h2⟩ := h01 (by decide)
      rcases h1 with rfl | rfl <;> rcases h2 with rfl | rfl <;> decide
    rw [e]; exact h
  · refine ⟨⟨fun q => absurd q (by decide), fun q => absurd q (by decide), fun q => absurd q (by decide), fun q => absurd q (by decide), fun q => absurd q (by decide), fun q => absurd q (by decide), fun q => absurd q (by decide), fun q => absurd q (by decide)⟩, fun _ => ?_⟩
    have e : u ||| w = byF (nI 11) u w := by
      obtain ⟨h1, h2⟩ := h01 (by decide)
      rcases h1 with rfl | rfl <;> rcases h2 with rfl | rfl <;> decide
    rw [e]; exact h
/-- what a part puts, by its sum's worth -/
def duF (q : Bool) (x : Int32) : Int32 := if q then clF x / nI 2 else clF x
theorem cl_lo {x : Int32} (h : ¬ nI 0 ≤ x) : clF x = nI 0 := by
  unfold clF
  rw [if_pos (Int32.not_le.mp h)]
theorem cl_hi {x : Int32} (h0 : nI 0 ≤ x) (h : ¬ x ≤ nI 99) : clF x = nI 99 := by
  unfold clF
  rw [if_neg (Int32.not_lt.mpr h0), if_neg (Int32.lt_asymm (Int32.not_le.mp h))]
theorem cl_mi {x : Int32} (h0 : nI 0 ≤ x) (h : x ≤ nI 99) : clF x = x := by
  unfold clF
  rw [if_neg (Int32.not_lt.mpr h0)]
  by_cases h9 : x < nI 99
  · rw [if_pos h9]
  · rw [if_neg h9]
    exact Int32.le_antisymm (Int32.not_lt.mp h9) h
theorem x_addPart {cu h : Nat} {q fr : Bool} {top : Nat} {u c : Int32} (hA : OpA (shB b) E o) (hcu : tyc (shB b) E cu = 101) (hlc : len (shB b) E cu = 3) (hh : h < 3) (hu : J (o + 2) 0 = u) (hc : J (o + 2) 1 = c) (hq : top = if q then 2 else 1) (h0 : q = true → c = nI 0 → kr none J E) (h1 : ¬ (q = true ∧ c = nI 0) → kr none (up J cu h (J cu h + duF fr u)) E) : Ex Γ l (shB b) (d + 1) (0, 0) mOp_addPart [.ref o, .int (nI ((if q then 1020 else 1017) + h)), .int (nI top), .int (if fr then nI 1 else nI 0), .ref cu] J E kr kx := by
  refine ex_of (ls0 := [some (.ref o), some (.int (nI ((if q then 1020 else 1017) + h))), some (.int (nI top)), some (.int (if fr then nI 1 else nI 0)), some (.ref cu), none, none, none]) tOp_addPart (by decide +kernel) kOp_addPart rfl (Nat.le_of_ble_eq_true rfl) rfl ?_
  intro go hgo
  obtain ⟨ht, -, r1, -, t1, -, l1⟩ := hA
  obtain ⟨fv, hfv⟩ : ∃ fv, fv = (if fr then nI 1 else nI 0) := ⟨_, rfl⟩
  rw [← hfv]
  have e7 : nI (1017 + h) - nI 1017 = nI h := by rw [nI_sb (by omega), Nat.add_sub_cancel_left]
  have e20 : nI (1020 + h) - nI 1020 = nI h := by rw [nI_sb (by omega), Nat.add_sub_cancel_left]
  have c7 : (nI (1017 + h) < nI 1020) = True := eq_true (nI_lt (by omega) (by omega))
  have c20 : (nI (1020 + h) < nI 1020) = False := eq_false (nI_nlt (by omega) (by omega))
  have fin2 : ∀ (x1 : Int32) (z5 : Int32) (z7 : Option Value) (v : Int32), clF u = v → ¬ (q = true ∧ c = nI 0) → go 92 [some (.ref o), some (.int x1), some (.int (nI top)), some (.int fv), some (.ref cu), some (.int z5), some (.int (nI h)), z7] [.int v] J E (0, 0) := by
    intro x1 z5 z7 v hv hn
    have hk := h1 hn
    subst hv
    refine hgo 20 [] 92 _ _ _ _ _ ?_
    simp only [ixr_of, run_s, run_0, rOp_addPart, rok_i, rok_z, bx_cons, bx_nil, eADD, eBP, eC0, eC1, eC2, eDIV, eDUP2, eGO, eGR, eIALD, eIAST, jICle, jIClt, jIFeq, jIFge, jIFne, eLA0, eLA4, eLI1, eLI2, eLI3, eLI5, eLI6, eLI7, eRV, eSI5, eSI6, eSI7, eSP, eSUB, fOp_addPart_0, fOp_addPart_7, fOp_addPart_11, fOp_addPart_12, fOp_addPart_20, fOp_addPart_26, fOp_addPart_29, fOp_addPart_37, fOp_addPart_42, fOp_addPart_47, fOp_addPart_56, fOp_addPart_57, fOp_addPart_66, fOp_addPart_70, fOp_addPart_81, fOp_addPart_86, fOp_addPart_92, fOp_addPart_104, fOp_addPart_111, fOp_addPart_113, bOp_addPart_0, bOp_addPart_7, bOp_addPart_11, bOp_addPart_12, bOp_addPart_20, bOp_addPart_26, bOp_addPart_29, bOp_addPart_37, bOp_addPart_42, bOp_addPart_47, bOp_addPart_56, bOp_addPart_57, bOp_addPart_66, bOp_addPart_70, bOp_addPart_81, bOp_addPart_86, bOp_addPart_92, bOp_addPart_104, bOp_addPart_111, bOp_addPart_113, Option.toList_some, Option.toList_none, List.cons_append, List.nil_append, List.length_cons, List.length_nil, List.mem_cons, List.not_mem_nil, or_false, false_or, or_true, true_or, ↓reduceIte, true_and, and_true, Nat.reduceEqDiff, Nat.reduceAdd, Nat.reduceLeDiff, Nat.reduceLT, dl_i, dl_r, dl_n, dl_u, eq_self, not_true_eq_false, not_false_eq_true, n10, n01, nm0, n0m, ht, hcu, hlc, hh, imp_t, imp_f]
    cases fr
    · have hf0 : fv = nI 0 := hfv
      subst hf0
      refine ⟨fun _ => ?_, fun z => absurd rfl z⟩
      exact hk
    · have hf1 : fv = nI 1 := hfv
      subst hf1
      refine ⟨fun z => absurd z (by decide), fun _ => ⟨by decide, ?_⟩⟩
      exact hk
  have fin : ∀ (x1 : Int32) (z5 : Int32) (z7 : Option Value), ¬ (q = true ∧ c = nI 0) → go 57 [some (.ref o), some (.int x1), some (.int (nI top)), some (.int fv), some (.ref cu), some (.int z5), some (.int (nI h)), z7] [] J E (0, 0) := by
    intro x1 z5 z7 hn
    refine hgo 20 [92] 57 _ _ _ _ _ ?_
    simp only [ixr_of, run_s, run_0, rOp_addPart, rok_i, rok_z, bx_cons, bx_nil, eADD, eBP, eC0, eC1, eC2, eDIV, eDUP2, eGO, eGR, eIALD, eIAST, jICle, jIClt, jIFeq, jIFge, jIFne, eLA0, eLA4, eLI1, eLI2, eLI3, eLI5, eLI6, eLI7, eRV, eSI5, eSI6, eSI7, eSP, eSUB, fOp_addPart_0, fOp_addPart_7, fOp_addPart_11, fOp_addPart_12, fOp_addPart_20, fOp_addPart_26, fOp_addPart_29, fOp_addPart_37, fOp_addPart_42, fOp_addPart_47, fOp_addPart_56, fOp_addPart_57, fOp_addPart_66, fOp_addPart_70, fOp_addPart_81, fOp_addPart_86, fOp_addPart_92, fOp_addPart_104, fOp_addPart_111, fOp_addPart_113, bOp_addPart_0, bOp_addPart_7, bOp_addPart_11, bOp_addPart_12, bOp_addPart_20, bOp_addPart_26, bOp_addPart_29, bOp_addPart_37, bOp_addPart_42, bOp_addPart_47, bOp_addPart_56, bOp_addPart_57, bOp_addPart_66, bOp_addPart_70, bOp_addPart_81, bOp_addPart_86, bOp_addPart_92, bOp_addPart_104, bOp_addPart_111, bOp_addPart_113, Option.toList_some, Option.toList_none, List.cons_append, List.nil_append, List.length_cons, List.length_nil, List.mem_cons, List.not_mem_nil, or_false, false_or, or_true, true_or, ↓reduceIte, true_and, and_true, Nat.reduceEqDiff, Nat.reduceAdd, Nat.reduceLeDiff, Nat.reduceLT, dl_i, dl_r, dl_n, dl_u, eq_self, not_true_eq_false, not_false_eq_true, n10, n01, nm0, n0m, ht, r1, t1, l1, hu, imp_t, imp_f]
    refine ⟨fun z => ⟨fun y => ?_, fun y => ?_⟩, fun z => ?_⟩
    · exact fin2 _ _ _ _ (cl_mi z y) hn
    · exact fin2 _ _ _ _ (cl_hi z y) hn
    · exact fin2 _ _ _ _ (cl_lo z) hn
  refine hgo 20 [57] 0 _ _ _ _ _ ?_
  cases q
  · have e1 : top = 1 := hq
    subst e1
    have e0 : (if false = true then 1020 else 1017) + h = 1017 + h := rfl
    rw [e0]
    simp only [ixr_of, run_s, run_0, rOp_addPart, rok_i, rok_z, bx_cons, bx_nil, eADD, eBP, eC0, eC1, eC2, eDIV, eDUP2, eGO, eGR, eIALD, eIAST, jICle, jIClt, jIFeq, jIFge, jIFne, eLA0, eLA4, eLI1, eLI2, eLI3, eLI5, eLI6, eLI7, eRV, eSI5, eSI6, eSI7, eSP, eSUB, fOp_addPart_0, fOp_addPart_7, fOp_addPart_11, fOp_addPart_12, fOp_addPart_20, fOp_addPart_26, fOp_addPart_29, fOp_addPart_37, fOp_addPart_42, fOp_addPart_47, fOp_addPart_56, fOp_addPart_57, fOp_addPart_66, fOp_addPart_70, fOp_addPart_81, fOp_addPart_86, fOp_addPart_92, fOp_addPart_104, fOp_addPart_111, fOp_addPart_113, bOp_addPart_0, bOp_addPart_7, bOp_addPart_11, bOp_addPart_12, bOp_addPart_20, bOp_addPart_26, bOp_addPart_29, bOp_addPart_37, bOp_addPart_42, bOp_addPart_47, bOp_addPart_56, bOp_addPart_57, bOp_addPart_66, bOp_addPart_70, bOp_addPart_81, bOp_addPart_86, bOp_addPart_92, bOp_addPart_104, bOp_addPart_111, bOp_addPart_113, Option.toList_some, Option.toList_none, List.cons_append, List.nil_append, List.length_cons, List.length_nil, List.mem_cons, List.not_mem_nil, or_false, false_or, or_true, true_or, ↓reduceIte, true_and, and_true, Nat.reduceEqDiff, Nat.reduceAdd, Nat.reduceLeDiff, Nat.reduceLT, dl_i, dl_r, dl_n, dl_u, eq_self, not_true_eq_false, not_false_eq_true, n10, n01, nm0, n0m, ht, c7, e7, imp_t, imp_f]
    exact ⟨fun z => absurd z (by decide), fun _ => fin _ _ _ (fun z => absurd z.1 (by decide))⟩
  · have e1 : top = 2 := hq
    subst e1
    have e0 : (if true = true then 1020 else 1017) + h = 1020 + h := rfl
    rw [e0]
    simp only [ixr_of, run_s, run_0, rOp_addPart, rok_i, rok_z, bx_cons, bx_nil, eADD, eBP, eC0, eC1, eC2, eDIV, eDUP2, eGO, eGR, eIALD, eIAST, jICle, jIClt, jIFeq, jIFge, jIFne, eLA0, eLA4, eLI1, eLI2, eLI3, eLI5, eLI6, eLI7, eRV, eSI5, eSI6, eSI7, eSP, eSUB, fOp_addPart_0, fOp_addPart_7, fOp_addPart_11, fOp_addPart_12, fOp_addPart_20, fOp_addPart_26, fOp_addPart_29, fOp_addPart_37, fOp_addPart_42, fOp_addPart_47, fOp_addPart_56, fOp_addPart_57, fOp_addPart_66, fOp_addPart_70, fOp_addPart_81, fOp_addPart_86, fOp_addPart_92, fOp_addPart_104, fOp_addPart_111, fOp_addPart_113, bOp_addPart_0, bOp_addPart_7, bOp_addPart_11, bOp_addPart_12, bOp_addPart_20, bOp_addPart_26, bOp_addPart_29, bOp_addPart_37, bOp_addPart_42, bOp_addPart_47, bOp_addPart_56, bOp_addPart_57, bOp_addPart_66, bOp_addPart_70, bOp_addPart_81, bOp_addPart_86, bOp_addPart_92, bOp_addPart_104, bOp_addPart_111, bOp_addPart_113, Option.toList_some, Option.toList_none, List.cons_append, List.nil_append, List.length_cons, List.length_nil, List.mem_cons, List.not_mem_nil, or_false, false_or, or_true, true_or, ↓reduceIte, true_and, and_true, Nat.reduceEqDiff, Nat.reduceAdd, Nat.reduceLeDiff, Nat.reduceLT, dl_i, dl_r, dl_n, dl_u, eq_self, not_true_eq_false, not_false_eq_true, n10, n01, nm0, n0m, ht, c20, e20, r1, t1, l1, hc, imp_t, imp_f]
    refine ⟨fun z => absurd z (by decide), fun _ => ⟨fun z => absurd z (by decide), fun _ => ⟨fun z => ?_, fun z => ?_⟩⟩⟩
    · exact fin _ _ _ (fun y => z y.2)
    · exact h0 rfl z
end XTh
