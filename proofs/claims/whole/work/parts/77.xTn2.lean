/-! contracts of the class, 8: towns, read: clauses -/
section XTnR2
variable {Γ : Gm} {l : Launch} {b : Bool} {d : Nat} {I : Iv} {E : Ev} {kr : Kr} {kx : Kxx} {T : Nat → Int32} {n a t : Nat} {S : Tn}
theorem x_readFeast (hA : TnA (shB b) E t) (ht3 : 3 ≤ t) (h : TS T n I a) (hX : XTn I t S)
    (hk : RT T n t I E (match nuS T n (nI 0) (nI 60) a with | .error e => .error e | .ok (c, p) => .ok (c, S.1, (S.2.1.1, S.2.1.2.1, p), S.2.2)) kr) : Ex Γ l (shB b) (d + 3) (0, 0) mTn_readFeast [.ref t, .ref 1] I E kr kx := by
  refine ex_of (ls0 := [some (.ref t), some (.ref 1), none]) tTn_readFeast (by decide +kernel) kTn_readFeast rfl (Nat.le_of_ble_eq_true rfl) rfl ?_
  intro go hgo
  have ht := hA.1
  refine hgo 20 [] 0 _ _ _ _ _ ?_
  simp only [ixr_of, run_s, run_0, rTn_readFeast, rok_i, rok_z, bx_cons, bx_nil, eBP, eC0, eC1, eCV2, eCm1, jICne, eLA0, eLA1, eLI2, ePI, eRI, eSI2, fTn_readFeast_0, fTn_readFeast_13, fTn_readFeast_15, bTn_readFeast_0, bTn_readFeast_13, bTn_readFeast_15, Option.toList_some, Option.toList_none, List.cons_append, List.nil_append, List.length_cons, List.length_nil, List.mem_cons, List.not_mem_nil, or_false, false_or, or_true, true_or, ↓reduceIte, true_and, and_true, Nat.reduceEqDiff, Nat.reduceAdd, Nat.reduceLeDiff, Nat.reduceLT, dl_i, dl_r, dl_n, dl_u, eq_self, not_true_eq_false, not_false_eq_true, n10, n01, nm0, n0m, ht, ty_xtape, imp_t, imp_f]
  refine call0 (x_numS h (Or.inl rfl) (by decide) (fun c p hr hp hp2 _ hc => ?_) (fun e x hr hx => ?_))
  rotate_left
  · simp only [ixr_of, run_s, run_0, rTn_readFeast, rok_i, rok_z, bx_cons, bx_nil, eBP, eC0, eC1, eCV2, eCm1, jICne, eLA0, eLA1, eLI2, ePI, eRI, eSI2, fTn_readFeast_0, fTn_readFeast_13, fTn_readFeast_15, bTn_readFeast_0, bTn_readFeast_13, bTn_readFeast_15, Option.toList_some, Option.toList_none, List.cons_append, List.nil_append, List.length_cons, List.length_nil, List.mem_cons, List.not_mem_nil, or_false, false_or, or_true, true_or, ↓reduceIte, true_and, and_true, Nat.reduceEqDiff, Nat.reduceAdd, Nat.reduceLeDiff, Nat.reduceLT, dl_i, dl_r, dl_n, dl_u, eq_self, not_true_eq_false, not_false_eq_true, n10, n01, nm0, n0m, imp_t, imp_f]
    rw [hr] at hk
    exact hk.2 _ _ rfl Fn.tf tf_e
  rw [hr] at hk
  have np := nI_nm (p := p) (by omega)
  simp only [ixr_of, run_s, run_0, rTn_readFeast, rok_i, rok_z, bx_cons, bx_nil, eBP, eC0, eC1, eCV2, eCm1, jICne, eLA0, eLA1, eLI2, ePI, eRI, eSI2, fTn_readFeast_0, fTn_readFeast_13, fTn_readFeast_15, bTn_readFeast_0, bTn_readFeast_13, bTn_readFeast_15, Option.toList_some, Option.toList_none, List.cons_append, List.nil_append, List.length_cons, List.length_nil, List.mem_cons, List.not_mem_nil, or_false, false_or, or_true, true_or, ↓reduceIte, true_and, and_true, Nat.reduceEqDiff, Nat.reduceAdd, Nat.reduceLeDiff, Nat.reduceLT, dl_i, dl_r, dl_n, dl_u, eq_self, not_true_eq_false, not_false_eq_true, n10, n01, nm0, n0m, ht, np, imp_t, imp_f]
  refine hk.1 _ _ _ rfl (Fn.tp.tr (Fn.up (by omega) ht3)) ((TS.tp (s := sk T n a) h hc).mvo ?_ ?_) (xtn_feast (hX.tp ht3))
  · funext y; rw [up_n (by omega)]
  · funext y; rw [up_n (by omega)]
theorem x_readFilter {v : Nat} (hG : GX Γ) (hA : TnA (shB b) E t) (ht3 : 3 ≤ t) (h : TS T n I a) (hX : XTn I t S) (hV : TnV S) (hv : v < S.1.1)
    (hk : RT T n t I E (if hbW (wcode T n (sk T n a)) < 3 then (match nuS T n (nI 0) (nI 99) (wEnd T n (sk T n a)) with | .error e => .error e | .ok (c, p) => .ok (c, setV S v (5 + hbW (wcode T n (sk T n a))) p)) else .error (1, sk T n a)) kr) : Ex Γ l (shB b) (d + 8) (0, 0) mTn_readFilter [.ref t, .ref 1, .int (nI v)] I E kr kx := by
  refine ex_of (ls0 := [some (.ref t), some (.ref 1), some (.int (nI v)), none, none]) tTn_readFilter (by decide +kernel) kTn_readFilter rfl (Nat.le_of_ble_eq_true rfl) rfl ?_
  intro go hgo
  obtain ⟨ht, hj⟩ := hA
  obtain ⟨r6, t6', l6⟩ := hj 6 (by decide)
  have h9 := hV.1
  have hs := sk_b (t := T) h.1.2.2.2.2.2
  have hwe := rn_b (t := T) (lo := nI 97) (hi := nI 122) hs.2
  refine hgo 20 [] 0 _ _ _ _ _ ?_
  simp only [ixr_of, run_s, run_0, rTn_readFilter, rok_i, rok_z, bx_cons, bx_nil, eADD, eBP, eC0, eC1, eC3, eCV0, eCV2, eCm1, eGR, eIAST, jICne, eLA0, eLA1, eLI2, eLI3, eLI4, eMUL, eRI, eSI3, eSI4, fTn_readFilter_0, fTn_readFilter_10, fTn_readFilter_12, fTn_readFilter_27, fTn_readFilter_29, bTn_readFilter_0, bTn_readFilter_10, bTn_readFilter_12, bTn_readFilter_27, bTn_readFilter_29, Option.toList_some, Option.toList_none, List.cons_append, List.nil_append, List.length_cons, List.length_nil, List.mem_cons, List.not_mem_nil, or_false, false_or, or_true, true_or, ↓reduceIte, true_and, and_true, Nat.reduceEqDiff, Nat.reduceAdd, Nat.reduceLeDiff, Nat.reduceLT, dl_i, dl_r, dl_n, dl_u, eq_self, not_true_eq_false, not_false_eq_true, n10, n01, nm0, n0m, ht, ty_xtape, imp_t, imp_f]
  refine call0 (x_nextHerb hG h.1 (fun w hw3 hw => ?_) (fun hno x hx => ?_))
  rotate_left
  · simp only [ixr_of, run_s, run_0, rTn_readFilter, rok_i, rok_z, bx_cons, bx_nil, eADD, eBP, eC0, eC1, eC3, eCV0, eCV2, eCm1, eGR, eIAST, jICne, eLA0, eLA1, eLI2, eLI3, eLI4, eMUL, eRI, eSI3, eSI4, fTn_readFilter_0, fTn_readFilter_10, fTn_readFilter_12, fTn_readFilter_27, fTn_readFilter_29, bTn_readFilter_0, bTn_readFilter_10, bTn_readFilter_12, bTn_readFilter_27, bTn_readFilter_29, Option.toList_some, Option.toList_none, List.cons_append, List.nil_append, List.length_cons, List.length_nil, List.mem_cons, List.not_mem_nil, or_false, false_or, or_true, true_or, ↓reduceIte, true_and, and_true, Nat.reduceEqDiff, Nat.reduceAdd, Nat.reduceLeDiff, Nat.reduceLT, dl_i, dl_r, dl_n, dl_u, eq_self, not_true_eq_false, not_false_eq_true, n10, n01, nm0, n0m, imp_t, imp_f]
    rw [if_neg hno] at hk
    exact hk.2 _ _ rfl Fn.tf tf_e
  rw [if_pos (by omega), hw] at hk
  have nw := nI_nm (p := w) (by omega)
  simp only [ixr_of, run_s, run_0, rTn_readFilter, rok_i, rok_z, bx_cons, bx_nil, eADD, eBP, eC0, eC1, eC3, eCV0, eCV2, eCm1, eGR, eIAST, jICne, eLA0, eLA1, eLI2, eLI3, eLI4, eMUL, eRI, eSI3, eSI4, fTn_readFilter_0, fTn_readFilter_10, fTn_readFilter_12, fTn_readFilter_27, fTn_readFilter_29, bTn_readFilter_0, bTn_readFilter_10, bTn_readFilter_12, bTn_readFilter_27, bTn_readFilter_29, Option.toList_some, Option.toList_none, List.cons_append, List.nil_append, List.length_cons, List.length_nil, List.mem_cons, List.not_mem_nil, or_false, false_or, or_true, true_or, ↓reduceIte, true_and, and_true, Nat.reduceEqDiff, Nat.reduceAdd, Nat.reduceLeDiff, Nat.reduceLT, dl_i, dl_r, dl_n, dl_u, eq_self, not_true_eq_false, not_false_eq_true, n10, n01, nm0, n0m, ty_xtape, nw, imp_t, imp_f]
  refine call0 (x_numS (h.tp hwe.2) (Or.inl rfl) (by decide) (fun c p hr hp hp2 _ hc => ?_) (fun e x hr hx => ?_))
  rotate_left
  · simp only [ixr_of, run_s, run_0, rTn_readFilter, rok_i, rok_z, bx_cons, bx_nil, eADD, eBP, eC0, eC1, eC3, eCV0, eCV2, eCm1, eGR, eIAST, jICne, eLA0, eLA1, eLI2, eLI3, eLI4, eMUL, eRI, eSI3, eSI4, fTn_readFilter_0, fTn_readFilter_10, fTn_readFilter_12, fTn_readFilter_27, fTn_readFilter_29, bTn_readFilter_0, bTn_readFilter_10, bTn_readFilter_12, bTn_readFilter_27, bTn_readFilter_29, Option.toList_some, Option.toList_none, List.cons_append, List.nil_append, List.length_cons, List.length_nil, List.mem_cons, List.not_mem_nil, or_false, false_or, or_true, true_or, ↓reduceIte, true_and, and_true, Nat.reduceEqDiff, Nat.reduceAdd, Nat.reduceLeDiff, Nat.reduceLT, dl_i, dl_r, dl_n, dl_u, eq_self, not_true_eq_false, not_false_eq_true, n10, n01, nm0, n0m, imp_t, imp_f]
    rw [hr] at hk
    exact hk.2 _ _ rfl (Fn.tp.tr Fn.tf) tf_e
  rw [hr] at hk
  have np := nI_nm (p := p) (by omega)
  simp only [ixr_of, run_s, run_0, rTn_readFilter, rok_i, rok_z, bx_cons, bx_nil, eADD, eBP, eC0, eC1, eC3, eCV0, eCV2, eCm1, eGR, eIAST, jICne, eLA0, eLA1, eLI2, eLI3, eLI4, eMUL, eRI, eSI3, eSI4, fTn_readFilter_0, fTn_readFilter_10, fTn_readFilter_12, fTn_readFilter_27, fTn_readFilter_29, bTn_readFilter_0, bTn_readFilter_10, bTn_readFilter_12, bTn_readFilter_27, bTn_readFilter_29, Option.toList_some, Option.toList_none, List.cons_append, List.nil_append, List.length_cons, List.length_nil, List.mem_cons, List.not_mem_nil, or_false, false_or, or_true, true_or, ↓reduceIte, true_and, and_true, Nat.reduceEqDiff, Nat.reduceAdd, Nat.reduceLeDiff, Nat.reduceLT, dl_i, dl_r, dl_n, dl_u, eq_self, not_true_eq_false, not_false_eq_true, n10, n01, nm0, n0m, ht, r6, t6', l6, np, imp_t, imp_f]
  rw [nI_ml, nI_add]
  refine ixr_n (show v * 3 + w < 27 by omega) ?_
  rw [tp_tp]
  refine hk.1 _ _ _ rfl (Fn.tp.tr (Fn.up (by omega) ht3)) ((TS.tp (s := sk T n (wEnd T n (sk T n a))) h hc).mvo ?_ ?_) (xtn_setF (hX.tp ht3) hv hw3)
  · funext y; rw [up_n (by omega)]
  · funext y; rw [up_n (by omega)]
theorem x_readChannel {v : Nat} (hA : TnA (shB b) E t) (ht3 : 3 ≤ t) (h : TS T n I a) (hX : XTn I t S) (hV : TnV S) (hv : v < S.1.1) (hc20 : S.1.2 < 20)
    (hk : RT T n t I E (match nuS T n (nI 0) (nI S.1.1 - nI 1) a with
    | .error e => .error e
    | .ok (c, u) => match paS T n (nI 1) (pfS S v + S.2.2.1 v 2) c with
      | .error e => .error e
      | .ok (c, p) => .ok (c, addC S v u p)) kr) : Ex Γ l (shB b) (d + 3) (0, 0) mTn_readChannel [.ref t, .ref 1, .int (nI v)] I E kr kx := by
  refine ex_of (ls0 := [some (.ref t), some (.ref 1), some (.int (nI v)), none, none]) tTn_readChannel (by decide +kernel) kTn_readChannel rfl (Nat.le_of_ble_eq_true rfl) rfl ?_
  intro go hgo
  have hA' := hA
  obtain ⟨ht, hj⟩ := hA
  obtain ⟨r7, t7, l7⟩ := hj 7 (by decide)
  obtain ⟨r8, t8, l8⟩ := hj 8 (by decide)
  obtain ⟨r9, t9, l9⟩ := hj 9 (by decide)
  obtain ⟨r5, t5, l5⟩ := hj 5 (by decide)
  have h9 := hV.1
  have hpf := hV.2.2.2.2.2.2.1 v hv
  have hvz : vz S v 2 = S.2.2.1 v 2 := if_pos hv
  refine hgo 20 [] 0 _ _ _ _ _ ?_
  simp only [ixr_of, run_s, run_0, rTn_readChannel, rok_i, rok_z, bx_cons, bx_nil, eADD, eC0, eC1, eCV1, eCV2, eCm1, eDUP2, eDUPr, eGI, eGR, eIALD, eIAST, jICne, eLA0, eLA1, eLI2, eLI3, eLI4, ePI, eRI, eSI3, eSI4, eSUB, fTn_readChannel_0, fTn_readChannel_17, fTn_readChannel_19, fTn_readChannel_37, fTn_readChannel_39, bTn_readChannel_0, bTn_readChannel_17, bTn_readChannel_19, bTn_readChannel_37, bTn_readChannel_39, Option.toList_some, Option.toList_none, List.cons_append, List.nil_append, List.length_cons, List.length_nil, List.mem_cons, List.not_mem_nil, or_false, false_or, or_true, true_or, ↓reduceIte, true_and, and_true, Nat.reduceEqDiff, Nat.reduceAdd, Nat.reduceLeDiff, Nat.reduceLT, dl_i, dl_r, dl_n, dl_u, eq_self, not_true_eq_false, not_false_eq_true, n10, n01, nm0, n0m, ht, ty_xtape, hX.1, imp_t, imp_f]
  refine call0 (x_numS h (Or.inl rfl) (Int32.le_trans (show nI S.1.1 - nI 1 ≤ nI 8 by rw [nI_sb (by omega)]; exact nI_le (by omega) (by decide)) (by decide)) (fun c u hr hp hp2 _ hc => ?_) (fun e x hr hx => ?_))
  rotate_left
  · simp only [ixr_of, run_s, run_0, rTn_readChannel, rok_i, rok_z, bx_cons, bx_nil, eADD, eC0, eC1, eCV1, eCV2, eCm1, eDUP2, eDUPr, eGI, eGR, eIALD, eIAST, jICne, eLA0, eLA1, eLI2, eLI3, eLI4, ePI, eRI, eSI3, eSI4, eSUB, fTn_readChannel_0, fTn_readChannel_17, fTn_readChannel_19, fTn_readChannel_37, fTn_readChannel_39, bTn_readChannel_0, bTn_readChannel_17, bTn_readChannel_19, bTn_readChannel_37, bTn_readChannel_39, Option.toList_some, Option.toList_none, List.cons_append, List.nil_append, List.length_cons, List.length_nil, List.mem_cons, List.not_mem_nil, or_false, false_or, or_true, true_or, ↓reduceIte, true_and, and_true, Nat.reduceEqDiff, Nat.reduceAdd, Nat.reduceLeDiff, Nat.reduceLT, dl_i, dl_r, dl_n, dl_u, eq_self, not_true_eq_false, not_false_eq_true, n10, n01, nm0, n0m, imp_t, imp_f]
    rw [hr] at hk
    exact hk.2 _ _ rfl Fn.tf tf_e
  rw [hr] at hk
  have nu := nI_nm (p := u) (by omega)
  simp only [ixr_of, run_s, run_0, rTn_readChannel, rok_i, rok_z, bx_cons, bx_nil, eADD, eC0, eC1, eCV1, eCV2, eCm1, eDUP2, eDUPr, eGI, eGR, eIALD, eIAST, jICne, eLA0, eLA1, eLI2, eLI3, eLI4, ePI, eRI, eSI3, eSI4, eSUB, fTn_readChannel_0, fTn_readChannel_17, fTn_readChannel_19, fTn_readChannel_37, fTn_readChannel_39, bTn_readChannel_0, bTn_readChannel_17, bTn_readChannel_19, bTn_readChannel_37, bTn_readChannel_39, Option.toList_some, Option.toList_none, List.cons_append, List.nil_append, List.length_cons, List.length_nil, List.mem_cons, List.not_mem_nil, or_false, false_or, or_true, true_or, ↓reduceIte, true_and, and_true, Nat.reduceEqDiff, Nat.reduceAdd, Nat.reduceLeDiff, Nat.reduceLT, dl_i, dl_r, dl_n, dl_u, eq_self, not_true_eq_false, not_false_eq_true, n10, n01, nm0, n0m, ht, ty_xtape, nu, imp_t, imp_f]
  refine call0 (x_partsLeft hA' (hX.tp ht3) (by omega) (by rw [hvz]; exact hpf) ?_)
  simp only [ixr_of, run_s, run_0, rTn_readChannel, rok_i, rok_z, bx_cons, bx_nil, eADD, eC0, eC1, eCV1, eCV2, eCm1, eDUP2, eDUPr, eGI, eGR, eIALD, eIAST, jICne, eLA0, eLA1, eLI2, eLI3, eLI4, ePI, eRI, eSI3, eSI4, eSUB, fTn_readChannel_0, fTn_readChannel_17, fTn_readChannel_19, fTn_readChannel_37, fTn_readChannel_39, bTn_readChannel_0, bTn_readChannel_17, bTn_readChannel_19, bTn_readChannel_37, bTn_readChannel_39, Option.toList_some, Option.toList_none, List.cons_append, List.nil_append, List.length_cons, List.length_nil, List.mem_cons, List.not_mem_nil, or_false, false_or, or_true, true_or, ↓reduceIte, true_and, and_true, Nat.reduceEqDiff, Nat.reduceAdd, Nat.reduceLeDiff, Nat.reduceLT, dl_i, dl_r, dl_n, dl_u, eq_self, not_true_eq_false, not_false_eq_true, n10, n01, nm0, n0m, ty_xtape, imp_t, imp_f]
  rw [hvz]
  have hk := hk
  simp only [] at hk
  rw [paS_x (Or.inr rfl) hpf] at hk
  refine call0 (x_numS (h.tp hc) (Or.inr rfl) (nI_le (by omega) (by decide)) (fun c2 p hr2 hp' hp2' _ hc2 => ?_) (fun e x hr2 hx => ?_))
  rotate_left
  · simp only [ixr_of, run_s, run_0, rTn_readChannel, rok_i, rok_z, bx_cons, bx_nil, eADD, eC0, eC1, eCV1, eCV2, eCm1, eDUP2, eDUPr, eGI, eGR, eIALD, eIAST, jICne, eLA0, eLA1, eLI2, eLI3, eLI4, ePI, eRI, eSI3, eSI4, eSUB, fTn_readChannel_0, fTn_readChannel_17, fTn_readChannel_19, fTn_readChannel_37, fTn_readChannel_39, bTn_readChannel_0, bTn_readChannel_17, bTn_readChannel_19, bTn_readChannel_37, bTn_readChannel_39, Option.toList_some, Option.toList_none, List.cons_append, List.nil_append, List.length_cons, List.length_nil, List.mem_cons, List.not_mem_nil, or_false, false_or, or_true, true_or, ↓reduceIte, true_and, and_true, Nat.reduceEqDiff, Nat.reduceAdd, Nat.reduceLeDiff, Nat.reduceLT, dl_i, dl_r, dl_n, dl_u, eq_self, not_true_eq_false, not_false_eq_true, n10, n01, nm0, n0m, imp_t, imp_f]
    rw [hr2] at hk
    exact hk.2 _ _ rfl (Fn.tp.tr Fn.tf) tf_e
  rw [hr2] at hk
  rw [tp_tp]
  have np := nI_nm (p := p) (by omega)
  obtain ⟨J0, hJ0⟩ : ∃ J0, J0 = tp I c2 (sk T n c) := ⟨_, rfl⟩
  have hX0 : XTn J0 t S := by rw [hJ0]; exact hX.tp ht3
  rw [← hJ0]
  have e1 : J0 t 11 = nI S.1.2 := hX0.2.1
  have e2 : ∀ x, up J0 (t + 1 + 7) S.1.2 x t 11 = nI S.1.2 := fun x => by rw [up_n (by omega), e1]
  have e3 : ∀ x y, up (up J0 (t + 1 + 7) S.1.2 x) (t + 1 + 8) S.1.2 y t 11 = nI S.1.2 := fun x y => by rw [up_n (by omega), e2]
  have e4 : ∀ x y z, up (up (up J0 (t + 1 + 7) S.1.2 x) (t + 1 + 8) S.1.2 y) (t + 1 + 9) S.1.2 z t 11 = nI S.1.2 := fun x y z => by rw [up_n (by omega), e3]
  have l7 : len (shB b) E (t + 1 + 7) = 20 := l7
  have l8 : len (shB b) E (t + 1 + 8) = 20 := l8
  have l9 : len (shB b) E (t + 1 + 9) = 20 := l9
  have l5 : len (shB b) E (t + 1 + 5) = 9 := l5
  have v9 : v < 9 := by omega
  have e5 : up (up (up (up J0 (t + 1 + 7) S.1.2 (nI v)) (t + 1 + 8) S.1.2 (nI u)) (t + 1 + 9) S.1.2 (nI p)) t 11 (nI (S.1.2 + 1)) (t + 1 + 5) v = nI (pfS S v) := by
    rw [up_n (by omega), up_n (by omega), up_n (by omega), up_n (by omega)]
    exact (hX0.2.2.2.2.2.2.1 v (by omega)).2.2.2.2.1
  simp only [ixr_of, run_s, run_0, rTn_readChannel, rok_i, rok_z, bx_cons, bx_nil, eADD, eC0, eC1, eCV1, eCV2, eCm1, eDUP2, eDUPr, eGI, eGR, eIALD, eIAST, jICne, eLA0, eLA1, eLI2, eLI3, eLI4, ePI, eRI, eSI3, eSI4, eSUB, fTn_readChannel_0, fTn_readChannel_17, fTn_readChannel_19, fTn_readChannel_37, fTn_readChannel_39, bTn_readChannel_0, bTn_readChannel_17, bTn_readChannel_19, bTn_readChannel_37, bTn_readChannel_39, Option.toList_some, Option.toList_none, List.cons_append, List.nil_append, List.length_cons, List.length_nil, List.mem_cons, List.not_mem_nil, or_false, false_or, or_true, true_or, ↓reduceIte, true_and, and_true, Nat.reduceEqDiff, Nat.reduceAdd, Nat.reduceLeDiff, Nat.reduceLT, dl_i, dl_r, dl_n, dl_u, eq_self, not_true_eq_false, not_false_eq_true, n10, n01, nm0, n0m, ht, np, e1, r7, t7, l7, r8, t8, l8, r9, t9, l9, r5, t5, l5, hc20, v9, e2, e3, e4, nI_add, e5, imp_t, imp_f]
  refine hk.1 _ _ _ rfl ?_ (TS.mvo (I := J0) (by rw [hJ0]; exact h.tp hc2) ?_ ?_) (xtn_addC hX0)
  · rw [hJ0]
    exact ((((Fn.tp.tr (Fn.up (by omega) ht3)).tr (Fn.up (by omega) ht3)).tr (Fn.up (by omega) ht3)).tr (Fn.up (by omega) ht3)).tr (Fn.up (by omega) ht3)
  · funext y; rw [up_n (by omega), up_n (by omega), up_n (by omega), up_n (by omega), up_n (by omega)]
  · funext y; rw [up_n (by omega), up_n (by omega), up_n (by omega), up_n (by omega), up_n (by omega)]
end XTnR2
