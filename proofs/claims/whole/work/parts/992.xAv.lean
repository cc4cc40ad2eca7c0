/-! contracts of the class, 31: the aqueduct: what a village sees -/
def loI (J : Iv) (a b c w : Int32) : Iv := up (up (up (up J 19 0 a) 19 1 b) 19 2 c) 19 3 w
def loA (J : Iv) (e p s : Int32) : Iv := up (up (up J 19 4 e) 19 5 p) 19 6 s
section XAv
variable {Γ : Gm} {l : Launch} {b : Bool} {d : Nat} {J : Iv} {E : Ev} {kr : Kr} {kx : Kxx} {y t : Nat} {S : Tn}
theorem x_lookInto {m r s w : Int32} (hG : GX Γ) (hk : kr none (loI J m r s w) E) : Ex Γ l (shB b) (d + 1) (0, 0) mAq_lookInto [.ref 3, .int m, .int r, .int s, .int w] J E kr kx := by
  refine ex_of (ls0 := [some (.ref 3), some (.int m), some (.int r), some (.int s), some (.int w)]) tAq_lookInto (by decide +kernel) kAq_lookInto rfl (Nat.le_of_ble_eq_true rfl) rfl ?_
  intro go hgo
  have hG1 := hG.1
  have w0 : wak 0 = nI 0 := rfl
  have w1 : wak 1 = nI 1 := rfl
  have w2 : wak 2 = nI 2 := rfl
  have w3 : wak 3 = nI 3 := rfl
  refine hgo 20 [] 0 _ _ _ _ _ ?_
  simp only [ixr_of, run_s, run_0, rAq_lookInto, rok_i, rok_z, bx_cons, bx_nil, eGR, eGS, eGW, eIAST, eLA0, eLI1, eLI2, eLI3, eLI4, eRV, fAq_lookInto_0, bAq_lookInto_0, ln_xaqueduct_change, ln_xaqueduct_decided, ln_xaqueduct_fresh, ln_xaqueduct_sight, ln_xopinions, rg_xaqueduct_1, rg_xaqueduct_2, rg_xaqueduct_3, rg_xaqueduct_4, rg_xaqueduct_5, ty_xaqueduct, ty_xaqueduct_change, ty_xaqueduct_decided, ty_xaqueduct_fresh, ty_xaqueduct_sight, ty_xopinions, Option.toList_some, Option.toList_none, List.cons_append, List.nil_append, List.length_cons, List.length_nil, List.mem_cons, List.not_mem_nil, or_false, false_or, or_true, true_or, ↓reduceIte, true_and, and_true, Nat.reduceEqDiff, Nat.reduceAdd, Nat.reduceLeDiff, Nat.reduceLT, dl_i, dl_r, dl_n, dl_u, eq_self, not_true_eq_false, not_false_eq_true, n10, n01, nm0, n0m, hG1, (gwE hG), w0, w1, w2, w3, wfv0, wfv1, wfv2, imp_t, imp_f]
  exact hk
theorem x_lookAround {v : Nat} {e p : Int32} (hG : GX Γ) (r3 : rget (shB b) E 3 0 = .ref t) (hT : TnA (shB b) E t) (ht3 : t + 10 < 16 ∨ 20 ≤ t) (hv : v < 9) (hk : kr none (loA J e p (J (t + 2) v)) E) : Ex Γ l (shB b) (d + 1) (0, 0) mAq_lookAround [.ref 3, .int (nI v), .int e, .int p] J E kr kx := by
  refine ex_of (ls0 := [some (.ref 3), some (.int (nI v)), some (.int e), some (.int p)]) tAq_lookAround (by decide +kernel) kAq_lookAround rfl (Nat.le_of_ble_eq_true rfl) rfl ?_
  intro go hgo
  have hG1 := hG.1
  obtain ⟨ty, tn⟩ := hT
  have g1 : rget (shB b) E t 1 = .ref (t + 2) := (tn 1 (by decide)).1
  have a1 : tyc (shB b) E (t + 2) = 101 := (tn 1 (by decide)).2.1
  have n1 : len (shB b) E (t + 2) = 9 := (tn 1 (by decide)).2.2
  have w4 : wak 4 = nI 4 := rfl
  have w5 : wak 5 = nI 5 := rfl
  have w6 : wak 6 = nI 6 := rfl
  have ut : ∀ (I : Iv) (k : Nat) (x : Int32), up I 19 k x (t + 2) v = I (t + 2) v := fun I k x => up_n (by omega)
  refine hgo 20 [] 0 _ _ _ _ _ ?_
  simp only [ixr_of, run_s, run_0, rAq_lookAround, rok_i, rok_z, bx_cons, bx_nil, eGR, eGS, eGW, eIALD, eIAST, eLA0, eLI1, eLI2, eLI3, eRV, fAq_lookAround_0, bAq_lookAround_0, ln_xaqueduct_change, ln_xaqueduct_decided, ln_xaqueduct_fresh, ln_xaqueduct_sight, ln_xopinions, rg_xaqueduct_1, rg_xaqueduct_2, rg_xaqueduct_3, rg_xaqueduct_4, rg_xaqueduct_5, ty_xaqueduct, ty_xaqueduct_change, ty_xaqueduct_decided, ty_xaqueduct_fresh, ty_xaqueduct_sight, ty_xopinions, Option.toList_some, Option.toList_none, List.cons_append, List.nil_append, List.length_cons, List.length_nil, List.mem_cons, List.not_mem_nil, or_false, false_or, or_true, true_or, ↓reduceIte, true_and, and_true, Nat.reduceEqDiff, Nat.reduceAdd, Nat.reduceLeDiff, Nat.reduceLT, dl_i, dl_r, dl_n, dl_u, eq_self, not_true_eq_false, not_false_eq_true, n10, n01, nm0, n0m, hG1, (gwE hG), w4, w5, w6, r3, ty, g1, a1, n1, hv, ut, wfv0, wfv1, wfv2, imp_t, imp_f]
  exact hk
theorem x_contraryTo {sh : Sh} {h : Nat} (hh : h < 3) (hk : kr (some (.int (nI (hbF true h)))) J E) : Ex Γ l sh (d + 1) (0, 0) mAq_contraryTo [.int (nI h)] J E kr kx := by
  refine ex_of (ls0 := [some (.int (nI h))]) tAq_contraryTo (by decide +kernel) kAq_contraryTo rfl (Nat.le_of_ble_eq_true rfl) rfl ?_
  intro go hgo
  refine hgo 20 [] 0 _ _ _ _ _ ?_
  simp only [ixr_of, run_s, run_0, rAq_contraryTo, rok_i, rok_z, bx_cons, bx_nil, eC0, eC1, eGO, jICne, jIFne, eLI0, eRI, fAq_contraryTo_0, fAq_contraryTo_4, fAq_contraryTo_8, fAq_contraryTo_13, fAq_contraryTo_17, fAq_contraryTo_18, bAq_contraryTo_0, bAq_contraryTo_4, bAq_contraryTo_8, bAq_contraryTo_13, bAq_contraryTo_17, bAq_contraryTo_18, ln_xaqueduct_change, ln_xaqueduct_decided, ln_xaqueduct_fresh, ln_xaqueduct_sight, ln_xopinions, rg_xaqueduct_1, rg_xaqueduct_2, rg_xaqueduct_3, rg_xaqueduct_4, rg_xaqueduct_5, ty_xaqueduct, ty_xaqueduct_change, ty_xaqueduct_decided, ty_xaqueduct_fresh, ty_xaqueduct_sight, ty_xopinions, Option.toList_some, Option.toList_none, List.cons_append, List.nil_append, List.length_cons, List.length_nil, List.mem_cons, List.not_mem_nil, or_false, false_or, or_true, true_or, ↓reduceIte, true_and, and_true, Nat.reduceEqDiff, Nat.reduceAdd, Nat.reduceLeDiff, Nat.reduceLT, dl_i, dl_r, dl_n, dl_u, eq_self, not_true_eq_false, not_false_eq_true, n10, n01, nm0, n0m, imp_t, imp_f]
  rcases (show h = 0 ∨ h = 1 ∨ h = 2 by omega) with rfl | rfl | rfl
  · exact ⟨fun z => absurd rfl z, fun _ => hk⟩
  · exact ⟨fun _ => ⟨fun z => absurd rfl z, fun _ => hk⟩, fun z => absurd z (by decide)⟩
  · exact ⟨fun _ => ⟨fun _ => hk, fun z => absurd z (by decide)⟩, fun z => absurd z (by decide)⟩
end XAv
