/-! contracts of HerbWatersModel, 31: towns, 1 -/
def tvI : Option Nat → Int32
  | none => -1
  | some v => nI v
def TRt (I : Iv) (S : Tn) : Prop := I 500003 0 = nI S.1.1 ∧ I 500003 1 = nI S.1.2 ∧ I 500003 2 = tvI S.2.1.1 ∧ I 500003 3 = nI S.2.1.2.1 ∧ I 500003 4 = nI S.2.1.2.2 ∧ (∀ v i, v < S.1.1 → i < 8 → I (500006 + v) i = nI (S.2.2.1 v i)) ∧ ∀ c i, c < S.1.2 → i < 3 → I (500026 + c) i = nI (S.2.2.2 c i)
def Ft (I J : Iv) : Prop := (∀ i, i ≠ 500000 → i ≠ 500003 → ¬ (500006 ≤ i ∧ i < 500015) → ¬ (500026 ≤ i ∧ i < 500046) → J i = I i) ∧ ∀ j, j ≠ 4 → j ≠ 5 → j ≠ 6 → J 500000 j = I 500000 j
theorem Ft.rf {I : Iv} : Ft I I := ⟨fun _ _ _ _ _ => rfl, fun _ _ _ _ => rfl⟩
theorem Ft.tr {I J K : Iv} (h : Ft I J) (h2 : Ft J K) : Ft I K := ⟨fun i a b c d => (h2.1 i a b c d).trans (h.1 i a b c d), fun j a b c => (h2.2 j a b c).trans (h.2 j a b c)⟩
theorem Fq.ft {I J : Iv} (h : Fq I J) : Ft I J := ⟨fun i a _ _ _ => h.1 i a, fun j a b c => h.2 j a b c⟩
theorem Ft.el {I : Iv} {a k : Nat} {x : Int32} (h : a = 500003 ∨ (500006 ≤ a ∧ a < 500015) ∨ (500026 ≤ a ∧ a < 500046)) : Ft I (up I a k x) := ⟨fun i a1 a2 a3 a4 => by funext q; exact up_n (by omega), fun j _ _ _ => up_n (by omega)⟩
/-- and the count of clauses -/
def Fc (I J : Iv) : Prop := (∀ i, i ≠ 500000 → i ≠ 500003 → ¬ (500006 ≤ i ∧ i < 500015) → ¬ (500026 ≤ i ∧ i < 500046) → J i = I i) ∧ ∀ j, j ≠ 4 → j ≠ 5 → j ≠ 6 → j ≠ 7 → J 500000 j = I 500000 j
theorem Fc.rf {I : Iv} : Fc I I := ⟨fun _ _ _ _ _ => rfl, fun _ _ _ _ _ => rfl⟩
theorem Fc.tr {I J K : Iv} (h : Fc I J) (h2 : Fc J K) : Fc I K := ⟨fun i a b c d => (h2.1 i a b c d).trans (h.1 i a b c d), fun j a b c d => (h2.2 j a b c d).trans (h.2 j a b c d)⟩
theorem Ft.fc {I J : Iv} (h : Ft I J) : Fc I J := ⟨h.1, fun j a b c _ => h.2 j a b c⟩
theorem Fc.fl {I : Iv} {x : Int32} : Fc I (up I 500000 7 x) := ⟨fun i a _ _ _ => by funext q; exact up_n (by omega), fun j _ _ _ d => up_n (by omega)⟩
theorem TRt.fq {I J : Iv} {S : Tn} (h : TRt I S) (hV : TnV S) (hF : Fq I J) : TRt J S := by
  obtain ⟨h1, h2, h3, h4, h5, h6, h7⟩ := h
  have h9 := hV.1
  have h20 := hV.2.1
  refine ⟨by rw [hF.1 _ (by decide), h1], by rw [hF.1 _ (by decide), h2], by rw [hF.1 _ (by decide), h3], by rw [hF.1 _ (by decide), h4], by rw [hF.1 _ (by decide), h5], fun v i hv hi => ?_, fun c i hc hi => ?_⟩
  · rw [hF.1 _ (by omega)]; exact h6 v i hv hi
  · rw [hF.1 _ (by omega)]; exact h7 c i hc hi
theorem RSt.el {T : Nat → Int32} {n : Nat} {I : Iv} {a b k : Nat} {x : Int32} (h : RSt T n I a) (hb : b ≠ 500000 ∧ b ≠ 500001) : RSt T n (up I b k x) a := h.mv (by funext q; exact up_n (by omega)) (fun j _ => up_n (by omega))
theorem OEr.el {n : Nat} {I : Iv} {e : Nat × Nat} {b k : Nat} {x : Int32} (h : OEr n I e) (hb : b ≠ 500000) : OEr n (up I b k x) e := h.mv (fun j _ => up_n (by omega))
section CM33
variable {Γ : Gm} {l : Launch} {d : Nat} {I : Iv} {E : Ev} {kr : Kr} {kx : Kxx} {T : Nat → Int32} {n a : Nat} {S : Tn}
theorem tvI_eq {o : Option Nat} {v : Nat} (hv : v < 9) (ho : ∀ w, o = some w → w < 9) : tvI o = nI v ↔ o = some v := by
  cases o with
  | none => exact ⟨fun c => absurd c (nIm v hv), fun c => by cases c⟩
  | some w =>
    have := ho w rfl
    show nI w = nI v ↔ _
    rw [nIe (by omega) (by omega)]
    exact ⟨fun c => by rw [c], fun c => by cases c; rfl⟩
theorem c_partsFrom {v : Nat} (hR : TRt I S) (hV : TnV S) (hv : v < 9) (hk : kr (some (.int (nI (pfS S v)))) I E) : Ex Γ l shN (d + 1) (0, 0) mM_partsFrom [.ref 500000, .int (nI v)] I E kr kx := by
  obtain ⟨h1, h2, h3, h4, h5, h6, h7⟩ := hR
  obtain ⟨v1, v2, v3, v4, v5, v6, v7, v8⟩ := hV
  refine ex_of (ls0 := [some (.ref 500000), some (.int (nI v)), none, none]) tM_partsFrom (by decide +kernel) kM_partsFrom rfl (Nat.le_of_ble_eq_true rfl) rfl ?_
  intro go hgo
  have loop : ∀ (g c : Nat), g + c = S.1.2 → go 23 [some (.ref 500000), some (.int (nI v)), some (.int (nI (pfC S v c))), some (.int (nI c))] [] I E (0, 0) := by
    intro g
    induction g with
    | zero =>
      intro c hc
      have : c = S.1.2 := by omega
      subst this
      refine hgo 20 [23] 23 _ _ _ _ _ ?_
      simp only [ixr_of, run_s, run_0, rM_partsFrom, rok_i, rok_z, bx_cons, bx_nil, eAALD107, eADD, eC0, eC1, eC2, eC3, eGO, eGR, eIALD, jICge, jICne, eINC3, eLA0, eLI1, eLI2, eLI3, eRI, eSI2, eSI3, fM_partsFrom_0, fM_partsFrom_10, fM_partsFrom_19, fM_partsFrom_20, fM_partsFrom_23, fM_partsFrom_33, fM_partsFrom_46, fM_partsFrom_57, fM_partsFrom_58, fM_partsFrom_66, bM_partsFrom_0, bM_partsFrom_10, bM_partsFrom_19, bM_partsFrom_20, bM_partsFrom_23, bM_partsFrom_33, bM_partsFrom_46, bM_partsFrom_57, bM_partsFrom_58, bM_partsFrom_66, ln_mreadChannel, ln_mreadTold, rg_m_11, rg_m_15, ty_m, ty_mreadChannel, ty_mreadTold, Option.toList_some, Option.toList_none, List.cons_append, List.nil_append, List.length_cons, List.length_nil, List.mem_cons, List.not_mem_nil, or_false, false_or, or_true, true_or, ↓reduceIte, true_and, and_true, Nat.reduceEqDiff, Nat.reduceAdd, Nat.reduceLeDiff, Nat.reduceLT, dl_i, dl_r, dl_n, dl_u, eq_self, not_true_eq_false, not_false_eq_true, n10, n01, nm0, n0m, h2, imp_t, imp_f]
      exact ⟨fun _ => hk, fun q => absurd (Int32.le_refl _) q⟩
    | succ g ih =>
      intro c hc
      have hc20 : c < 20 := by omega
      have i0 := h7 c 0 (by omega) (by omega)
      have i2 := h7 c 2 (by omega) (by omega)
      have b0 := v6 c (by omega)
      have ih' := ih (c + 1) (by omega)
      unfold pfC at ih'
      refine hgo 20 [23] 23 _ _ _ _ _ ?_
      simp only [ixr_of, run_s, run_0, rM_partsFrom, rok_i, rok_z, bx_cons, bx_nil, eAALD107, eADD, eC0, eC1, eC2, eC3, eGO, eGR, eIALD, jICge, jICne, eINC3, eLA0, eLI1, eLI2, eLI3, eRI, eSI2, eSI3, fM_partsFrom_0, fM_partsFrom_10, fM_partsFrom_19, fM_partsFrom_20, fM_partsFrom_23, fM_partsFrom_33, fM_partsFrom_46, fM_partsFrom_57, fM_partsFrom_58, fM_partsFrom_66, bM_partsFrom_0, bM_partsFrom_10, bM_partsFrom_19, bM_partsFrom_20, bM_partsFrom_23, bM_partsFrom_33, bM_partsFrom_46, bM_partsFrom_57, bM_partsFrom_58, bM_partsFrom_66, ln_mreadChannel, ln_mreadTold, rg_m_11, rg_m_15, ty_m, ty_mreadChannel, ty_mreadTold, Option.toList_some, Option.toList_none, List.cons_append, List.nil_append, List.length_cons, List.length_nil, List.mem_cons, List.not_mem_nil, or_false, false_or, or_true, true_or, ↓reduceIte, true_and, and_true, Nat.reduceEqDiff, Nat.reduceAdd, Nat.reduceLeDiff, Nat.reduceLT, dl_i, dl_r, dl_n, dl_u, eq_self, not_true_eq_false, not_false_eq_true, n10, n01, nm0, n0m, h2, hc20, rg_mreadChannel hc20, tr_mreadChannel hc20, lr_mreadChannel hc20, nI_add, i0, i2, imp_t, imp_f]
      rw [nI_leI (by omega) (by omega), nIe (by omega) (by omega)]
      refine ⟨fun q => absurd q (by omega), fun _ => ⟨fun q => ?_, fun q => ?_⟩⟩
      · rw [if_neg q] at ih'; exact ih'
      · rw [if_pos q] at ih'; exact ih'
  refine hgo 20 [23] 0 _ _ _ _ _ ?_
  simp only [ixr_of, run_s, run_0, rM_partsFrom, rok_i, rok_z, bx_cons, bx_nil, eAALD107, eADD, eC0, eC1, eC2, eC3, eGO, eGR, eIALD, jICge, jICne, eINC3, eLA0, eLI1, eLI2, eLI3, eRI, eSI2, eSI3, fM_partsFrom_0, fM_partsFrom_10, fM_partsFrom_19, fM_partsFrom_20, fM_partsFrom_23, fM_partsFrom_33, fM_partsFrom_46, fM_partsFrom_57, fM_partsFrom_58, fM_partsFrom_66, bM_partsFrom_0, bM_partsFrom_10, bM_partsFrom_19, bM_partsFrom_20, bM_partsFrom_23, bM_partsFrom_33, bM_partsFrom_46, bM_partsFrom_57, bM_partsFrom_58, bM_partsFrom_66, ln_mreadChannel, ln_mreadTold, rg_m_11, rg_m_15, ty_m, ty_mreadChannel, ty_mreadTold, Option.toList_some, Option.toList_none, List.cons_append, List.nil_append, List.length_cons, List.length_nil, List.mem_cons, List.not_mem_nil, or_false, false_or, or_true, true_or, ↓reduceIte, true_and, and_true, Nat.reduceEqDiff, Nat.reduceAdd, Nat.reduceLeDiff, Nat.reduceLT, dl_i, dl_r, dl_n, dl_u, eq_self, not_true_eq_false, not_false_eq_true, n10, n01, nm0, n0m, h3, h4, imp_t, imp_f]
  rw [tvI_eq hv (fun w hw => by have := v3 w hw; omega)]
  have l0 := loop S.1.2 0 (by omega)
  unfold pfC at l0
  refine ⟨fun q => ?_, fun q => ?_⟩
  · rw [if_neg q] at l0; exact l0
  · rw [if_pos q] at l0; exact l0
theorem c_partsHere {lo : Int32} {gone : Nat} (hlo : lo = nI 0 ∨ lo = nI 1) (hT : Tx T n) (hR : RSt T n I a) (hg : gone ≤ 8) (ho : ∀ b p J, paS T n lo gone a = .ok (b, p) → Fq I J → RSt T n J b → kr (some (.int (nI p))) J E) (he : ∀ e x J, paS T n lo gone a = .error e → Fq I J → OEr n J e → kr (some (.int x)) J E) : Ex Γ l shN (d + 4) (0, 0) mM_partsHere [.ref 500000, .int lo, .int (nI gone)] I E kr kx := by
  have hf : I 500000 5 = nI 0 := hR.2.2.2.2.2
  have ha : a ≤ n := hR.2.2.2.2.1
  have hs := sk_b (t := T) ha
  have hnm := nm_sk (T := T) (lo := lo) (hi := nI 8) ha
  refine ex_of (ls0 := [some (.ref 500000), some (.int lo), some (.int (nI gone)), none, none]) tM_partsHere (by decide +kernel) kM_partsHere rfl (Nat.le_of_ble_eq_true rfl) rfl ?_
  intro go hgo
  refine hgo 20 [49] 0 _ _ _ _ _ ?_
  simp only [ixr_of, run_s, run_0, rM_partsHere, rok_i, rok_z, bx_cons, bx_nil, eADD, eBP, eC0, eC2, eCV0, eCV2, eGI, jICle, jIFeq, jIFne, eLA0, eLI1, eLI2, eLI3, eLI4, eRI, eSI3, eSI4, fM_partsHere_0, fM_partsHere_7, fM_partsHere_9, fM_partsHere_34, fM_partsHere_43, fM_partsHere_49, bM_partsHere_0, bM_partsHere_7, bM_partsHere_9, bM_partsHere_34, bM_partsHere_43, bM_partsHere_49, ty_m, Option.toList_some, Option.toList_none, List.cons_append, List.nil_append, List.length_cons, List.length_nil, List.mem_cons, List.not_mem_nil, or_false, false_or, or_true, true_or, ↓reduceIte, true_and, and_true, Nat.reduceEqDiff, Nat.reduceAdd, Nat.reduceLeDiff, Nat.reduceLT, dl_i, dl_r, dl_n, dl_u, eq_self, not_true_eq_false, not_false_eq_true, n10, n01, nm0, n0m, hf, imp_t, imp_f]
  refine call0 (r_blanks hR ?_)
  intro J hJ hRJ
  have hFJ : Fq I J := by rw [hJ]; exact Fq.fl (by decide)
  simp only [ixr_of, run_s, run_0, rM_partsHere, rok_i, rok_z, bx_cons, bx_nil, eADD, eBP, eC0, eC2, eCV0, eCV2, eGI, jICle, jIFeq, jIFne, eLA0, eLI1, eLI2, eLI3, eLI4, eRI, eSI3, eSI4, fM_partsHere_0, fM_partsHere_7, fM_partsHere_9, fM_partsHere_34, fM_partsHere_43, fM_partsHere_49, bM_partsHere_0, bM_partsHere_7, bM_partsHere_9, bM_partsHere_34, bM_partsHere_43, bM_partsHere_49, ty_m, Option.toList_some, Option.toList_none, List.cons_append, List.nil_append, List.length_cons, List.length_nil, List.mem_cons, List.not_mem_nil, or_false, false_or, or_true, true_or, ↓reduceIte, true_and, and_true, Nat.reduceEqDiff, Nat.reduceAdd, Nat.reduceLeDiff, Nat.reduceLT, dl_i, dl_r, dl_n, dl_u, eq_self, not_true_eq_false, not_false_eq_true, n10, n01, nm0, n0m, imp_t, imp_f]
  rw [hRJ.atq]
  have at49 : ∀ (x : Int32) (K : Iv), kr (some (.int x)) K E → go 49 [some (.ref 500000), some (.int lo), some (.int (nI gone)), some (.int (nI (sk T n a))), some (.int x)] [] K E (0, 0) := by
    intro x K hk
    refine hgo 20 [] 49 _ _ _ _ _ ?_
    simp only [ixr_of, run_s, run_0, rM_partsHere, rok_i, rok_z, bx_cons, bx_nil, eADD, eBP, eC0, eC2, eCV0, eCV2, eGI, jICle, jIFeq, jIFne, eLA0, eLI1, eLI2, eLI3, eLI4, eRI, eSI3, eSI4, fM_partsHere_0, fM_partsHere_7, fM_partsHere_9, fM_partsHere_34, fM_partsHere_43, fM_partsHere_49, bM_partsHere_0, bM_partsHere_7, bM_partsHere_9, bM_partsHere_34, bM_partsHere_43, bM_partsHere_49, ty_m, Option.toList_some, Option.toList_none, List.cons_append, List.nil_append, List.length_cons, List.length_nil, List.mem_cons, List.not_mem_nil, or_false, false_or, or_true, true_or, ↓reduceIte, true_and, and_true, Nat.reduceEqDiff, Nat.reduceAdd, Nat.reduceLeDiff, Nat.reduceLT, dl_i, dl_r, dl_n, dl_u, eq_self, not_true_eq_false, not_false_eq_true, n10, n01, nm0, n0m, imp_t, imp_f]
    exact hk
  refine call0 (r_number hT hRJ (fun hn0 K hK hRK => ?_) (fun hn0 K hK hE => ?_))
  · rw [hnm.1] at hn0
    rw [hnm.2.1] at hRK
    rw [hnm.2.2]
    have hnu : nuS T n lo (nI 8) a = .ok (nmE T n a, (nmV T n a).toNatClampNeg) := by unfold nuS; rw [if_pos hn0]
    have g := nuS_ok hT ha (by omega) hlo hnu
    have hfK : K 500000 5 = nI 0 := hRK.2.2.2.2.2
    obtain ⟨p, hp⟩ : ∃ p, p = (nmV T n a).toNatClampNeg := ⟨_, rfl⟩
    rw [← hp] at hnu g
    rw [g.2.2.2.1]
    simp only [ixr_of, run_s, run_0, rM_partsHere, rok_i, rok_z, bx_cons, bx_nil, eADD, eBP, eC0, eC2, eCV0, eCV2, eGI, jICle, jIFeq, jIFne, eLA0, eLI1, eLI2, eLI3, eLI4, eRI, eSI3, eSI4, fM_partsHere_0, fM_partsHere_7, fM_partsHere_9, fM_partsHere_34, fM_partsHere_43, fM_partsHere_49, bM_partsHere_0, bM_partsHere_7, bM_partsHere_9, bM_partsHere_34, bM_partsHere_43, bM_partsHere_49, ty_m, Option.toList_some, Option.toList_none, List.cons_append, List.nil_append, List.length_cons, List.length_nil, List.mem_cons, List.not_mem_nil, or_false, false_or, or_true, true_or, ↓reduceIte, true_and, and_true, Nat.reduceEqDiff, Nat.reduceAdd, Nat.reduceLeDiff, Nat.reduceLT, dl_i, dl_r, dl_n, dl_u, eq_self, not_true_eq_false, not_false_eq_true, n10, n01, nm0, n0m, hfK, nI_add, imp_t, imp_f]
    rw [nI_leI (by omega) (by omega)]
    refine ⟨fun q => at49 _ K (ho _ p K ?_ (hFJ.tr hK) hRK), fun q => ?_⟩
    · unfold paS
      rw [hnu]
      simp only [if_neg (show ¬ 8 < gone + p by omega)]
    · refine call0 (r_wrong hRK (by decide) (by decide) ?_)
      intro P hP hE
      simp only [ixr_of, run_s, run_0, rM_partsHere, rok_i, rok_z, bx_cons, bx_nil, eADD, eBP, eC0, eC2, eCV0, eCV2, eGI, jICle, jIFeq, jIFne, eLA0, eLI1, eLI2, eLI3, eLI4, eRI, eSI3, eSI4, fM_partsHere_0, fM_partsHere_7, fM_partsHere_9, fM_partsHere_34, fM_partsHere_43, fM_partsHere_49, bM_partsHere_0, bM_partsHere_7, bM_partsHere_9, bM_partsHere_34, bM_partsHere_43, bM_partsHere_49, ty_m, Option.toList_some, Option.toList_none, List.cons_append, List.nil_append, List.length_cons, List.length_nil, List.mem_cons, List.not_mem_nil, or_false, false_or, or_true, true_or, ↓reduceIte, true_and, and_true, Nat.reduceEqDiff, Nat.reduceAdd, Nat.reduceLeDiff, Nat.reduceLT, dl_i, dl_r, dl_n, dl_u, eq_self, not_true_eq_false, not_false_eq_true, n10, n01, nm0, n0m, imp_t, imp_f]
      refine at49 _ P (he _ _ P ?_ ((hFJ.tr hK).tr hP) hE)
      unfold paS
      rw [hnu]
      simp only [if_pos (show 8 < gone + p by omega)]
  · rw [hnm.1] at hn0 hE
    rw [sk_sk ha] at hE
    simp only [ixr_of, run_s, run_0, rM_partsHere, rok_i, rok_z, bx_cons, bx_nil, eADD, eBP, eC0, eC2, eCV0, eCV2, eGI, jICle, jIFeq, jIFne, eLA0, eLI1, eLI2, eLI3, eLI4, eRI, eSI3, eSI4, fM_partsHere_0, fM_partsHere_7, fM_partsHere_9, fM_partsHere_34, fM_partsHere_43, fM_partsHere_49, bM_partsHere_0, bM_partsHere_7, bM_partsHere_9, bM_partsHere_34, bM_partsHere_43, bM_partsHere_49, ty_m, Option.toList_some, Option.toList_none, List.cons_append, List.nil_append, List.length_cons, List.length_nil, List.mem_cons, List.not_mem_nil, or_false, false_or, or_true, true_or, ↓reduceIte, true_and, and_true, Nat.reduceEqDiff, Nat.reduceAdd, Nat.reduceLeDiff, Nat.reduceLT, dl_i, dl_r, dl_n, dl_u, eq_self, not_true_eq_false, not_false_eq_true, n10, n01, nm0, n0m, imp_t, imp_f]
    refine ⟨fun _ => at49 _ K (he _ _ K ?_ (hFJ.tr hK) hE), fun q => absurd q hE.nz⟩
    unfold paS nuS
    rw [if_neg hn0]
theorem f_partsHere {lo gone : Int32} (h : ¬ I 500000 5 = nI 0) (hk : kr (some (.int (nI 0))) I E) : Ex Γ l shN (d + 1) (0, 0) mM_partsHere [.ref 500000, .int lo, .int gone] I E kr kx := by
  refine ex_of (ls0 := [some (.ref 500000), some (.int lo), some (.int gone), none, none]) tM_partsHere (by decide +kernel) kM_partsHere rfl (Nat.le_of_ble_eq_true rfl) rfl ?_
  intro go hgo
  refine hgo 20 [9] 0 _ _ _ _ _ ?_
  simp only [ixr_of, run_s, run_0, rM_partsHere, rok_i, rok_z, bx_cons, bx_nil, eADD, eBP, eC0, eC2, eCV0, eCV2, eGI, jICle, jIFeq, jIFne, eLA0, eLI1, eLI2, eLI3, eLI4, eRI, eSI3, eSI4, fM_partsHere_0, fM_partsHere_7, fM_partsHere_9, fM_partsHere_34, fM_partsHere_43, fM_partsHere_49, bM_partsHere_0, bM_partsHere_7, bM_partsHere_9, bM_partsHere_34, bM_partsHere_43, bM_partsHere_49, ty_m, Option.toList_some, Option.toList_none, List.cons_append, List.nil_append, List.length_cons, List.length_nil, List.mem_cons, List.not_mem_nil, or_false, false_or, or_true, true_or, ↓reduceIte, true_and, and_true, Nat.reduceEqDiff, Nat.reduceAdd, Nat.reduceLeDiff, Nat.reduceLT, dl_i, dl_r, dl_n, dl_u, eq_self, not_true_eq_false, not_false_eq_true, n10, n01, nm0, n0m, imp_t, imp_f]
  exact ⟨fun q => absurd q h, fun _ => hk⟩
theorem c_villageHere (hT : Tx T n) (hR : RSt T n I a) (hS : I 500003 0 = nI S.1.1) (ho : ∀ b p J, nuS T n (nI 0) (nI S.1.1 - nI 1) a = .ok (b, p) → Fq I J → RSt T n J b → kr (some (.int (nI p))) J E) (h9 : S.1.1 ≤ 9) (he : ∀ e J, nuS T n (nI 0) (nI S.1.1 - nI 1) a = .error e → Fq I J → OEr n J e → kr (some (.int (nI 0))) J E) : Ex Γ l shN (d + 4) (0, 0) mM_villageHere [.ref 500000] I E kr kx := by
  have ha : a ≤ n := hR.2.2.2.2.1
  refine ex_of (ls0 := [some (.ref 500000)]) tM_villageHere (by decide +kernel) kM_villageHere rfl (Nat.le_of_ble_eq_true rfl) rfl ?_
  intro go hgo
  refine hgo 20 [] 0 _ _ _ _ _ ?_
  simp only [ixr_of, run_s, run_0, rM_villageHere, rok_i, rok_z, bx_cons, bx_nil, eC0, eC1, eCV2, eGR, eIALD, eLA0, eRI, eSUB, fM_villageHere_0, bM_villageHere_0, ln_mreadTold, rg_m_11, ty_m, ty_mreadTold, Option.toList_some, Option.toList_none, List.cons_append, List.nil_append, List.length_cons, List.length_nil, List.mem_cons, List.not_mem_nil, or_false, false_or, or_true, true_or, ↓reduceIte, true_and, and_true, Nat.reduceEqDiff, Nat.reduceAdd, Nat.reduceLeDiff, Nat.reduceLT, dl_i, dl_r, dl_n, dl_u, eq_self, not_true_eq_false, not_false_eq_true, n10, n01, nm0, n0m, hS, imp_t, imp_f]
  refine call0 (r_number hT hR (fun hn0 K hK hRK => ?_) (fun hn0 K hK hE => ?_))
  · have hnu : nuS T n (nI 0) (nI S.1.1 - nI 1) a = .ok (nmE T n a, (nmV T n a).toNatClampNeg) := by unfold nuS; rw [if_pos hn0]
    have g := nuS_v hT ha h9 hnu
    simp only [ixr_of, run_s, run_0, rM_villageHere, rok_i, rok_z, bx_cons, bx_nil, eC0, eC1, eCV2, eGR, eIALD, eLA0, eRI, eSUB, fM_villageHere_0, bM_villageHere_0, ln_mreadTold, rg_m_11, ty_m, ty_mreadTold, Option.toList_some, Option.toList_none, List.cons_append, List.nil_append, List.length_cons, List.length_nil, List.mem_cons, List.not_mem_nil, or_false, false_or, or_true, true_or, ↓reduceIte, true_and, and_true, Nat.reduceEqDiff, Nat.reduceAdd, Nat.reduceLeDiff, Nat.reduceLT, dl_i, dl_r, dl_n, dl_u, eq_self, not_true_eq_false, not_false_eq_true, n10, n01, nm0, n0m, imp_t, imp_f]
    rw [g.2.2.2.1]
    exact ho _ _ K hnu hK hRK
  · simp only [ixr_of, run_s, run_0, rM_villageHere, rok_i, rok_z, bx_cons, bx_nil, eC0, eC1, eCV2, eGR, eIALD, eLA0, eRI, eSUB, fM_villageHere_0, bM_villageHere_0, ln_mreadTold, rg_m_11, ty_m, ty_mreadTold, Option.toList_some, Option.toList_none, List.cons_append, List.nil_append, List.length_cons, List.length_nil, List.mem_cons, List.not_mem_nil, or_false, false_or, or_true, true_or, ↓reduceIte, true_and, and_true, Nat.reduceEqDiff, Nat.reduceAdd, Nat.reduceLeDiff, Nat.reduceLT, dl_i, dl_r, dl_n, dl_u, eq_self, not_true_eq_false, not_false_eq_true, n10, n01, nm0, n0m, imp_t, imp_f]
    refine he _ K ?_ hK hE
    unfold nuS
    rw [if_neg hn0]
theorem f_villageHere {x : Int32} (hx : I 500003 0 = x) (h : ¬ I 500000 5 = nI 0) (hk : kr (some (.int (nI 0))) I E) : Ex Γ l shN (d + 2) (0, 0) mM_villageHere [.ref 500000] I E kr kx := by
  refine ex_of (ls0 := [some (.ref 500000)]) tM_villageHere (by decide +kernel) kM_villageHere rfl (Nat.le_of_ble_eq_true rfl) rfl ?_
  intro go hgo
  refine hgo 20 [] 0 _ _ _ _ _ ?_
  simp only [ixr_of, run_s, run_0, rM_villageHere, rok_i, rok_z, bx_cons, bx_nil, eC0, eC1, eCV2, eGR, eIALD, eLA0, eRI, eSUB, fM_villageHere_0, bM_villageHere_0, ln_mreadTold, rg_m_11, ty_m, ty_mreadTold, Option.toList_some, Option.toList_none, List.cons_append, List.nil_append, List.length_cons, List.length_nil, List.mem_cons, List.not_mem_nil, or_false, false_or, or_true, true_or, ↓reduceIte, true_and, and_true, Nat.reduceEqDiff, Nat.reduceAdd, Nat.reduceLeDiff, Nat.reduceLT, dl_i, dl_r, dl_n, dl_u, eq_self, not_true_eq_false, not_false_eq_true, n10, n01, nm0, n0m, hx, imp_t, imp_f]
  refine call0 (f_number h ?_)
  simp only [ixr_of, run_s, run_0, rM_villageHere, rok_i, rok_z, bx_cons, bx_nil, eC0, eC1, eCV2, eGR, eIALD, eLA0, eRI, eSUB, fM_villageHere_0, bM_villageHere_0, ln_mreadTold, rg_m_11, ty_m, ty_mreadTold, Option.toList_some, Option.toList_none, List.cons_append, List.nil_append, List.length_cons, List.length_nil, List.mem_cons, List.not_mem_nil, or_false, false_or, or_true, true_or, ↓reduceIte, true_and, and_true, Nat.reduceEqDiff, Nat.reduceAdd, Nat.reduceLeDiff, Nat.reduceLT, dl_i, dl_r, dl_n, dl_u, eq_self, not_true_eq_false, not_false_eq_true, n10, n01, nm0, n0m, imp_t, imp_f]
  exact hk
/-- the kind of a clause; -1 for 9 -/
def kdI (k : Nat) : Int32 := if k = 9 then -1 else nI k
theorem c_kindHere (hR : RSt T n I a) (hk : ∀ J, Fq I J → RSt T n J (sk T n a) → kr (some (.int (kdI (kdW (wcode T n (sk T n a)))))) J E) : Ex Γ l shN (d + 5) (0, 0) mM_kindHere [.ref 500000] I E kr kx := by
  have skk : sk T n (sk T n a) = sk T n a := sk_sk hR.2.2.2.2.1
  refine ex_of (ls0 := [some (.ref 500000)]) tM_kindHere (by decide +kernel) kM_kindHere rfl (Nat.le_of_ble_eq_true rfl) rfl ?_
  intro go hgo
  refine hgo 20 [] 0 _ _ _ _ _ ?_
  simp only [ixr_of, run_s, run_0, rM_kindHere, rok_i, rok_z, bx_cons, bx_nil, eBP, eC0, eC1, eC2, eC3, eC4, eC5, eCV7, eCm1, eGO, jIFeq, eLA0, eRI, fM_kindHere_0, fM_kindHere_19, fM_kindHere_21, fM_kindHere_39, fM_kindHere_41, fM_kindHere_57, fM_kindHere_59, fM_kindHere_79, fM_kindHere_81, fM_kindHere_98, fM_kindHere_100, fM_kindHere_116, fM_kindHere_118, fM_kindHere_134, fM_kindHere_137, fM_kindHere_155, fM_kindHere_158, fM_kindHere_177, fM_kindHere_182, fM_kindHere_183, bM_kindHere_0, bM_kindHere_19, bM_kindHere_21, bM_kindHere_39, bM_kindHere_41, bM_kindHere_57, bM_kindHere_59, bM_kindHere_79, bM_kindHere_81, bM_kindHere_98, bM_kindHere_100, bM_kindHere_116, bM_kindHere_118, bM_kindHere_134, bM_kindHere_137, bM_kindHere_155, bM_kindHere_158, bM_kindHere_177, bM_kindHere_182, bM_kindHere_183, ty_m, Option.toList_some, Option.toList_none, List.cons_append, List.nil_append, List.length_cons, List.length_nil, List.mem_cons, List.not_mem_nil, or_false, false_or, or_true, true_or, ↓reduceIte, true_and, and_true, Nat.reduceEqDiff, Nat.reduceAdd, Nat.reduceLeDiff, Nat.reduceLT, dl_i, dl_r, dl_n, dl_u, eq_self, not_true_eq_false, not_false_eq_true, n10, n01, nm0, n0m, imp_t, imp_f]
  obtain ⟨w, hw⟩ : ∃ w, w = wcode T n (sk T n a) := ⟨_, rfl⟩
  have fin : ∀ (k : Nat) (J : Iv), kdW w = k → Fq I J → RSt T n J (sk T n a) → kr (some (.int (kdI k))) J E := by
    intro k J h1 h2 h3
    have := hk J h2 h3
    rw [← hw, h1] at this
    exact this
  refine call0 (r_isWord hR ?_)
  intro J0 hJ0 hR0
  rw [← hw]
  have hF0 : Fq I J0 := by rw [hJ0]; exact Fq.fl (by decide)
  simp only [ixr_of, run_s, run_0, rM_kindHere, rok_i, rok_z, bx_cons, bx_nil, eBP, eC0, eC1, eC2, eC3, eC4, eC5, eCV7, eCm1, eGO, jIFeq, eLA0, eRI, fM_kindHere_0, fM_kindHere_19, fM_kindHere_21, fM_kindHere_39, fM_kindHere_41, fM_kindHere_57, fM_kindHere_59, fM_kindHere_79, fM_kindHere_81, fM_kindHere_98, fM_kindHere_100, fM_kindHere_116, fM_kindHere_118, fM_kindHere_134, fM_kindHere_137, fM_kindHere_155, fM_kindHere_158, fM_kindHere_177, fM_kindHere_182, fM_kindHere_183, bM_kindHere_0, bM_kindHere_19, bM_kindHere_21, bM_kindHere_39, bM_kindHere_41, bM_kindHere_57, bM_kindHere_59, bM_kindHere_79, bM_kindHere_81, bM_kindHere_98, bM_kindHere_100, bM_kindHere_116, bM_kindHere_118, bM_kindHere_134, bM_kindHere_137, bM_kindHere_155, bM_kindHere_158, bM_kindHere_177, bM_kindHere_182, bM_kindHere_183, ty_m, Option.toList_some, Option.toList_none, List.cons_append, List.nil_append, List.length_cons, List.length_nil, List.mem_cons, List.not_mem_nil, or_false, false_or, or_true, true_or, ↓reduceIte, true_and, and_true, Nat.reduceEqDiff, Nat.reduceAdd, Nat.reduceLeDiff, Nat.reduceLT, dl_i, dl_r, dl_n, dl_u, eq_self, not_true_eq_false, not_false_eq_true, n10, n01, nm0, n0m, imp_t, imp_f]
  rw [bi_0]
  refine ⟨fun q0 => ?_, fun q => fin 0 J0 (by unfold kdW; rw [if_pos (show w = w_village from Decidable.not_not.mp q)]) hF0 hR0⟩
  have q0 : ¬ w = w_village := q0
  refine call0 (r_isWord hR0 ?_)
  intro J1 hJ1 hR1
  rw [skk] at hR1 ⊢
  rw [← hw]
  have hF1 : Fq I J1 := hF0.tr (show Fq J0 J1 by rw [hJ1]; exact Fq.fl (by decide))
  simp only [ixr_of, run_s, run_0, rM_kindHere, rok_i, rok_z, bx_cons, bx_nil, eBP, eC0, eC1, eC2, eC3, eC4, eC5, eCV7, eCm1, eGO, jIFeq, eLA0, eRI, fM_kindHere_0, fM_kindHere_19, fM_kindHere_21, fM_kindHere_39, fM_kindHere_41, fM_kindHere_57, fM_kindHere_59, fM_kindHere_79, fM_kindHere_81, fM_kindHere_98, fM_kindHere_100, fM_kindHere_116, fM_kindHere_118, fM_kindHere_134, fM_kindHere_137, fM_kindHere_155, fM_kindHere_158, fM_kindHere_177, fM_kindHere_182, fM_kindHere_183, bM_kindHere_0, bM_kindHere_19, bM_kindHere_21, bM_kindHere_39, bM_kindHere_41, bM_kindHere_57, bM_kindHere_59, bM_kindHere_79, bM_kindHere_81, bM_kindHere_98, bM_kindHere_100, bM_kindHere_116, bM_kindHere_118, bM_kindHere_134, bM_kindHere_137, bM_kindHere_155, bM_kindHere_158, bM_kindHere_177, bM_kindHere_182, bM_kindHere_183, ty_m, Option.toList_some, Option.toList_none, List.cons_append, List.nil_append, List.length_cons, List.length_nil, List.mem_cons, List.not_mem_nil, or_false, false_or, or_true, true_or, ↓reduceIte, true_and, and_true, Nat.reduceEqDiff, Nat.reduceAdd, Nat.reduceLeDiff, Nat.reduceLT, dl_i, dl_r, dl_n, dl_u, eq_self, not_true_eq_false, not_false_eq_true, n10, n01, nm0, n0m, imp_t, imp_f]
  rw [bi_0]
  refine ⟨fun q1 => ?_, fun q => fin 1 J1 (by unfold kdW; rw [if_neg q0, if_pos (show w = w_channel from Decidable.not_not.mp q)]) hF1 hR1⟩
  have q1 : ¬ w = w_channel := q1
  refine call0 (r_isWord hR1 ?_)
  intro J2 hJ2 hR2
  rw [skk] at hR2 ⊢
  rw [← hw]
  have hF2 : Fq I J2 := hF1.tr (show Fq J1 J2 by rw [hJ2]; exact Fq.fl (by decide))
  simp only [ixr_of, run_s, run_0, rM_kindHere, rok_i, rok_z, bx_cons, bx_nil, eBP, eC0, eC1, eC2, eC3, eC4, eC5, eCV7, eCm1, eGO, jIFeq, eLA0, eRI, fM_kindHere_0, fM_kindHere_19, fM_kindHere_21, fM_kindHere_39, fM_kindHere_41, fM_kindHere_57, fM_kindHere_59, fM_kindHere_79, fM_kindHere_81, fM_kindHere_98, fM_kindHere_100, fM_kindHere_116, fM_kindHere_118, fM_kindHere_134, fM_kindHere_137, fM_kindHere_155, fM_kindHere_158, fM_kindHere_177, fM_kindHere_182, fM_kindHere_183, bM_kindHere_0, bM_kindHere_19, bM_kindHere_21, bM_kindHere_39, bM_kindHere_41, bM_kindHere_57, bM_kindHere_59, bM_kindHere_79, bM_kindHere_81, bM_kindHere_98, bM_kindHere_100, bM_kindHere_116, bM_kindHere_118, bM_kindHere_134, bM_kindHere_137, bM_kindHere_155, bM_kindHere_158, bM_kindHere_177, bM_kindHere_182, bM_kindHere_183, ty_m, Option.toList_some, Option.toList_none, List.cons_append, List.nil_append, List.length_cons, List.length_nil, List.mem_cons, List.not_mem_nil, or_false, false_or, or_true, true_or, ↓reduceIte, true_and, and_true, Nat.reduceEqDiff, Nat.reduceAdd, Nat.reduceLeDiff, Nat.reduceLT, dl_i, dl_r, dl_n, dl_u, eq_self, not_true_eq_false, not_false_eq_true, n10, n01, nm0, n0m, imp_t, imp_f]
  rw [bi_0]
  refine ⟨fun q2 => ?_, fun q => fin 2 J2 (by unfold kdW; rw [if_neg q0, if_neg q1, if_pos (show w = w_tap from Decidable.not_not.mp q)]) hF2 hR2⟩
  have q2 : ¬ w = w_tap := q2
  refine call0 (r_isWord hR2 ?_)
  intro J3 hJ3 hR3
  rw [skk] at hR3 ⊢
  rw [← hw]
  have hF3 : Fq I J3 := hF2.tr (show Fq J2 J3 by rw [hJ3]; exact Fq.fl (by decide))
  simp only [ixr_of, run_s, run_0, rM_kindHere, rok_i, rok_z, bx_cons, bx_nil, eBP, eC0, eC1, eC2, eC3, eC4, eC5, eCV7, eCm1, eGO, jIFeq, eLA0, eRI, fM_kindHere_0, fM_kindHere_19, fM_kindHere_21, fM_kindHere_39, fM_kindHere_41, fM_kindHere_57, fM_kindHere_59, fM_kindHere_79, fM_kindHere_81, fM_kindHere_98, fM_kindHere_100, fM_kindHere_116, fM_kindHere_118, fM_kindHere_134, fM_kindHere_137, fM_kindHere_155, fM_kindHere_158, fM_kindHere_177, fM_kindHere_182, fM_kindHere_183, bM_kindHere_0, bM_kindHere_19, bM_kindHere_21, bM_kindHere_39, bM_kindHere_41, bM_kindHere_57, bM_kindHere_59, bM_kindHere_79, bM_kindHere_81, bM_kindHere_98, bM_kindHere_100, bM_kindHere_116, bM_kindHere_118, bM_kindHere_134, bM_kindHere_137, bM_kindHere_155, bM_kindHere_158, bM_kindHere_177, bM_kindHere_182, bM_kindHere_183, ty_m, Option.toList_some, Option.toList_none, List.cons_append, List.nil_append, List.length_cons, List.length_nil, List.mem_cons, List.not_mem_nil, or_false, false_or, or_true, true_or, ↓reduceIte, true_and, and_true, Nat.reduceEqDiff, Nat.reduceAdd, Nat.reduceLeDiff, Nat.reduceLT, dl_i, dl_r, dl_n, dl_u, eq_self, not_true_eq_false, not_false_eq_true, n10, n01, nm0, n0m, imp_t, imp_f]
  rw [bi_0]
  refine ⟨fun q3 => ?_, fun q => fin 3 J3 (by unfold kdW; rw [if_neg q0, if_neg q1, if_neg q2, if_pos (show w = w_spring from Decidable.not_not.mp q)]) hF3 hR3⟩
  have q3 : ¬ w = w_spring := q3
  refine call0 (r_isWord hR3 ?_)
  intro J4 hJ4 hR4
  rw [skk] at hR4 ⊢
  rw [← hw]
  have hF4 : Fq I J4 := hF3.tr (show Fq J3 J4 by rw [hJ4]; exact Fq.fl (by decide))
  simp only [ixr_of, run_s, run_0, rM_kindHere, rok_i, rok_z, bx_cons, bx_nil, eBP, eC0, eC1, eC2, eC3, eC4, eC5, eCV7, eCm1, eGO, jIFeq, eLA0, eRI, fM_kindHere_0, fM_kindHere_19, fM_kindHere_21, fM_kindHere_39, fM_kindHere_41, fM_kindHere_57, fM_kindHere_59, fM_kindHere_79, fM_kindHere_81, fM_kindHere_98, fM_kindHere_100, fM_kindHere_116, fM_kindHere_118, fM_kindHere_134, fM_kindHere_137, fM_kindHere_155, fM_kindHere_158, fM_kindHere_177, fM_kindHere_182, fM_kindHere_183, bM_kindHere_0, bM_kindHere_19, bM_kindHere_21, bM_kindHere_39, bM_kindHere_41, bM_kindHere_57, bM_kindHere_59, bM_kindHere_79, bM_kindHere_81, bM_kindHere_98, bM_kindHere_100, bM_kindHere_116, bM_kindHere_118, bM_kindHere_134, bM_kindHere_137, bM_kindHere_155, bM_kindHere_158, bM_kindHere_177, bM_kindHere_182, bM_kindHere_183, ty_m, Option.toList_some, Option.toList_none, List.cons_append, List.nil_append, List.length_cons, List.length_nil, List.mem_cons, List.not_mem_nil, or_false, false_or, or_true, true_or, ↓reduceIte, true_and, and_true, Nat.reduceEqDiff, Nat.reduceAdd, Nat.reduceLeDiff, Nat.reduceLT, dl_i, dl_r, dl_n, dl_u, eq_self, not_true_eq_false, not_false_eq_true, n10, n01, nm0, n0m, imp_t, imp_f]
  rw [bi_0]
  refine ⟨fun q4 => ?_, fun q => fin 4 J4 (by unfold kdW; rw [if_neg q0, if_neg q1, if_neg q2, if_neg q3, if_pos (show w = w_feast from Decidable.not_not.mp q)]) hF4 hR4⟩
  have q4 : ¬ w = w_feast := q4
  refine call0 (r_isWord hR4 ?_)
  intro J5 hJ5 hR5
  rw [skk] at hR5 ⊢
  rw [← hw]
  have hF5 : Fq I J5 := hF4.tr (show Fq J4 J5 by rw [hJ5]; exact Fq.fl (by decide))
  simp only [ixr_of, run_s, run_0, rM_kindHere, rok_i, rok_z, bx_cons, bx_nil, eBP, eC0, eC1, eC2, eC3, eC4, eC5, eCV7, eCm1, eGO, jIFeq, eLA0, eRI, fM_kindHere_0, fM_kindHere_19, fM_kindHere_21, fM_kindHere_39, fM_kindHere_41, fM_kindHere_57, fM_kindHere_59, fM_kindHere_79, fM_kindHere_81, fM_kindHere_98, fM_kindHere_100, fM_kindHere_116, fM_kindHere_118, fM_kindHere_134, fM_kindHere_137, fM_kindHere_155, fM_kindHere_158, fM_kindHere_177, fM_kindHere_182, fM_kindHere_183, bM_kindHere_0, bM_kindHere_19, bM_kindHere_21, bM_kindHere_39, bM_kindHere_41, bM_kindHere_57, bM_kindHere_59, bM_kindHere_79, bM_kindHere_81, bM_kindHere_98, bM_kindHere_100, bM_kindHere_116, bM_kindHere_118, bM_kindHere_134, bM_kindHere_137, bM_kindHere_155, bM_kindHere_158, bM_kindHere_177, bM_kindHere_182, bM_kindHere_183, ty_m, Option.toList_some, Option.toList_none, List.cons_append, List.nil_append, List.length_cons, List.length_nil, List.mem_cons, List.not_mem_nil, or_false, false_or, or_true, true_or, ↓reduceIte, true_and, and_true, Nat.reduceEqDiff, Nat.reduceAdd, Nat.reduceLeDiff, Nat.reduceLT, dl_i, dl_r, dl_n, dl_u, eq_self, not_true_eq_false, not_false_eq_true, n10, n01, nm0, n0m, imp_t, imp_f]
  rw [bi_0]
  refine ⟨fun q5 => ?_, fun q => fin 5 J5 (by unfold kdW; rw [if_neg q0, if_neg q1, if_neg q2, if_neg q3, if_neg q4, if_pos (show w = w_leak from Decidable.not_not.mp q)]) hF5 hR5⟩
  have q5 : ¬ w = w_leak := q5
  refine call0 (r_isWord hR5 ?_)
  intro J6 hJ6 hR6
  rw [skk] at hR6 ⊢
  rw [← hw]
  have hF6 : Fq I J6 := hF5.tr (show Fq J5 J6 by rw [hJ6]; exact Fq.fl (by decide))
  simp only [ixr_of, run_s, run_0, rM_kindHere, rok_i, rok_z, bx_cons, bx_nil, eBP, eC0, eC1, eC2, eC3, eC4, eC5, eCV7, eCm1, eGO, jIFeq, eLA0, eRI, fM_kindHere_0, fM_kindHere_19, fM_kindHere_21, fM_kindHere_39, fM_kindHere_41, fM_kindHere_57, fM_kindHere_59, fM_kindHere_79, fM_kindHere_81, fM_kindHere_98, fM_kindHere_100, fM_kindHere_116, fM_kindHere_118, fM_kindHere_134, fM_kindHere_137, fM_kindHere_155, fM_kindHere_158, fM_kindHere_177, fM_kindHere_182, fM_kindHere_183, bM_kindHere_0, bM_kindHere_19, bM_kindHere_21, bM_kindHere_39, bM_kindHere_41, bM_kindHere_57, bM_kindHere_59, bM_kindHere_79, bM_kindHere_81, bM_kindHere_98, bM_kindHere_100, bM_kindHere_116, bM_kindHere_118, bM_kindHere_134, bM_kindHere_137, bM_kindHere_155, bM_kindHere_158, bM_kindHere_177, bM_kindHere_182, bM_kindHere_183, ty_m, Option.toList_some, Option.toList_none, List.cons_append, List.nil_append, List.length_cons, List.length_nil, List.mem_cons, List.not_mem_nil, or_false, false_or, or_true, true_or, ↓reduceIte, true_and, and_true, Nat.reduceEqDiff, Nat.reduceAdd, Nat.reduceLeDiff, Nat.reduceLT, dl_i, dl_r, dl_n, dl_u, eq_self, not_true_eq_false, not_false_eq_true, n10, n01, nm0, n0m, imp_t, imp_f]
  rw [bi_0]
  refine ⟨fun q6 => ?_, fun q => fin 6 J6 (by unfold kdW; rw [if_neg q0, if_neg q1, if_neg q2, if_neg q3, if_neg q4, if_neg q5, if_pos (show w = w_lag from Decidable.not_not.mp q)]) hF6 hR6⟩
  have q6 : ¬ w = w_lag := q6
  refine call0 (r_isWord hR6 ?_)
  intro J7 hJ7 hR7
  rw [skk] at hR7 ⊢
  rw [← hw]
  have hF7 : Fq I J7 := hF6.tr (show Fq J6 J7 by rw [hJ7]; exact Fq.fl (by decide))
  simp only [ixr_of, run_s, run_0, rM_kindHere, rok_i, rok_z, bx_cons, bx_nil, eBP, eC0, eC1, eC2, eC3, eC4, eC5, eCV7, eCm1, eGO, jIFeq, eLA0, eRI, fM_kindHere_0, fM_kindHere_19, fM_kindHere_21, fM_kindHere_39, fM_kindHere_41, fM_kindHere_57, fM_kindHere_59, fM_kindHere_79, fM_kindHere_81, fM_kindHere_98, fM_kindHere_100, fM_kindHere_116, fM_kindHere_118, fM_kindHere_134, fM_kindHere_137, fM_kindHere_155, fM_kindHere_158, fM_kindHere_177, fM_kindHere_182, fM_kindHere_183, bM_kindHere_0, bM_kindHere_19, bM_kindHere_21, bM_kindHere_39, bM_kindHere_41, bM_kindHere_57, bM_kindHere_59, bM_kindHere_79, bM_kindHere_81, bM_kindHere_98, bM_kindHere_100, bM_kindHere_116, bM_kindHere_118, bM_kindHere_134, bM_kindHere_137, bM_kindHere_155, bM_kindHere_158, bM_kindHere_177, bM_kindHere_182, bM_kindHere_183, ty_m, Option.toList_some, Option.toList_none, List.cons_append, List.nil_append, List.length_cons, List.length_nil, List.mem_cons, List.not_mem_nil, or_false, false_or, or_true, true_or, ↓reduceIte, true_and, and_true, Nat.reduceEqDiff, Nat.reduceAdd, Nat.reduceLeDiff, Nat.reduceLT, dl_i, dl_r, dl_n, dl_u, eq_self, not_true_eq_false, not_false_eq_true, n10, n01, nm0, n0m, imp_t, imp_f]
  rw [bi_0]
  refine ⟨fun q7 => ?_, fun q => fin 7 J7 (by unfold kdW; rw [if_neg q0, if_neg q1, if_neg q2, if_neg q3, if_neg q4, if_neg q5, if_neg q6, if_pos (show w = w_frog from Decidable.not_not.mp q)]) hF7 hR7⟩
  have q7 : ¬ w = w_frog := q7
  refine call0 (r_isWord hR7 ?_)
  intro J8 hJ8 hR8
  rw [skk] at hR8 ⊢
  rw [← hw]
  have hF8 : Fq I J8 := hF7.tr (show Fq J7 J8 by rw [hJ8]; exact Fq.fl (by decide))
  simp only [ixr_of, run_s, run_0, rM_kindHere, rok_i, rok_z, bx_cons, bx_nil, eBP, eC0, eC1, eC2, eC3, eC4, eC5, eCV7, eCm1, eGO, jIFeq, eLA0, eRI, fM_kindHere_0, fM_kindHere_19, fM_kindHere_21, fM_kindHere_39, fM_kindHere_41, fM_kindHere_57, fM_kindHere_59, fM_kindHere_79, fM_kindHere_81, fM_kindHere_98, fM_kindHere_100, fM_kindHere_116, fM_kindHere_118, fM_kindHere_134, fM_kindHere_137, fM_kindHere_155, fM_kindHere_158, fM_kindHere_177, fM_kindHere_182, fM_kindHere_183, bM_kindHere_0, bM_kindHere_19, bM_kindHere_21, bM_kindHere_39, bM_kindHere_41, bM_kindHere_57, bM_kindHere_59, bM_kindHere_79, bM_kindHere_81, bM_kindHere_98, bM_kindHere_100, bM_kindHere_116, bM_kindHere_118, bM_kindHere_134, bM_kindHere_137, bM_kindHere_155, bM_kindHere_158, bM_kindHere_177, bM_kindHere_182, bM_kindHere_183, ty_m, Option.toList_some, Option.toList_none, List.cons_append, List.nil_append, List.length_cons, List.length_nil, List.mem_cons, List.not_mem_nil, or_false, false_or, or_true, true_or, ↓reduceIte, true_and, and_true, Nat.reduceEqDiff, Nat.reduceAdd, Nat.reduceLeDiff, Nat.reduceLT, dl_i, dl_r, dl_n, dl_u, eq_self, not_true_eq_false, not_false_eq_true, n10, n01, nm0, n0m, imp_t, imp_f]
  rw [bi_0]
  refine ⟨fun q8 => ?_, fun q => fin 8 J8 (by unfold kdW; rw [if_neg q0, if_neg q1, if_neg q2, if_neg q3, if_neg q4, if_neg q5, if_neg q6, if_neg q7, if_pos (show w = w_filter from Decidable.not_not.mp q)]) hF8 hR8⟩
  have q8 : ¬ w = w_filter := q8
  exact fin 9 J8 (by unfold kdW; rw [if_neg q0, if_neg q1, if_neg q2, if_neg q3, if_neg q4, if_neg q5, if_neg q6, if_neg q7, if_neg q8]) hF8 hR8
end CM33
