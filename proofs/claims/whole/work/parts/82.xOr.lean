/-! contracts of the class, 13: opinions, read: values and sums -/
section XOr
variable {T : Nat → Int32} {n : Nat}
theorem wcode_d {s : Nat} (h : nI 48 ≤ T s ∧ T s ≤ nI 57) : wcode T n s = lN 0 := by
  have e : rn T (nI 97) (nI 122) n s = s := rn_stop (fun q => absurd (Int32.le_trans q.1 h.2) (by decide))
  unfold wcode
  rw [e, Nat.sub_self, if_neg (by omega)]
  rfl
theorem rd_val {f : Nat} (hf6 : f ≤ 6) (hrec : ∀ f', f = f' + 1 → RdX T n mOr_readSum 9 f' (sumD T n f')) : RdX T n mOr_readValue 8 f (valW T n (recS T n f)) := by
  intro Γ l b d J E kr kx a o L hG hR h h1 h2
  refine ex_of (ls0 := [some (.ref 97), none]) tOr_readValue (by decide +kernel) kOr_readValue rfl (Nat.le_of_ble_eq_true rfl) rfl ?_
  intro go hgo
  have hT : Tx T n := by rw [← h.1.1.1]; exact xt_Tx
  have ha := h.1.1.2.2.2.2.2
  have hs := sk_b (t := T) ha
  have hss := sk_sk (T := T) ha
  have hg := fun c M => valW_g hT (recS_g hT f) a c M ha
  have hl := h.2.2.2.1
  have r1 := hR.2.1
  have tO := hR.1.1
  have ho := hR.2.2
  unfold valW at h1 h2 hg
  obtain ⟨s, hse⟩ : ∃ s, s = sk T n a := ⟨_, rfl⟩
  rw [← hse] at h1 h2 hg hs hss
  refine hgo 20 [] 0 _ _ _ _ _ ?_
  simp only [ixr_of, run_s, run_0, rOr_readValue, rok_i, rok_z, bx_cons, bx_nil, eBP, eC0, eC1, eCV0, eCV1, eCV2, eCm1, eDUPr, eGI, eGO, eGR, eGW, jICeq, jICne, jIFeq, jIFne, eLA0, eLI1, ePI, eRI, eSI1, eSP, eSUB, fOr_readValue_0, fOr_readValue_12, fOr_readValue_19, fOr_readValue_26, fOr_readValue_38, fOr_readValue_40, fOr_readValue_52, fOr_readValue_62, fOr_readValue_87, fOr_readValue_91, fOr_readValue_92, fOr_readValue_93, fOr_readValue_109, fOr_readValue_118, bOr_readValue_0, bOr_readValue_12, bOr_readValue_19, bOr_readValue_26, bOr_readValue_38, bOr_readValue_40, bOr_readValue_52, bOr_readValue_62, bOr_readValue_87, bOr_readValue_91, bOr_readValue_92, bOr_readValue_93, bOr_readValue_109, bOr_readValue_118, rg_xopinionReader_0, ty_xopinionReader, ty_xtape, Option.toList_some, Option.toList_none, List.cons_append, List.nil_append, List.length_cons, List.length_nil, List.mem_cons, List.not_mem_nil, or_false, false_or, or_true, true_or, ↓reduceIte, true_and, and_true, Nat.reduceEqDiff, Nat.reduceAdd, Nat.reduceLeDiff, Nat.reduceLT, dl_i, dl_r, dl_n, dl_u, eq_self, not_true_eq_false, not_false_eq_true, n10, n01, nm0, n0m, wfv0, wfv1, wfv2, imp_t, imp_f]
  refine call0 (x_sign (c := 40) h.1.1 (by decide) (fun q => ?_) (fun q => ?_))
  · rw [← hse] at q ⊢
    rw [if_pos q] at h1 h2 hg
    have hlt := hT.lt (by decide) q
    simp only [ixr_of, run_s, run_0, rOr_readValue, rok_i, rok_z, bx_cons, bx_nil, eBP, eC0, eC1, eCV0, eCV1, eCV2, eCm1, eDUPr, eGI, eGO, eGR, eGW, jICeq, jICne, jIFeq, jIFne, eLA0, eLI1, ePI, eRI, eSI1, eSP, eSUB, fOr_readValue_0, fOr_readValue_12, fOr_readValue_19, fOr_readValue_26, fOr_readValue_38, fOr_readValue_40, fOr_readValue_52, fOr_readValue_62, fOr_readValue_87, fOr_readValue_91, fOr_readValue_92, fOr_readValue_93, fOr_readValue_109, fOr_readValue_118, bOr_readValue_0, bOr_readValue_12, bOr_readValue_19, bOr_readValue_26, bOr_readValue_38, bOr_readValue_40, bOr_readValue_52, bOr_readValue_62, bOr_readValue_87, bOr_readValue_91, bOr_readValue_92, bOr_readValue_93, bOr_readValue_109, bOr_readValue_118, rg_xopinionReader_0, ty_xopinionReader, ty_xtape, Option.toList_some, Option.toList_none, List.cons_append, List.nil_append, List.length_cons, List.length_nil, List.mem_cons, List.not_mem_nil, or_false, false_or, or_true, true_or, ↓reduceIte, true_and, and_true, Nat.reduceEqDiff, Nat.reduceAdd, Nat.reduceLeDiff, Nat.reduceLT, dl_i, dl_r, dl_n, dl_u, eq_self, not_true_eq_false, not_false_eq_true, n10, n01, nm0, n0m, wfv0, wfv1, wfv2, imp_t, imp_f]
    refine call0 (x_opens hR (h.at ho.1 (by omega) (by omega)) tp_4 (fun q6 K hF hK => ?_) (fun q6 K hF hK => ?_))
    · have : f = 0 := by omega
      subst this
      simp only [ixr_of, run_s, run_0, rOr_readValue, rok_i, rok_z, bx_cons, bx_nil, eBP, eC0, eC1, eCV0, eCV1, eCV2, eCm1, eDUPr, eGI, eGO, eGR, eGW, jICeq, jICne, jIFeq, jIFne, eLA0, eLI1, ePI, eRI, eSI1, eSP, eSUB, fOr_readValue_0, fOr_readValue_12, fOr_readValue_19, fOr_readValue_26, fOr_readValue_38, fOr_readValue_40, fOr_readValue_52, fOr_readValue_62, fOr_readValue_87, fOr_readValue_91, fOr_readValue_92, fOr_readValue_93, fOr_readValue_109, fOr_readValue_118, bOr_readValue_0, bOr_readValue_12, bOr_readValue_19, bOr_readValue_26, bOr_readValue_38, bOr_readValue_40, bOr_readValue_52, bOr_readValue_62, bOr_readValue_87, bOr_readValue_91, bOr_readValue_92, bOr_readValue_93, bOr_readValue_109, bOr_readValue_118, rg_xopinionReader_0, ty_xopinionReader, ty_xtape, Option.toList_some, Option.toList_none, List.cons_append, List.nil_append, List.length_cons, List.length_nil, List.mem_cons, List.not_mem_nil, or_false, false_or, or_true, true_or, ↓reduceIte, true_and, and_true, Nat.reduceEqDiff, Nat.reduceAdd, Nat.reduceLeDiff, Nat.reduceLT, dl_i, dl_r, dl_n, dl_u, eq_self, not_true_eq_false, not_false_eq_true, n10, n01, nm0, n0m, wfv0, wfv1, wfv2, imp_t, imp_f]
      exact h2 _ _ rfl ((Fz.tp ho.1).tr hF) hK
    · obtain ⟨f', rfl⟩ : ∃ f', f = f' + 1 := ⟨f - 1, by omega⟩
      rw [show 6 - (f' + 1) + 1 = 6 - f' by omega] at hK
      simp only [ixr_of, run_s, run_0, rOr_readValue, rok_i, rok_z, bx_cons, bx_nil, eBP, eC0, eC1, eCV0, eCV1, eCV2, eCm1, eDUPr, eGI, eGO, eGR, eGW, jICeq, jICne, jIFeq, jIFne, eLA0, eLI1, ePI, eRI, eSI1, eSP, eSUB, fOr_readValue_0, fOr_readValue_12, fOr_readValue_19, fOr_readValue_26, fOr_readValue_38, fOr_readValue_40, fOr_readValue_52, fOr_readValue_62, fOr_readValue_87, fOr_readValue_91, fOr_readValue_92, fOr_readValue_93, fOr_readValue_109, fOr_readValue_118, bOr_readValue_0, bOr_readValue_12, bOr_readValue_19, bOr_readValue_26, bOr_readValue_38, bOr_readValue_40, bOr_readValue_52, bOr_readValue_62, bOr_readValue_87, bOr_readValue_91, bOr_readValue_92, bOr_readValue_93, bOr_readValue_109, bOr_readValue_118, rg_xopinionReader_0, ty_xopinionReader, ty_xtape, Option.toList_some, Option.toList_none, List.cons_append, List.nil_append, List.length_cons, List.length_nil, List.mem_cons, List.not_mem_nil, or_false, false_or, or_true, true_or, ↓reduceIte, true_and, and_true, Nat.reduceEqDiff, Nat.reduceAdd, Nat.reduceLeDiff, Nat.reduceLT, dl_i, dl_r, dl_n, dl_u, eq_self, not_true_eq_false, not_false_eq_true, n10, n01, nm0, n0m, wfv0, wfv1, wfv2, imp_t, imp_f]
      rw [show d + 2 * (f' + 1) + 7 = d + 2 * f' + 9 by omega]
      refine call0 (hrec f' rfl _ _ _ _ _ _ _ _ _ _ _ hG hR hK (fun c M K2 e2 F2 K2s => ?_) (fun e K2 e2 F2 K2s => ?_))
      · have r1' := K2s.2.2.2.2.1
        have hc := K2s.1.1.2.2.2.2.2
        have hsc := sk_b (t := T) hc
        have hl2 := K2s.2.2.2.1
        simp only [ixr_of, run_s, run_0, rOr_readValue, rok_i, rok_z, bx_cons, bx_nil, eBP, eC0, eC1, eCV0, eCV1, eCV2, eCm1, eDUPr, eGI, eGO, eGR, eGW, jICeq, jICne, jIFeq, jIFne, eLA0, eLI1, ePI, eRI, eSI1, eSP, eSUB, fOr_readValue_0, fOr_readValue_12, fOr_readValue_19, fOr_readValue_26, fOr_readValue_38, fOr_readValue_40, fOr_readValue_52, fOr_readValue_62, fOr_readValue_87, fOr_readValue_91, fOr_readValue_92, fOr_readValue_93, fOr_readValue_109, fOr_readValue_118, bOr_readValue_0, bOr_readValue_12, bOr_readValue_19, bOr_readValue_26, bOr_readValue_38, bOr_readValue_40, bOr_readValue_52, bOr_readValue_62, bOr_readValue_87, bOr_readValue_91, bOr_readValue_92, bOr_readValue_93, bOr_readValue_109, bOr_readValue_118, rg_xopinionReader_0, ty_xopinionReader, ty_xtape, Option.toList_some, Option.toList_none, List.cons_append, List.nil_append, List.length_cons, List.length_nil, List.mem_cons, List.not_mem_nil, or_false, false_or, or_true, true_or, ↓reduceIte, true_and, and_true, Nat.reduceEqDiff, Nat.reduceAdd, Nat.reduceLeDiff, Nat.reduceLT, dl_i, dl_r, dl_n, dl_u, eq_self, not_true_eq_false, not_false_eq_true, n10, n01, nm0, n0m, wfv0, wfv1, wfv2, imp_t, imp_f]
        refine call0 (x_needSign (c := 41) K2s.1.1 (by decide) (fun q2 => ?_) (fun q2 => ?_))
        · have hlc := hT.lt (by decide) q2
          have e97 : tp K2 (sk T n c + 1) (sk T n c) 97 2 = nI (6 - f') := by rw [tp_o (by decide)]; exact r1'
          simp only [ixr_of, run_s, run_0, rOr_readValue, rok_i, rok_z, bx_cons, bx_nil, eBP, eC0, eC1, eCV0, eCV1, eCV2, eCm1, eDUPr, eGI, eGO, eGR, eGW, jICeq, jICne, jIFeq, jIFne, eLA0, eLI1, ePI, eRI, eSI1, eSP, eSUB, fOr_readValue_0, fOr_readValue_12, fOr_readValue_19, fOr_readValue_26, fOr_readValue_38, fOr_readValue_40, fOr_readValue_52, fOr_readValue_62, fOr_readValue_87, fOr_readValue_91, fOr_readValue_92, fOr_readValue_93, fOr_readValue_109, fOr_readValue_118, bOr_readValue_0, bOr_readValue_12, bOr_readValue_19, bOr_readValue_26, bOr_readValue_38, bOr_readValue_40, bOr_readValue_52, bOr_readValue_62, bOr_readValue_87, bOr_readValue_91, bOr_readValue_92, bOr_readValue_93, bOr_readValue_109, bOr_readValue_118, rg_xopinionReader_0, ty_xopinionReader, ty_xtape, Option.toList_some, Option.toList_none, List.cons_append, List.nil_append, List.length_cons, List.length_nil, List.mem_cons, List.not_mem_nil, or_false, false_or, or_true, true_or, ↓reduceIte, true_and, and_true, Nat.reduceEqDiff, Nat.reduceAdd, Nat.reduceLeDiff, Nat.reduceLT, dl_i, dl_r, dl_n, dl_u, eq_self, not_true_eq_false, not_false_eq_true, n10, n01, nm0, n0m, e97, wfv0, wfv1, wfv2, imp_t, imp_f]
          rw [nI_sb (by omega)]
          have hv : (bnd (sumD T n f' (s + 1)) (sgS T n (nI 41))) = .ok (sk T n c + 1, M) := by
            rw [e2]
            unfold bnd sgS
            dsimp only
            rw [if_pos q2]
            dsimp only
            rw [List.append_nil]
          refine h1 _ _ _ hv ((((Fz.tp ho.1).tr hF).tr F2).tr ((Fz.tp ho.1).tr (Fz.opn ho))) ?_
          rw [show 6 - f' - 1 = 6 - (f' + 1) by omega]
          exact (K2s.at ho.1 (by omega) (by omega)).opn ho (by omega)
        · simp only [ixr_of, run_s, run_0, rOr_readValue, rok_i, rok_z, bx_cons, bx_nil, eBP, eC0, eC1, eCV0, eCV1, eCV2, eCm1, eDUPr, eGI, eGO, eGR, eGW, jICeq, jICne, jIFeq, jIFne, eLA0, eLI1, ePI, eRI, eSI1, eSP, eSUB, fOr_readValue_0, fOr_readValue_12, fOr_readValue_19, fOr_readValue_26, fOr_readValue_38, fOr_readValue_40, fOr_readValue_52, fOr_readValue_62, fOr_readValue_87, fOr_readValue_91, fOr_readValue_92, fOr_readValue_93, fOr_readValue_109, fOr_readValue_118, bOr_readValue_0, bOr_readValue_12, bOr_readValue_19, bOr_readValue_26, bOr_readValue_38, bOr_readValue_40, bOr_readValue_52, bOr_readValue_62, bOr_readValue_87, bOr_readValue_91, bOr_readValue_92, bOr_readValue_93, bOr_readValue_109, bOr_readValue_118, rg_xopinionReader_0, ty_xopinionReader, ty_xtape, Option.toList_some, Option.toList_none, List.cons_append, List.nil_append, List.length_cons, List.length_nil, List.mem_cons, List.not_mem_nil, or_false, false_or, or_true, true_or, ↓reduceIte, true_and, and_true, Nat.reduceEqDiff, Nat.reduceAdd, Nat.reduceLeDiff, Nat.reduceLT, dl_i, dl_r, dl_n, dl_u, eq_self, not_true_eq_false, not_false_eq_true, n10, n01, nm0, n0m, wfv0, wfv1, wfv2, imp_t, imp_f]
          have hv : (bnd (sumD T n f' (s + 1)) (sgS T n (nI 41))) = .error (1, sk T n c) := by
            rw [e2]
            unfold bnd sgS
            dsimp only
            rw [if_neg q2]
          exact h2 _ _ hv ((((Fz.tp ho.1).tr hF).tr F2).tr (Fz.tf ho.1)) (K2s.er ho.1)
      · simp only [ixr_of, run_s, run_0, rOr_readValue, rok_i, rok_z, bx_cons, bx_nil, eBP, eC0, eC1, eCV0, eCV1, eCV2, eCm1, eDUPr, eGI, eGO, eGR, eGW, jICeq, jICne, jIFeq, jIFne, eLA0, eLI1, ePI, eRI, eSI1, eSP, eSUB, fOr_readValue_0, fOr_readValue_12, fOr_readValue_19, fOr_readValue_26, fOr_readValue_38, fOr_readValue_40, fOr_readValue_52, fOr_readValue_62, fOr_readValue_87, fOr_readValue_91, fOr_readValue_92, fOr_readValue_93, fOr_readValue_109, fOr_readValue_118, bOr_readValue_0, bOr_readValue_12, bOr_readValue_19, bOr_readValue_26, bOr_readValue_38, bOr_readValue_40, bOr_readValue_52, bOr_readValue_62, bOr_readValue_87, bOr_readValue_91, bOr_readValue_92, bOr_readValue_93, bOr_readValue_109, bOr_readValue_118, rg_xopinionReader_0, ty_xopinionReader, ty_xtape, Option.toList_some, Option.toList_none, List.cons_append, List.nil_append, List.length_cons, List.length_nil, List.mem_cons, List.not_mem_nil, or_false, false_or, or_true, true_or, ↓reduceIte, true_and, and_true, Nat.reduceEqDiff, Nat.reduceAdd, Nat.reduceLeDiff, Nat.reduceLT, dl_i, dl_r, dl_n, dl_u, eq_self, not_true_eq_false, not_false_eq_true, n10, n01, nm0, n0m, wfv0, wfv1, wfv2, imp_t, imp_f]
        exact h2 _ _ (by show bnd (sumD T n f' (s + 1)) _ = _; rw [e2]; rfl) (((Fz.tp ho.1).tr hF).tr F2) K2s
  · rw [← hse] at q ⊢
    rw [if_neg q] at h1 h2 hg
    have hat : OXS T n (tp J s s) s o (6 - f) L := h.at ho.1 hs.2 (by omega)
    simp only [ixr_of, run_s, run_0, rOr_readValue, rok_i, rok_z, bx_cons, bx_nil, eBP, eC0, eC1, eCV0, eCV1, eCV2, eCm1, eDUPr, eGI, eGO, eGR, eGW, jICeq, jICne, jIFeq, jIFne, eLA0, eLI1, ePI, eRI, eSI1, eSP, eSUB, fOr_readValue_0, fOr_readValue_12, fOr_readValue_19, fOr_readValue_26, fOr_readValue_38, fOr_readValue_40, fOr_readValue_52, fOr_readValue_62, fOr_readValue_87, fOr_readValue_91, fOr_readValue_92, fOr_readValue_93, fOr_readValue_109, fOr_readValue_118, bOr_readValue_0, bOr_readValue_12, bOr_readValue_19, bOr_readValue_26, bOr_readValue_38, bOr_readValue_40, bOr_readValue_52, bOr_readValue_62, bOr_readValue_87, bOr_readValue_91, bOr_readValue_92, bOr_readValue_93, bOr_readValue_109, bOr_readValue_118, rg_xopinionReader_0, ty_xopinionReader, ty_xtape, Option.toList_some, Option.toList_none, List.cons_append, List.nil_append, List.length_cons, List.length_nil, List.mem_cons, List.not_mem_nil, or_false, false_or, or_true, true_or, ↓reduceIte, true_and, and_true, Nat.reduceEqDiff, Nat.reduceAdd, Nat.reduceLeDiff, Nat.reduceLT, dl_i, dl_r, dl_n, dl_u, eq_self, not_true_eq_false, not_false_eq_true, n10, n01, nm0, n0m, wfv0, wfv1, wfv2, imp_t, imp_f]
    refine call0 (x_isDigit hat.1.1 ?_)
    simp only [ixr_of, run_s, run_0, rOr_readValue, rok_i, rok_z, bx_cons, bx_nil, eBP, eC0, eC1, eCV0, eCV1, eCV2, eCm1, eDUPr, eGI, eGO, eGR, eGW, jICeq, jICne, jIFeq, jIFne, eLA0, eLI1, ePI, eRI, eSI1, eSP, eSUB, fOr_readValue_0, fOr_readValue_12, fOr_readValue_19, fOr_readValue_26, fOr_readValue_38, fOr_readValue_40, fOr_readValue_52, fOr_readValue_62, fOr_readValue_87, fOr_readValue_91, fOr_readValue_92, fOr_readValue_93, fOr_readValue_109, fOr_readValue_118, bOr_readValue_0, bOr_readValue_12, bOr_readValue_19, bOr_readValue_26, bOr_readValue_38, bOr_readValue_40, bOr_readValue_52, bOr_readValue_62, bOr_readValue_87, bOr_readValue_91, bOr_readValue_92, bOr_readValue_93, bOr_readValue_109, bOr_readValue_118, rg_xopinionReader_0, ty_xopinionReader, ty_xtape, Option.toList_some, Option.toList_none, List.cons_append, List.nil_append, List.length_cons, List.length_nil, List.mem_cons, List.not_mem_nil, or_false, false_or, or_true, true_or, ↓reduceIte, true_and, and_true, Nat.reduceEqDiff, Nat.reduceAdd, Nat.reduceLeDiff, Nat.reduceLT, dl_i, dl_r, dl_n, dl_u, eq_self, not_true_eq_false, not_false_eq_true, n10, n01, nm0, n0m, wfv0, wfv1, wfv2, imp_t, imp_f]
    by_cases hd : nI 48 ≤ T s ∧ T s ≤ nI 57
    · rw [bi_t hd]
      refine ⟨fun q => absurd q (by decide), fun _ => ?_⟩
      rw [if_neg (show ¬ asW (wcode T n s) < 7 by rw [wcode_d hd]; exact asW_0)] at h1 h2 hg
      refine call0 (x_numS hat.1 (Or.inl rfl) (Int32.le_refl _) (fun c p q3 hp _ _ hc => ?_) (fun e x q3 hx => ?_))
      · rw [hss, tp_tp]
        unfold nuS at q3
        by_cases q4 : nmF T n s (nI 0) (nI 999) = 0
        rotate_left
        · rw [if_neg q4] at q3; cases q3
        rw [if_pos q4] at q3 h1 h2 hg
        cases q3
        have hgc := hg _ _ rfl
        obtain ⟨v, hv⟩ : ∃ v, v = (nmV T n s).toNatClampNeg := ⟨_, rfl⟩
        rw [← hv] at hp hgc h1 h2 ⊢
        have hl1 : L.length + 1 ≤ nmE T n s := by
          have : [(0, v)].length + a ≤ nmE T n s := hgc.2.2
          rw [show [(0, v)].length = 1 from rfl] at this
          omega
        have hat2 : OXS T n (tp J (nmE T n s) s) (nmE T n s) o (6 - f) L := h.at ho.1 hc (by omega)
        have hln := hat2.2.1
        simp only [ixr_of, run_s, run_0, rOr_readValue, rok_i, rok_z, bx_cons, bx_nil, eBP, eC0, eC1, eCV0, eCV1, eCV2, eCm1, eDUPr, eGI, eGO, eGR, eGW, jICeq, jICne, jIFeq, jIFne, eLA0, eLI1, ePI, eRI, eSI1, eSP, eSUB, fOr_readValue_0, fOr_readValue_12, fOr_readValue_19, fOr_readValue_26, fOr_readValue_38, fOr_readValue_40, fOr_readValue_52, fOr_readValue_62, fOr_readValue_87, fOr_readValue_91, fOr_readValue_92, fOr_readValue_93, fOr_readValue_109, fOr_readValue_118, bOr_readValue_0, bOr_readValue_12, bOr_readValue_19, bOr_readValue_26, bOr_readValue_38, bOr_readValue_40, bOr_readValue_52, bOr_readValue_62, bOr_readValue_87, bOr_readValue_91, bOr_readValue_92, bOr_readValue_93, bOr_readValue_109, bOr_readValue_118, rg_xopinionReader_0, ty_xopinionReader, ty_xtape, Option.toList_some, Option.toList_none, List.cons_append, List.nil_append, List.length_cons, List.length_nil, List.mem_cons, List.not_mem_nil, or_false, false_or, or_true, true_or, ↓reduceIte, true_and, and_true, Nat.reduceEqDiff, Nat.reduceAdd, Nat.reduceLeDiff, Nat.reduceLT, dl_i, dl_r, dl_n, dl_u, eq_self, not_true_eq_false, not_false_eq_true, n10, n01, nm0, n0m, r1, tO, wfv0, wfv1, wfv2, imp_t, imp_f]
        refine call0 (x_add hR.1 hat2.2.2.1.1 (by omega) ?_)
        have hne : (nI v = -1) = False := eq_false (nI_nm (by omega))
        simp only [ixr_of, run_s, run_0, rOr_readValue, rok_i, rok_z, bx_cons, bx_nil, eBP, eC0, eC1, eCV0, eCV1, eCV2, eCm1, eDUPr, eGI, eGO, eGR, eGW, jICeq, jICne, jIFeq, jIFne, eLA0, eLI1, ePI, eRI, eSI1, eSP, eSUB, fOr_readValue_0, fOr_readValue_12, fOr_readValue_19, fOr_readValue_26, fOr_readValue_38, fOr_readValue_40, fOr_readValue_52, fOr_readValue_62, fOr_readValue_87, fOr_readValue_91, fOr_readValue_92, fOr_readValue_93, fOr_readValue_109, fOr_readValue_118, bOr_readValue_0, bOr_readValue_12, bOr_readValue_19, bOr_readValue_26, bOr_readValue_38, bOr_readValue_40, bOr_readValue_52, bOr_readValue_62, bOr_readValue_87, bOr_readValue_91, bOr_readValue_92, bOr_readValue_93, bOr_readValue_109, bOr_readValue_118, rg_xopinionReader_0, ty_xopinionReader, ty_xtape, Option.toList_some, Option.toList_none, List.cons_append, List.nil_append, List.length_cons, List.length_nil, List.mem_cons, List.not_mem_nil, or_false, false_or, or_true, true_or, ↓reduceIte, true_and, and_true, Nat.reduceEqDiff, Nat.reduceAdd, Nat.reduceLeDiff, Nat.reduceLT, dl_i, dl_r, dl_n, dl_u, eq_self, not_true_eq_false, not_false_eq_true, n10, n01, nm0, n0m, hne, wfv0, wfv1, wfv2, imp_t, imp_f]
        exact h1 _ _ _ rfl ((Fz.tp ho.1).tr (Fz.ad ho.1)) (hat2.ad ho hl1 (by omega))
      · unfold nuS at q3
        rw [tf_tp]
        by_cases q4 : nmF T n s (nI 0) (nI 999) = 0
        · rw [if_pos q4] at q3; cases q3
        rw [if_neg q4] at q3 h1 h2 hg
        cases q3
        simp only [ixr_of, run_s, run_0, rOr_readValue, rok_i, rok_z, bx_cons, bx_nil, eBP, eC0, eC1, eCV0, eCV1, eCV2, eCm1, eDUPr, eGI, eGO, eGR, eGW, jICeq, jICne, jIFeq, jIFne, eLA0, eLI1, ePI, eRI, eSI1, eSP, eSUB, fOr_readValue_0, fOr_readValue_12, fOr_readValue_19, fOr_readValue_26, fOr_readValue_38, fOr_readValue_40, fOr_readValue_52, fOr_readValue_62, fOr_readValue_87, fOr_readValue_91, fOr_readValue_92, fOr_readValue_93, fOr_readValue_109, fOr_readValue_118, bOr_readValue_0, bOr_readValue_12, bOr_readValue_19, bOr_readValue_26, bOr_readValue_38, bOr_readValue_40, bOr_readValue_52, bOr_readValue_62, bOr_readValue_87, bOr_readValue_91, bOr_readValue_92, bOr_readValue_93, bOr_readValue_109, bOr_readValue_118, rg_xopinionReader_0, ty_xopinionReader, ty_xtape, Option.toList_some, Option.toList_none, List.cons_append, List.nil_append, List.length_cons, List.length_nil, List.mem_cons, List.not_mem_nil, or_false, false_or, or_true, true_or, ↓reduceIte, true_and, and_true, Nat.reduceEqDiff, Nat.reduceAdd, Nat.reduceLeDiff, Nat.reduceLT, dl_i, dl_r, dl_n, dl_u, eq_self, not_true_eq_false, not_false_eq_true, n10, n01, nm0, n0m, r1, tO, wfv0, wfv1, wfv2, imp_t, imp_f]
        refine call0 (x_addw ho.1 hR.1 (h.er ho.1) (fun K hF hK => ?_))
        simp only [ixr_of, run_s, run_0, rOr_readValue, rok_i, rok_z, bx_cons, bx_nil, eBP, eC0, eC1, eCV0, eCV1, eCV2, eCm1, eDUPr, eGI, eGO, eGR, eGW, jICeq, jICne, jIFeq, jIFne, eLA0, eLI1, ePI, eRI, eSI1, eSP, eSUB, fOr_readValue_0, fOr_readValue_12, fOr_readValue_19, fOr_readValue_26, fOr_readValue_38, fOr_readValue_40, fOr_readValue_52, fOr_readValue_62, fOr_readValue_87, fOr_readValue_91, fOr_readValue_92, fOr_readValue_93, fOr_readValue_109, fOr_readValue_118, bOr_readValue_0, bOr_readValue_12, bOr_readValue_19, bOr_readValue_26, bOr_readValue_38, bOr_readValue_40, bOr_readValue_52, bOr_readValue_62, bOr_readValue_87, bOr_readValue_91, bOr_readValue_92, bOr_readValue_93, bOr_readValue_109, bOr_readValue_118, rg_xopinionReader_0, ty_xopinionReader, ty_xtape, Option.toList_some, Option.toList_none, List.cons_append, List.nil_append, List.length_cons, List.length_nil, List.mem_cons, List.not_mem_nil, or_false, false_or, or_true, true_or, ↓reduceIte, true_and, and_true, Nat.reduceEqDiff, Nat.reduceAdd, Nat.reduceLeDiff, Nat.reduceLT, dl_i, dl_r, dl_n, dl_u, eq_self, not_true_eq_false, not_false_eq_true, n10, n01, nm0, n0m, wfv0, wfv1, wfv2, imp_t, imp_f]
        rw [hss] at hK hF
        exact h2 _ _ rfl ((Fz.tf ho.1).tr hF) hK
    · rw [bi_f hd]
      refine ⟨fun _ => ?_, fun q => absurd rfl q⟩
      refine call0 (x_nextWord hG.1 hat.1.1 (fun w hw => ?_))
      rw [hss] at hw ⊢
      rw [tp_tp]
      have w20 := hw.1
      have hG1 := hG.1
      have has := hw.f.2.2
      by_cases w7 : w < 7
      · have ew : wak w = nI w := if_pos w7
        have hne : (nI w = -1) = False := eq_false (nI_nm (by omega))
        have ha7 : asX w < 7 ∧ enc (1, asX w) = 1000 + w := by
          have : ∀ w, w < 7 → asX w < 7 ∧ enc (1, asX w) = 1000 + w := by decide
          exact this w w7
        rw [has, if_pos ha7.1] at h1 h2 hg
        have hgc := hg _ _ rfl
        have hl1 : L.length + 1 ≤ wEnd T n s := by
          have : [(1, asX w)].length + a ≤ wEnd T n s := hgc.2.2
          rw [show [(1, asX w)].length = 1 from rfl] at this
          omega
        have hat2 : OXS T n (tp J (wEnd T n s) s) (wEnd T n s) o (6 - f) L := h.at ho.1 hgc.2.1 (by omega)
        simp only [ixr_of, run_s, run_0, rOr_readValue, rok_i, rok_z, bx_cons, bx_nil, eBP, eC0, eC1, eCV0, eCV1, eCV2, eCm1, eDUPr, eGI, eGO, eGR, eGW, jICeq, jICne, jIFeq, jIFne, eLA0, eLI1, ePI, eRI, eSI1, eSP, eSUB, fOr_readValue_0, fOr_readValue_12, fOr_readValue_19, fOr_readValue_26, fOr_readValue_38, fOr_readValue_40, fOr_readValue_52, fOr_readValue_62, fOr_readValue_87, fOr_readValue_91, fOr_readValue_92, fOr_readValue_93, fOr_readValue_109, fOr_readValue_118, bOr_readValue_0, bOr_readValue_12, bOr_readValue_19, bOr_readValue_26, bOr_readValue_38, bOr_readValue_40, bOr_readValue_52, bOr_readValue_62, bOr_readValue_87, bOr_readValue_91, bOr_readValue_92, bOr_readValue_93, bOr_readValue_109, bOr_readValue_118, rg_xopinionReader_0, ty_xopinionReader, ty_xtape, Option.toList_some, Option.toList_none, List.cons_append, List.nil_append, List.length_cons, List.length_nil, List.mem_cons, List.not_mem_nil, or_false, false_or, or_true, true_or, ↓reduceIte, true_and, and_true, Nat.reduceEqDiff, Nat.reduceAdd, Nat.reduceLeDiff, Nat.reduceLT, dl_i, dl_r, dl_n, dl_u, eq_self, not_true_eq_false, not_false_eq_true, n10, n01, nm0, n0m, r1, tO, hG1, (gwE hG), w20, ew, hne, wfv0, wfv1, wfv2, imp_t, imp_f]
        refine call0 (x_addLook hG hR.1 ho hat2 hl1 w7 (fun K hF hK => ?_))
        simp only [ixr_of, run_s, run_0, rOr_readValue, rok_i, rok_z, bx_cons, bx_nil, eBP, eC0, eC1, eCV0, eCV1, eCV2, eCm1, eDUPr, eGI, eGO, eGR, eGW, jICeq, jICne, jIFeq, jIFne, eLA0, eLI1, ePI, eRI, eSI1, eSP, eSUB, fOr_readValue_0, fOr_readValue_12, fOr_readValue_19, fOr_readValue_26, fOr_readValue_38, fOr_readValue_40, fOr_readValue_52, fOr_readValue_62, fOr_readValue_87, fOr_readValue_91, fOr_readValue_92, fOr_readValue_93, fOr_readValue_109, fOr_readValue_118, bOr_readValue_0, bOr_readValue_12, bOr_readValue_19, bOr_readValue_26, bOr_readValue_38, bOr_readValue_40, bOr_readValue_52, bOr_readValue_62, bOr_readValue_87, bOr_readValue_91, bOr_readValue_92, bOr_readValue_93, bOr_readValue_109, bOr_readValue_118, rg_xopinionReader_0, ty_xopinionReader, ty_xtape, Option.toList_some, Option.toList_none, List.cons_append, List.nil_append, List.length_cons, List.length_nil, List.mem_cons, List.not_mem_nil, or_false, false_or, or_true, true_or, ↓reduceIte, true_and, and_true, Nat.reduceEqDiff, Nat.reduceAdd, Nat.reduceLeDiff, Nat.reduceLT, dl_i, dl_r, dl_n, dl_u, eq_self, not_true_eq_false, not_false_eq_true, n10, n01, nm0, n0m, wfv0, wfv1, wfv2, imp_t, imp_f]
        refine h1 _ _ _ rfl ((Fz.tp ho.1).tr hF) ?_
        show OXS T n K _ o _ (L ++ [enc (1, asX w)])
        rw [ha7.2]
        exact hK
      · have ew : wak w = -1 := if_neg w7
        have ha7 : ¬ asX w < 7 := by
          have : ∀ w, w < 20 → ¬ w < 7 → ¬ asX w < 7 := by decide
          exact this w w20 w7
        have hF1 : nmF T n s (nI 0) (nI 999) = 1 := by unfold nmF; rw [hss, if_pos hd]
        rw [has, if_neg ha7, hF1, if_neg (by decide)] at h1 h2 hg
        simp only [ixr_of, run_s, run_0, rOr_readValue, rok_i, rok_z, bx_cons, bx_nil, eBP, eC0, eC1, eCV0, eCV1, eCV2, eCm1, eDUPr, eGI, eGO, eGR, eGW, jICeq, jICne, jIFeq, jIFne, eLA0, eLI1, ePI, eRI, eSI1, eSP, eSUB, fOr_readValue_0, fOr_readValue_12, fOr_readValue_19, fOr_readValue_26, fOr_readValue_38, fOr_readValue_40, fOr_readValue_52, fOr_readValue_62, fOr_readValue_87, fOr_readValue_91, fOr_readValue_92, fOr_readValue_93, fOr_readValue_109, fOr_readValue_118, bOr_readValue_0, bOr_readValue_12, bOr_readValue_19, bOr_readValue_26, bOr_readValue_38, bOr_readValue_40, bOr_readValue_52, bOr_readValue_62, bOr_readValue_87, bOr_readValue_91, bOr_readValue_92, bOr_readValue_93, bOr_readValue_109, bOr_readValue_118, rg_xopinionReader_0, ty_xopinionReader, ty_xtape, Option.toList_some, Option.toList_none, List.cons_append, List.nil_append, List.length_cons, List.length_nil, List.mem_cons, List.not_mem_nil, or_false, false_or, or_true, true_or, ↓reduceIte, true_and, and_true, Nat.reduceEqDiff, Nat.reduceAdd, Nat.reduceLeDiff, Nat.reduceLT, dl_i, dl_r, dl_n, dl_u, eq_self, not_true_eq_false, not_false_eq_true, n10, n01, nm0, n0m, r1, tO, hG1, (gwE hG), w20, ew, wfv0, wfv1, wfv2, imp_t, imp_f]
        refine call0 (x_fails (k := 1) ?_)
        simp only [ixr_of, run_s, run_0, rOr_readValue, rok_i, rok_z, bx_cons, bx_nil, eBP, eC0, eC1, eCV0, eCV1, eCV2, eCm1, eDUPr, eGI, eGO, eGR, eGW, jICeq, jICne, jIFeq, jIFne, eLA0, eLI1, ePI, eRI, eSI1, eSP, eSUB, fOr_readValue_0, fOr_readValue_12, fOr_readValue_19, fOr_readValue_26, fOr_readValue_38, fOr_readValue_40, fOr_readValue_52, fOr_readValue_62, fOr_readValue_87, fOr_readValue_91, fOr_readValue_92, fOr_readValue_93, fOr_readValue_109, fOr_readValue_118, bOr_readValue_0, bOr_readValue_12, bOr_readValue_19, bOr_readValue_26, bOr_readValue_38, bOr_readValue_40, bOr_readValue_52, bOr_readValue_62, bOr_readValue_87, bOr_readValue_91, bOr_readValue_92, bOr_readValue_93, bOr_readValue_109, bOr_readValue_118, rg_xopinionReader_0, ty_xopinionReader, ty_xtape, Option.toList_some, Option.toList_none, List.cons_append, List.nil_append, List.length_cons, List.length_nil, List.mem_cons, List.not_mem_nil, or_false, false_or, or_true, true_or, ↓reduceIte, true_and, and_true, Nat.reduceEqDiff, Nat.reduceAdd, Nat.reduceLeDiff, Nat.reduceLT, dl_i, dl_r, dl_n, dl_u, eq_self, not_true_eq_false, not_false_eq_true, n10, n01, nm0, n0m, wfv0, wfv1, wfv2, imp_t, imp_f]
        exact h2 _ _ rfl (Fz.tf ho.1) (h.er ho.1)
end XOr
