/-! contracts of the class, 10: a town, read -/
theorem clS_r {T : Nat → Int32} {n cl a : Nat} {S : Tn} (hcl : cl ≤ 60) : clS T n cl S a = (match rcS T n cl S a with
    | .error e => .error e
    | .ok (c, S') => match sgS T n (nI 59) c with
      | .error e => .error e
      | .ok (c', _) => .ok (c', S')) := by
  unfold clS rcS rrS
  generalize kdW (wcode T n (sk T n a)) = k
  by_cases q9 : k = 9
  · rw [if_pos q9, if_pos q9]
  · rw [if_neg q9, if_neg q9]
    by_cases qc : cl = 60
    · rw [if_pos (Or.inl qc), if_pos qc]
    · rw [if_neg qc]
      by_cases q3 : (k = 0 ∧ S.1.1 = 9) ∨ (k = 1 ∧ S.1.2 = 20)
      · rw [if_pos (Or.inr q3), if_pos q3]
      · rw [if_neg (fun z => by rcases z with z | z; exact qc z; exact q3 z), if_neg q3]
        by_cases q2 : k = 2 ∧ ¬ S.2.1.1 = none
        · rw [if_pos q2, if_pos q2]
        · rw [if_neg q2, if_neg q2]
          rfl
theorem rcS_v {T : Nat → Int32} {n cl a c : Nat} {S S' : Tn} (hT : Tx T n) (ha : a ≤ n) (h : TnV S) (hr : rcS T n cl S a = .ok (c, S')) : a ≤ c ∧ c ≤ n ∧ cl ≠ 60 ∧ TnV S' := by
  have hs := sk_b (t := T) ha
  have hwe := rn_b (t := T) (lo := nI 97) (hi := nI 122) hs.2
  unfold rcS rrS at hr
  by_cases q9 : kdW (wcode T n (sk T n a)) = 9
  · rw [if_pos q9] at hr; cases hr
  · rw [if_neg q9] at hr
    by_cases qc : cl = 60
    · rw [if_pos qc] at hr; cases hr
    · rw [if_neg qc] at hr
      by_cases q3 : (kdW (wcode T n (sk T n a)) = 0 ∧ S.1.1 = 9) ∨ (kdW (wcode T n (sk T n a)) = 1 ∧ S.1.2 = 20)
      · rw [if_pos q3] at hr; cases hr
      · rw [if_neg q3] at hr
        by_cases q2 : kdW (wcode T n (sk T n a)) = 2 ∧ ¬ S.2.1.1 = none
        · rw [if_pos q2] at hr; cases hr
        · rw [if_neg q2] at hr
          have := reS_v hT hwe.2 h (fun e => by
            by_cases z : S.2.1.1 = none
            · exact z
            · exact absurd ⟨e, z⟩ q2) (fun e z => q3 (Or.inr ⟨e, z⟩)) (fun e z => q3 (Or.inl ⟨e, z⟩)) hr
          exact ⟨by have := hwe.1; have e : wEnd T n (sk T n a) = rn T (nI 97) (nI 122) n (sk T n a) := rfl; omega, this.2.1, qc, this.2.2⟩
theorem pf_tn0 {v : Nat} : pfS tn0 v = 0 := pfS_0 tn0_v (Nat.zero_le _)
section XTnR4
variable {Γ : Gm} {l : Launch} {b : Bool} {d : Nat} {I : Iv} {E : Ev} {kr : Kr} {kx : Kxx} {T : Nat → Int32} {n a t : Nat} {S : Tn}
theorem Fn.sr {t i : Nat} {r : Nat → Int32} {I : Iv} (h : t ≤ i ∧ i ≤ t + 10) (ht : 3 ≤ t) : Fn t I (sr I i r) := ⟨fun a _ q => sr_n (fun c => q (c ▸ h)), fun y _ => by rw [sr_n (by omega)]⟩
theorem x_tclear (hA : TnA (shB b) E t) (ht3 : 3 ≤ t) (hk : ∀ K, Fn t I K → K 1 = I 1 → XTn K t tn0 → kr none K E) : Ex Γ l (shB b) (d + 2) (0, 0) mTn_clear [.ref t] I E kr kx := by
  refine ex_of (ls0 := [some (.ref t)]) tTn_clear (by decide +kernel) kTn_clear rfl (Nat.le_of_ble_eq_true rfl) rfl ?_
  intro go hgo
  obtain ⟨ht, hj⟩ := hA
  obtain ⟨r1, t1, l1⟩ := hj 1 (by decide)
  obtain ⟨r2, t2, l2⟩ := hj 2 (by decide)
  obtain ⟨r3, t3, l3⟩ := hj 3 (by decide)
  obtain ⟨r4, t4, l4⟩ := hj 4 (by decide)
  obtain ⟨r5, t5, l5⟩ := hj 5 (by decide)
  obtain ⟨r6, t6', l6⟩ := hj 6 (by decide)
  refine hgo 20 [] 0 _ _ _ _ _ ?_
  simp only [ixr_of, run_s, run_0, rTn_clear, rok_i, rok_z, bx_cons, bx_nil, eBP, eC0, eCS2, eCm1, eGR, eLA0, ePI, eRV, fTn_clear_0, bTn_clear_0, Option.toList_some, Option.toList_none, List.cons_append, List.nil_append, List.length_cons, List.length_nil, List.mem_cons, List.not_mem_nil, or_false, false_or, or_true, true_or, ↓reduceIte, true_and, and_true, Nat.reduceEqDiff, Nat.reduceAdd, Nat.reduceLeDiff, Nat.reduceLT, dl_i, dl_r, dl_n, dl_u, eq_self, not_true_eq_false, not_false_eq_true, n10, n01, nm0, n0m, ht, r1, r2, r3, r4, r5, r6, imp_t, imp_f]
  refine call0 (x_fill t1 (by rw [l1]; decide) ?_)
  simp only [ixr_of, run_s, run_0, rTn_clear, rok_i, rok_z, bx_cons, bx_nil, eBP, eC0, eCS2, eCm1, eGR, eLA0, ePI, eRV, fTn_clear_0, bTn_clear_0, Option.toList_some, Option.toList_none, List.cons_append, List.nil_append, List.length_cons, List.length_nil, List.mem_cons, List.not_mem_nil, or_false, false_or, or_true, true_or, ↓reduceIte, true_and, and_true, Nat.reduceEqDiff, Nat.reduceAdd, Nat.reduceLeDiff, Nat.reduceLT, dl_i, dl_r, dl_n, dl_u, eq_self, not_true_eq_false, not_false_eq_true, n10, n01, nm0, n0m, ht, r1, r2, r3, r4, r5, r6, imp_t, imp_f]
  refine call0 (x_fill t2 (by rw [l2]; decide) ?_)
  simp only [ixr_of, run_s, run_0, rTn_clear, rok_i, rok_z, bx_cons, bx_nil, eBP, eC0, eCS2, eCm1, eGR, eLA0, ePI, eRV, fTn_clear_0, bTn_clear_0, Option.toList_some, Option.toList_none, List.cons_append, List.nil_append, List.length_cons, List.length_nil, List.mem_cons, List.not_mem_nil, or_false, false_or, or_true, true_or, ↓reduceIte, true_and, and_true, Nat.reduceEqDiff, Nat.reduceAdd, Nat.reduceLeDiff, Nat.reduceLT, dl_i, dl_r, dl_n, dl_u, eq_self, not_true_eq_false, not_false_eq_true, n10, n01, nm0, n0m, ht, r1, r2, r3, r4, r5, r6, imp_t, imp_f]
  refine call0 (x_fill t3 (by rw [l3]; decide) ?_)
  simp only [ixr_of, run_s, run_0, rTn_clear, rok_i, rok_z, bx_cons, bx_nil, eBP, eC0, eCS2, eCm1, eGR, eLA0, ePI, eRV, fTn_clear_0, bTn_clear_0, Option.toList_some, Option.toList_none, List.cons_append, List.nil_append, List.length_cons, List.length_nil, List.mem_cons, List.not_mem_nil, or_false, false_or, or_true, true_or, ↓reduceIte, true_and, and_true, Nat.reduceEqDiff, Nat.reduceAdd, Nat.reduceLeDiff, Nat.reduceLT, dl_i, dl_r, dl_n, dl_u, eq_self, not_true_eq_false, not_false_eq_true, n10, n01, nm0, n0m, ht, r1, r2, r3, r4, r5, r6, imp_t, imp_f]
  refine call0 (x_fill t4 (by rw [l4]; decide) ?_)
  simp only [ixr_of, run_s, run_0, rTn_clear, rok_i, rok_z, bx_cons, bx_nil, eBP, eC0, eCS2, eCm1, eGR, eLA0, ePI, eRV, fTn_clear_0, bTn_clear_0, Option.toList_some, Option.toList_none, List.cons_append, List.nil_append, List.length_cons, List.length_nil, List.mem_cons, List.not_mem_nil, or_false, false_or, or_true, true_or, ↓reduceIte, true_and, and_true, Nat.reduceEqDiff, Nat.reduceAdd, Nat.reduceLeDiff, Nat.reduceLT, dl_i, dl_r, dl_n, dl_u, eq_self, not_true_eq_false, not_false_eq_true, n10, n01, nm0, n0m, ht, r1, r2, r3, r4, r5, r6, imp_t, imp_f]
  refine call0 (x_fill t5 (by rw [l5]; decide) ?_)
  simp only [ixr_of, run_s, run_0, rTn_clear, rok_i, rok_z, bx_cons, bx_nil, eBP, eC0, eCS2, eCm1, eGR, eLA0, ePI, eRV, fTn_clear_0, bTn_clear_0, Option.toList_some, Option.toList_none, List.cons_append, List.nil_append, List.length_cons, List.length_nil, List.mem_cons, List.not_mem_nil, or_false, false_or, or_true, true_or, ↓reduceIte, true_and, and_true, Nat.reduceEqDiff, Nat.reduceAdd, Nat.reduceLeDiff, Nat.reduceLT, dl_i, dl_r, dl_n, dl_u, eq_self, not_true_eq_false, not_false_eq_true, n10, n01, nm0, n0m, ht, r1, r2, r3, r4, r5, r6, imp_t, imp_f]
  refine call0 (x_fill t6' (by rw [l6]; decide) ?_)
  simp only [ixr_of, run_s, run_0, rTn_clear, rok_i, rok_z, bx_cons, bx_nil, eBP, eC0, eCS2, eCm1, eGR, eLA0, ePI, eRV, fTn_clear_0, bTn_clear_0, Option.toList_some, Option.toList_none, List.cons_append, List.nil_append, List.length_cons, List.length_nil, List.mem_cons, List.not_mem_nil, or_false, false_or, or_true, true_or, ↓reduceIte, true_and, and_true, Nat.reduceEqDiff, Nat.reduceAdd, Nat.reduceLeDiff, Nat.reduceLT, dl_i, dl_r, dl_n, dl_u, eq_self, not_true_eq_false, not_false_eq_true, n10, n01, nm0, n0m, imp_t, imp_f]
  have u0 : ∀ x1 x2 x3 x4 x5, Fn t I (up (up (up (up (up I t 10 x1) t 11 x2) t 12 x3) t 13 x4) t 14 x5) := fun _ _ _ _ _ => ((((Fn.up (by omega) ht3).tr (Fn.up (by omega) ht3)).tr (Fn.up (by omega) ht3)).tr (Fn.up (by omega) ht3)).tr (Fn.up (by omega) ht3)
  refine hk _ ((((((u0 _ _ _ _ _).tr (Fn.sr (by omega) ht3)).tr (Fn.sr (by omega) ht3)).tr (Fn.sr (by omega) ht3)).tr (Fn.sr (by omega) ht3)).tr (Fn.sr (by omega) ht3) |>.tr (Fn.sr (by omega) ht3)) ?_ ?_
  · rw [sr_n (by omega), sr_n (by omega), sr_n (by omega), sr_n (by omega), sr_n (by omega), sr_n (by omega)]
    funext y
    rw [up_n (by omega), up_n (by omega), up_n (by omega), up_n (by omega), up_n (by omega)]
  · refine ⟨?_, ?_, ?_, ?_, ?_, fun v hv => absurd hv (Nat.not_lt_zero _), fun v hv => ?_, fun c hc => absurd hc (Nat.not_lt_zero _)⟩
    · rw [sr_n (by omega), sr_n (by omega), sr_n (by omega), sr_n (by omega), sr_n (by omega), sr_n (by omega), up_n (by omega), up_n (by omega), up_n (by omega), up_n (by omega), up_s]; rfl
    · rw [sr_n (by omega), sr_n (by omega), sr_n (by omega), sr_n (by omega), sr_n (by omega), sr_n (by omega), up_n (by omega), up_n (by omega), up_n (by omega), up_s]; rfl
    · rw [sr_n (by omega), sr_n (by omega), sr_n (by omega), sr_n (by omega), sr_n (by omega), sr_n (by omega), up_n (by omega), up_n (by omega), up_s]; rfl
    · rw [sr_n (by omega), sr_n (by omega), sr_n (by omega), sr_n (by omega), sr_n (by omega), sr_n (by omega), up_n (by omega), up_s]; rfl
    · rw [sr_n (by omega), sr_n (by omega), sr_n (by omega), sr_n (by omega), sr_n (by omega), sr_n (by omega), up_s]; rfl
    · rw [pf_tn0]
      have z : ∀ i, vz tn0 v i = 0 := fun i => if_neg (Nat.not_lt_zero _)
      rw [z, z, z, z]
      refine ⟨?_, ?_, ?_, ?_, ?_, fun h hh => ?_⟩
      · rw [sr_n (by omega), sr_n (by omega), sr_n (by omega), sr_n (by omega), sr_n (by omega), show t + 2 = t + 1 + 1 by omega, sr_s]
      · rw [sr_n (by omega), sr_n (by omega), sr_n (by omega), sr_n (by omega), show t + 3 = t + 1 + 2 by omega, sr_s]
      · rw [sr_n (by omega), sr_n (by omega), sr_n (by omega), show t + 4 = t + 1 + 3 by omega, sr_s]
      · rw [sr_n (by omega), sr_n (by omega), show t + 5 = t + 1 + 4 by omega, sr_s]
      · rw [sr_n (by omega), show t + 6 = t + 1 + 5 by omega, sr_s]
      · rw [z, show t + 7 = t + 1 + 6 by omega, sr_s]
theorem x_readTown (hG : GX Γ) (hA : TnA (shB b) E t) (ht3 : 3 ≤ t) (h : TS T n I 0) (hk1 : ∀ S' K, twS T n = .ok S' → Fn t I K → K 1 6 = -1 → XTn K t S' → TnV S' → kr (some (.int (nI 1))) K E)
    (hk2 : ∀ e K, twS T n = .error e → Fn t I K → TEr K e → kr (some (.int (nI 0))) K E) : Ex Γ l (shB b) (d + 11) (0, 0) mTn_read [.ref t, .ref 1] I E kr kx := by
  refine ex_of (ls0 := [some (.ref t), some (.ref 1), none]) tTn_read (by decide +kernel) kTn_read rfl (Nat.le_of_ble_eq_true rfl) rfl ?_
  intro go hgo
  have ht := hA.1
  have hTe : Tx T n := by rw [← h.1.1]; exact xt_Tx
  have loop : ∀ (g cl a : Nat) (K : Iv) (S : Tn), cl + g = 61 → cl ≤ 60 → TS T n K a → Fn t I K → XTn K t S → TnV S → twS T n = twL T n g cl S a → go 6 [some (.ref t), some (.ref 1), some (.int (nI cl))] [] K E (0, 0) := by
    intro g
    induction g with
    | zero => intro cl a K S hg h60 _ _ _ _ _; omega
    | succ g ih =>
      intro cl a K S hg h60 hK hF hX hV hv
      have han := hK.1.2.2.2.2.2
      have hs := sk_b (t := T) han
      refine hgo 20 [6] 6 _ _ _ _ _ ?_
      simp only [ixr_of, run_s, run_0, rTn_read, rok_i, rok_z, bx_cons, bx_nil, eBP, eC0, eC1, eCV0, eCV1, eCV2, eGO, jICgt, jIFeq, jIFne, eINC2, eLA0, eLA1, eLI2, eRI, eSI2, fTn_read_0, fTn_read_6, fTn_read_12, fTn_read_19, fTn_read_21, fTn_read_30, fTn_read_39, fTn_read_41, fTn_read_47, bTn_read_0, bTn_read_6, bTn_read_12, bTn_read_19, bTn_read_21, bTn_read_30, bTn_read_39, bTn_read_41, bTn_read_47, Option.toList_some, Option.toList_none, List.cons_append, List.nil_append, List.length_cons, List.length_nil, List.mem_cons, List.not_mem_nil, or_false, false_or, or_true, true_or, ↓reduceIte, true_and, and_true, Nat.reduceEqDiff, Nat.reduceAdd, Nat.reduceLeDiff, Nat.reduceLT, dl_i, dl_r, dl_n, dl_u, eq_self, not_true_eq_false, not_false_eq_true, n10, n01, nm0, n0m, ty_xtape, imp_t, imp_f]
      rw [nIs (by omega) (by omega)]
      refine ⟨fun q => absurd q (by omega), fun _ => ?_⟩
      refine call0 (x_isEnded hK.1 ?_)
      simp only [ixr_of, run_s, run_0, rTn_read, rok_i, rok_z, bx_cons, bx_nil, eBP, eC0, eC1, eCV0, eCV1, eCV2, eGO, jICgt, jIFeq, jIFne, eINC2, eLA0, eLA1, eLI2, eRI, eSI2, fTn_read_0, fTn_read_6, fTn_read_12, fTn_read_19, fTn_read_21, fTn_read_30, fTn_read_39, fTn_read_41, fTn_read_47, bTn_read_0, bTn_read_6, bTn_read_12, bTn_read_19, bTn_read_21, bTn_read_30, bTn_read_39, bTn_read_41, bTn_read_47, Option.toList_some, Option.toList_none, List.cons_append, List.nil_append, List.length_cons, List.length_nil, List.mem_cons, List.not_mem_nil, or_false, false_or, or_true, true_or, ↓reduceIte, true_and, and_true, Nat.reduceEqDiff, Nat.reduceAdd, Nat.reduceLeDiff, Nat.reduceLT, dl_i, dl_r, dl_n, dl_u, eq_self, not_true_eq_false, not_false_eq_true, n10, n01, nm0, n0m, imp_t, imp_f]
      unfold twL at hv
      by_cases hend : n ≤ sk T n a
      · rw [if_pos hend] at hv
        rw [bi_t hend]
        refine ⟨fun q => absurd q n10, fun _ => ?_⟩
        exact hk1 S _ hv (hF.tr Fn.tp) (by rw [tp_f (by decide) (by decide)]; exact hK.2) (hX.tp ht3) hV
      rw [if_neg hend, clS_r h60] at hv
      rw [bi_f hend]
      refine ⟨fun _ => ?_, fun q => absurd rfl q⟩
      simp only [ixr_of, run_s, run_0, rTn_read, rok_i, rok_z, bx_cons, bx_nil, eBP, eC0, eC1, eCV0, eCV1, eCV2, eGO, jICgt, jIFeq, jIFne, eINC2, eLA0, eLA1, eLI2, eRI, eSI2, fTn_read_0, fTn_read_6, fTn_read_12, fTn_read_19, fTn_read_21, fTn_read_30, fTn_read_39, fTn_read_41, fTn_read_47, bTn_read_0, bTn_read_6, bTn_read_12, bTn_read_19, bTn_read_21, bTn_read_30, bTn_read_39, bTn_read_41, bTn_read_47, Option.toList_some, Option.toList_none, List.cons_append, List.nil_append, List.length_cons, List.length_nil, List.mem_cons, List.not_mem_nil, or_false, false_or, or_true, true_or, ↓reduceIte, true_and, and_true, Nat.reduceEqDiff, Nat.reduceAdd, Nat.reduceLeDiff, Nat.reduceLT, dl_i, dl_r, dl_n, dl_u, eq_self, not_true_eq_false, not_false_eq_true, n10, n01, nm0, n0m, ht, imp_t, imp_f]
      have hsk : rcS T n cl S (sk T n a) = rcS T n cl S a := by
        unfold rcS
        rw [sk_sk han]
      refine call0 (x_readClause hG hA ht3 (TS.tp (s := sk T n a) hK hs.2) (hX.tp ht3) hV h60 ⟨fun c S' P h1 h2 h3 h4 => ?_, fun e P h1 h2 h3 => ?_⟩)
      rotate_left
      · rw [hsk] at h1
        rw [h1] at hv
        simp only [ixr_of, run_s, run_0, rTn_read, rok_i, rok_z, bx_cons, bx_nil, eBP, eC0, eC1, eCV0, eCV1, eCV2, eGO, jICgt, jIFeq, jIFne, eINC2, eLA0, eLA1, eLI2, eRI, eSI2, fTn_read_0, fTn_read_6, fTn_read_12, fTn_read_19, fTn_read_21, fTn_read_30, fTn_read_39, fTn_read_41, fTn_read_47, bTn_read_0, bTn_read_6, bTn_read_12, bTn_read_19, bTn_read_21, bTn_read_30, bTn_read_39, bTn_read_41, bTn_read_47, Option.toList_some, Option.toList_none, List.cons_append, List.nil_append, List.length_cons, List.length_nil, List.mem_cons, List.not_mem_nil, or_false, false_or, or_true, true_or, ↓reduceIte, true_and, and_true, Nat.reduceEqDiff, Nat.reduceAdd, Nat.reduceLeDiff, Nat.reduceLT, dl_i, dl_r, dl_n, dl_u, eq_self, not_true_eq_false, not_false_eq_true, n10, n01, nm0, n0m, imp_t, imp_f]
        exact hk2 e P hv ((hF.tr Fn.tp).tr h2) h3
      rw [hsk] at h1
      obtain ⟨-, hcn, hc60, hV'⟩ := rcS_v hTe han hV h1
      rw [h1] at hv
      simp only [ixr_of, run_s, run_0, rTn_read, rok_i, rok_z, bx_cons, bx_nil, eBP, eC0, eC1, eCV0, eCV1, eCV2, eGO, jICgt, jIFeq, jIFne, eINC2, eLA0, eLA1, eLI2, eRI, eSI2, fTn_read_0, fTn_read_6, fTn_read_12, fTn_read_19, fTn_read_21, fTn_read_30, fTn_read_39, fTn_read_41, fTn_read_47, bTn_read_0, bTn_read_6, bTn_read_12, bTn_read_19, bTn_read_21, bTn_read_30, bTn_read_39, bTn_read_41, bTn_read_47, Option.toList_some, Option.toList_none, List.cons_append, List.nil_append, List.length_cons, List.length_nil, List.mem_cons, List.not_mem_nil, or_false, false_or, or_true, true_or, ↓reduceIte, true_and, and_true, Nat.reduceEqDiff, Nat.reduceAdd, Nat.reduceLeDiff, Nat.reduceLT, dl_i, dl_r, dl_n, dl_u, eq_self, not_true_eq_false, not_false_eq_true, n10, n01, nm0, n0m, ty_xtape, imp_t, imp_f]
      have hsc := sk_b (t := T) hcn
      refine call0 (x_needSign (c := 59) h3.1 (by decide) (fun q => ?_) (fun q => ?_))
      · have hlt : sk T n c < n := hTe.lt (by decide) q
        simp only [ixr_of, run_s, run_0, rTn_read, rok_i, rok_z, bx_cons, bx_nil, eBP, eC0, eC1, eCV0, eCV1, eCV2, eGO, jICgt, jIFeq, jIFne, eINC2, eLA0, eLA1, eLI2, eRI, eSI2, fTn_read_0, fTn_read_6, fTn_read_12, fTn_read_19, fTn_read_21, fTn_read_30, fTn_read_39, fTn_read_41, fTn_read_47, bTn_read_0, bTn_read_6, bTn_read_12, bTn_read_19, bTn_read_21, bTn_read_30, bTn_read_39, bTn_read_41, bTn_read_47, Option.toList_some, Option.toList_none, List.cons_append, List.nil_append, List.length_cons, List.length_nil, List.mem_cons, List.not_mem_nil, or_false, false_or, or_true, true_or, ↓reduceIte, true_and, and_true, Nat.reduceEqDiff, Nat.reduceAdd, Nat.reduceLeDiff, Nat.reduceLT, dl_i, dl_r, dl_n, dl_u, eq_self, not_true_eq_false, not_false_eq_true, n10, n01, nm0, n0m, imp_t, imp_f]
        rw [nI_add]
        refine ih (cl + 1) (sk T n c + 1) _ S' (by omega) (by omega) (TS.tp (s := sk T n c) h3 (by omega)) (((hF.tr Fn.tp).tr h2).tr Fn.tp) (h4.tp ht3) hV' ?_
        rw [hv]
        simp only [sgS]
        rw [if_pos q]
      · simp only [ixr_of, run_s, run_0, rTn_read, rok_i, rok_z, bx_cons, bx_nil, eBP, eC0, eC1, eCV0, eCV1, eCV2, eGO, jICgt, jIFeq, jIFne, eINC2, eLA0, eLA1, eLI2, eRI, eSI2, fTn_read_0, fTn_read_6, fTn_read_12, fTn_read_19, fTn_read_21, fTn_read_30, fTn_read_39, fTn_read_41, fTn_read_47, bTn_read_0, bTn_read_6, bTn_read_12, bTn_read_19, bTn_read_21, bTn_read_30, bTn_read_39, bTn_read_41, bTn_read_47, Option.toList_some, Option.toList_none, List.cons_append, List.nil_append, List.length_cons, List.length_nil, List.mem_cons, List.not_mem_nil, or_false, false_or, or_true, true_or, ↓reduceIte, true_and, and_true, Nat.reduceEqDiff, Nat.reduceAdd, Nat.reduceLeDiff, Nat.reduceLT, dl_i, dl_r, dl_n, dl_u, eq_self, not_true_eq_false, not_false_eq_true, n10, n01, nm0, n0m, imp_t, imp_f]
        refine hk2 (1, sk T n c) _ ?_ (((hF.tr Fn.tp).tr h2).tr Fn.tf) tf_e
        rw [hv]
        simp only [sgS]
        rw [if_neg q]
  refine hgo 20 [6] 0 _ _ _ _ _ ?_
  simp only [ixr_of, run_s, run_0, rTn_read, rok_i, rok_z, bx_cons, bx_nil, eBP, eC0, eC1, eCV0, eCV1, eCV2, eGO, jICgt, jIFeq, jIFne, eINC2, eLA0, eLA1, eLI2, eRI, eSI2, fTn_read_0, fTn_read_6, fTn_read_12, fTn_read_19, fTn_read_21, fTn_read_30, fTn_read_39, fTn_read_41, fTn_read_47, bTn_read_0, bTn_read_6, bTn_read_12, bTn_read_19, bTn_read_21, bTn_read_30, bTn_read_39, bTn_read_41, bTn_read_47, Option.toList_some, Option.toList_none, List.cons_append, List.nil_append, List.length_cons, List.length_nil, List.mem_cons, List.not_mem_nil, or_false, false_or, or_true, true_or, ↓reduceIte, true_and, and_true, Nat.reduceEqDiff, Nat.reduceAdd, Nat.reduceLeDiff, Nat.reduceLT, dl_i, dl_r, dl_n, dl_u, eq_self, not_true_eq_false, not_false_eq_true, n10, n01, nm0, n0m, ht, imp_t, imp_f]
  refine call0 (x_tclear hA ht3 (fun K hF h1 hX => ?_))
  simp only [ixr_of, run_s, run_0, rTn_read, rok_i, rok_z, bx_cons, bx_nil, eBP, eC0, eC1, eCV0, eCV1, eCV2, eGO, jICgt, jIFeq, jIFne, eINC2, eLA0, eLA1, eLI2, eRI, eSI2, fTn_read_0, fTn_read_6, fTn_read_12, fTn_read_19, fTn_read_21, fTn_read_30, fTn_read_39, fTn_read_41, fTn_read_47, bTn_read_0, bTn_read_6, bTn_read_12, bTn_read_19, bTn_read_21, bTn_read_30, bTn_read_39, bTn_read_41, bTn_read_47, Option.toList_some, Option.toList_none, List.cons_append, List.nil_append, List.length_cons, List.length_nil, List.mem_cons, List.not_mem_nil, or_false, false_or, or_true, true_or, ↓reduceIte, true_and, and_true, Nat.reduceEqDiff, Nat.reduceAdd, Nat.reduceLeDiff, Nat.reduceLT, dl_i, dl_r, dl_n, dl_u, eq_self, not_true_eq_false, not_false_eq_true, n10, n01, nm0, n0m, imp_t, imp_f]
  exact loop 61 0 0 K tn0 rfl (by decide) (h.mvo h1 (hF.1 2 (by decide) (by omega))) hF hX tn0_v rfl
end XTnR4
