/-! contracts of HerbWatersModel, 25: products, sums, conditions (written by gen_cM26.py) -/
section CM26
variable {T : Nat → Int32} {n : Nat}
theorem c_product {f : Nat} {R : Nat → Rs} (hT : Tx T n) (hf6 : f ≤ 6) (hG : Gs n R) (hv : RdC T n mM_value 8 f R) : RdC T n mM_product 9 f (proW T n R) := by
  intro Γ l d I E kr kx a L hO ho he
  have ha : a ≤ n := hO.2.2.2.2.1
  refine ex_of (ls0 := [some (.ref 500000), none]) tM_product (by decide +kernel) kM_product rfl (Nat.le_of_ble_eq_true rfl) rfl ?_
  intro go hgo
  have loop : ∀ (g b : Nat) (J : Iv) (L' : List Cd) (t : Option Value), n - b < g → Fo I J → OSt T n J b (6 - f) L' → (∀ c M2 J2, lpL T n (nI 42) (nI 47) 4 5 R g b = .ok (c, M2) → Fo I J2 → OSt T n J2 c (6 - f) (L' ++ M2) → kr none J2 E) → (∀ e J2, lpL T n (nI 42) (nI 47) 4 5 R g b = .error e → Fo I J2 → OEr n J2 e → kr none J2 E) → go 4 [some (.ref 500000), t] [] J E (0, 0) := by
    intro g
    induction g with
    | zero => intro b J L' t hg; omega
    | succ g ih =>
      intro b J L' t hg hFJ hOJ hk hke
      have hf : J 500000 5 = nI 0 := hOJ.2.2.2.2.2.1
      have hb : b ≤ n := hOJ.2.2.2.2.1
      have hLb := hOJ.2.2.2.2.2.2.2.2.2.1
      have hs := sk_b (t := T) hb
      have skk : sk T n (sk T n b) = sk T n b := sk_sk hb
      have at38 : ∀ (k : Nat) (K : Iv) (c : Int32), ¬ c = -1 → T (sk T n b) = c → k < 9 → ¬ k = 1 → lpL T n (nI 42) (nI 47) 4 5 R (g + 1) b = bnd (R (sk T n b + 1)) (fun b => bnd (say1 (k, 0) b) (lpL T n (nI 42) (nI 47) 4 5 R g)) → Fo I K → OSt T n K (sk T n b + 1) (6 - f) L' → go 38 [some (.ref 500000), t] [.int (nI k)] K E (0, 0) := by
        intro k K c hc hTc hk9 hk1 hlp hFK hOK
        have hlt := hT.lt hc hTc
        refine hgo 20 [4] 38 _ _ _ _ _ ?_
        simp only [ixr_of, run_s, run_0, rM_product, rok_i, rok_z, bx_cons, bx_nil, eBP, eC0, eC4, eC5, eCV0, eCV1, eCV2, eCm1, eGI, eGO, jICne, jIFeq, jIFne, eLA0, eLI1, eRV, eSI1, fM_product_0, fM_product_4, fM_product_11, fM_product_20, fM_product_24, fM_product_33, fM_product_37, fM_product_38, fM_product_44, fM_product_45, fM_product_58, bM_product_0, bM_product_4, bM_product_11, bM_product_20, bM_product_24, bM_product_33, bM_product_37, bM_product_38, bM_product_44, bM_product_45, bM_product_58, ty_m, Option.toList_some, Option.toList_none, List.cons_append, List.nil_append, List.length_cons, List.length_nil, List.mem_cons, List.not_mem_nil, or_false, false_or, or_true, true_or, ↓reduceIte, true_and, and_true, Nat.reduceEqDiff, Nat.reduceAdd, Nat.reduceLeDiff, Nat.reduceLT, dl_i, dl_r, dl_n, dl_u, eq_self, not_true_eq_false, not_false_eq_true, n10, n01, nm0, n0m, imp_t, imp_f]
        refine ⟨fun q => ?_, fun q => absurd q (fun c => nIm k hk9 c.symm)⟩
        refine call0 (hv _ _ _ _ _ _ _ _ _ hOK (fun c M2 P hR hP hOP => ?_) (fun e P hR hP hE => ?_))
        · have hg1 := hG _ _ _ (by omega) hR
          have hlen : (L' ++ M2).length + 1 ≤ c := by rw [List.length_append]; omega
          simp only [ixr_of, run_s, run_0, rM_product, rok_i, rok_z, bx_cons, bx_nil, eBP, eC0, eC4, eC5, eCV0, eCV1, eCV2, eCm1, eGI, eGO, jICne, jIFeq, jIFne, eLA0, eLI1, eRV, eSI1, fM_product_0, fM_product_4, fM_product_11, fM_product_20, fM_product_24, fM_product_33, fM_product_37, fM_product_38, fM_product_44, fM_product_45, fM_product_58, bM_product_0, bM_product_4, bM_product_11, bM_product_20, bM_product_24, bM_product_33, bM_product_37, bM_product_38, bM_product_44, bM_product_45, bM_product_58, ty_m, Option.toList_some, Option.toList_none, List.cons_append, List.nil_append, List.length_cons, List.length_nil, List.mem_cons, List.not_mem_nil, or_false, false_or, or_true, true_or, ↓reduceIte, true_and, and_true, Nat.reduceEqDiff, Nat.reduceAdd, Nat.reduceLeDiff, Nat.reduceLT, dl_i, dl_r, dl_n, dl_u, eq_self, not_true_eq_false, not_false_eq_true, n10, n01, nm0, n0m, imp_t, imp_f]
          refine call0 (o_says hOP hlen (by omega) ?_)
          intro Q hQ hOQ
          simp only [ixr_of, run_s, run_0, rM_product, rok_i, rok_z, bx_cons, bx_nil, eBP, eC0, eC4, eC5, eCV0, eCV1, eCV2, eCm1, eGI, eGO, jICne, jIFeq, jIFne, eLA0, eLI1, eRV, eSI1, fM_product_0, fM_product_4, fM_product_11, fM_product_20, fM_product_24, fM_product_33, fM_product_37, fM_product_38, fM_product_44, fM_product_45, fM_product_58, bM_product_0, bM_product_4, bM_product_11, bM_product_20, bM_product_24, bM_product_33, bM_product_37, bM_product_38, bM_product_44, bM_product_45, bM_product_58, ty_m, Option.toList_some, Option.toList_none, List.cons_append, List.nil_append, List.length_cons, List.length_nil, List.mem_cons, List.not_mem_nil, or_false, false_or, or_true, true_or, ↓reduceIte, true_and, and_true, Nat.reduceEqDiff, Nat.reduceAdd, Nat.reduceLeDiff, Nat.reduceLT, dl_i, dl_r, dl_n, dl_u, eq_self, not_true_eq_false, not_false_eq_true, n10, n01, nm0, n0m, imp_t, imp_f]
          refine ih c Q _ _ (by omega) (hFK.tr (hP.tr hQ)) hOQ (fun c' M3 J2 h1 h2 h3 => ?_) (fun e J2 h1 h2 h3 => ?_)
          · rw [List.append_assoc, List.append_assoc] at h3
            refine hk c' _ J2 ?_ h2 h3
            rw [hlp, hR, bnd_o]
            show (match bnd (say1 (k, 0) c) _ with | .error e => Except.error e | .ok (b, m) => .ok (b, M2 ++ m)) = _
            unfold say1
            rw [bnd_o, h1]
          · refine hke e J2 ?_ h2 h3
            rw [hlp, hR, bnd_o]
            show (match bnd (say1 (k, 0) c) _ with | .error e => Except.error e | .ok (b, m) => .ok (b, M2 ++ m)) = _
            unfold say1
            rw [bnd_o, h1]
        · simp only [ixr_of, run_s, run_0, rM_product, rok_i, rok_z, bx_cons, bx_nil, eBP, eC0, eC4, eC5, eCV0, eCV1, eCV2, eCm1, eGI, eGO, jICne, jIFeq, jIFne, eLA0, eLI1, eRV, eSI1, fM_product_0, fM_product_4, fM_product_11, fM_product_20, fM_product_24, fM_product_33, fM_product_37, fM_product_38, fM_product_44, fM_product_45, fM_product_58, bM_product_0, bM_product_4, bM_product_11, bM_product_20, bM_product_24, bM_product_33, bM_product_37, bM_product_38, bM_product_44, bM_product_45, bM_product_58, ty_m, Option.toList_some, Option.toList_none, List.cons_append, List.nil_append, List.length_cons, List.length_nil, List.mem_cons, List.not_mem_nil, or_false, false_or, or_true, true_or, ↓reduceIte, true_and, and_true, Nat.reduceEqDiff, Nat.reduceAdd, Nat.reduceLeDiff, Nat.reduceLT, dl_i, dl_r, dl_n, dl_u, eq_self, not_true_eq_false, not_false_eq_true, n10, n01, nm0, n0m, imp_t, imp_f]
          refine call0 (f_says hE.nz ?_)
          simp only [ixr_of, run_s, run_0, rM_product, rok_i, rok_z, bx_cons, bx_nil, eBP, eC0, eC4, eC5, eCV0, eCV1, eCV2, eCm1, eGI, eGO, jICne, jIFeq, jIFne, eLA0, eLI1, eRV, eSI1, fM_product_0, fM_product_4, fM_product_11, fM_product_20, fM_product_24, fM_product_33, fM_product_37, fM_product_38, fM_product_44, fM_product_45, fM_product_58, bM_product_0, bM_product_4, bM_product_11, bM_product_20, bM_product_24, bM_product_33, bM_product_37, bM_product_38, bM_product_44, bM_product_45, bM_product_58, ty_m, Option.toList_some, Option.toList_none, List.cons_append, List.nil_append, List.length_cons, List.length_nil, List.mem_cons, List.not_mem_nil, or_false, false_or, or_true, true_or, ↓reduceIte, true_and, and_true, Nat.reduceEqDiff, Nat.reduceAdd, Nat.reduceLeDiff, Nat.reduceLT, dl_i, dl_r, dl_n, dl_u, eq_self, not_true_eq_false, not_false_eq_true, n10, n01, nm0, n0m, imp_t, imp_f]
          refine hgo 20 [11] 4 _ _ _ _ _ ?_
          simp only [ixr_of, run_s, run_0, rM_product, rok_i, rok_z, bx_cons, bx_nil, eBP, eC0, eC4, eC5, eCV0, eCV1, eCV2, eCm1, eGI, eGO, jICne, jIFeq, jIFne, eLA0, eLI1, eRV, eSI1, fM_product_0, fM_product_4, fM_product_11, fM_product_20, fM_product_24, fM_product_33, fM_product_37, fM_product_38, fM_product_44, fM_product_45, fM_product_58, bM_product_0, bM_product_4, bM_product_11, bM_product_20, bM_product_24, bM_product_33, bM_product_37, bM_product_38, bM_product_44, bM_product_45, bM_product_58, ty_m, Option.toList_some, Option.toList_none, List.cons_append, List.nil_append, List.length_cons, List.length_nil, List.mem_cons, List.not_mem_nil, or_false, false_or, or_true, true_or, ↓reduceIte, true_and, and_true, Nat.reduceEqDiff, Nat.reduceAdd, Nat.reduceLeDiff, Nat.reduceLT, dl_i, dl_r, dl_n, dl_u, eq_self, not_true_eq_false, not_false_eq_true, n10, n01, nm0, n0m, imp_t, imp_f]
          refine ⟨fun _ => hke e P ?_ (hFK.tr hP) hE, fun q => absurd q hE.nz⟩
          rw [hlp, hR, bnd_e]
      refine hgo 20 [4, 38] 4 _ _ _ _ _ ?_
      simp only [ixr_of, run_s, run_0, rM_product, rok_i, rok_z, bx_cons, bx_nil, eBP, eC0, eC4, eC5, eCV0, eCV1, eCV2, eCm1, eGI, eGO, jICne, jIFeq, jIFne, eLA0, eLI1, eRV, eSI1, fM_product_0, fM_product_4, fM_product_11, fM_product_20, fM_product_24, fM_product_33, fM_product_37, fM_product_38, fM_product_44, fM_product_45, fM_product_58, bM_product_0, bM_product_4, bM_product_11, bM_product_20, bM_product_24, bM_product_33, bM_product_37, bM_product_38, bM_product_44, bM_product_45, bM_product_58, ty_m, Option.toList_some, Option.toList_none, List.cons_append, List.nil_append, List.length_cons, List.length_nil, List.mem_cons, List.not_mem_nil, or_false, false_or, or_true, true_or, ↓reduceIte, true_and, and_true, Nat.reduceEqDiff, Nat.reduceAdd, Nat.reduceLeDiff, Nat.reduceLT, dl_i, dl_r, dl_n, dl_u, eq_self, not_true_eq_false, not_false_eq_true, n10, n01, nm0, n0m, hf, imp_t, imp_f]
      refine call0 (o_takesSign hT hOJ (by decide) (fun q K hK hOK => ?_) (fun q K hK hOK => ?_))
      · simp only [ixr_of, run_s, run_0, rM_product, rok_i, rok_z, bx_cons, bx_nil, eBP, eC0, eC4, eC5, eCV0, eCV1, eCV2, eCm1, eGI, eGO, jICne, jIFeq, jIFne, eLA0, eLI1, eRV, eSI1, fM_product_0, fM_product_4, fM_product_11, fM_product_20, fM_product_24, fM_product_33, fM_product_37, fM_product_38, fM_product_44, fM_product_45, fM_product_58, bM_product_0, bM_product_4, bM_product_11, bM_product_20, bM_product_24, bM_product_33, bM_product_37, bM_product_38, bM_product_44, bM_product_45, bM_product_58, ty_m, Option.toList_some, Option.toList_none, List.cons_append, List.nil_append, List.length_cons, List.length_nil, List.mem_cons, List.not_mem_nil, or_false, false_or, or_true, true_or, ↓reduceIte, true_and, and_true, Nat.reduceEqDiff, Nat.reduceAdd, Nat.reduceLeDiff, Nat.reduceLT, dl_i, dl_r, dl_n, dl_u, eq_self, not_true_eq_false, not_false_eq_true, n10, n01, nm0, n0m, imp_t, imp_f]
        exact at38 4 K (nI 42) (by decide) q (by decide) (by decide) (by rw [lpL, if_pos q]) (hFJ.tr hK) hOK
      · simp only [ixr_of, run_s, run_0, rM_product, rok_i, rok_z, bx_cons, bx_nil, eBP, eC0, eC4, eC5, eCV0, eCV1, eCV2, eCm1, eGI, eGO, jICne, jIFeq, jIFne, eLA0, eLI1, eRV, eSI1, fM_product_0, fM_product_4, fM_product_11, fM_product_20, fM_product_24, fM_product_33, fM_product_37, fM_product_38, fM_product_44, fM_product_45, fM_product_58, bM_product_0, bM_product_4, bM_product_11, bM_product_20, bM_product_24, bM_product_33, bM_product_37, bM_product_38, bM_product_44, bM_product_45, bM_product_58, ty_m, Option.toList_some, Option.toList_none, List.cons_append, List.nil_append, List.length_cons, List.length_nil, List.mem_cons, List.not_mem_nil, or_false, false_or, or_true, true_or, ↓reduceIte, true_and, and_true, Nat.reduceEqDiff, Nat.reduceAdd, Nat.reduceLeDiff, Nat.reduceLT, dl_i, dl_r, dl_n, dl_u, eq_self, not_true_eq_false, not_false_eq_true, n10, n01, nm0, n0m, imp_t, imp_f]
        refine call0 (o_takesSign hT hOK (by decide) (fun q2 P hP hOP => ?_) (fun q2 P hP hOP => ?_)) <;> rw [skk] at q2 hOP
        · simp only [ixr_of, run_s, run_0, rM_product, rok_i, rok_z, bx_cons, bx_nil, eBP, eC0, eC4, eC5, eCV0, eCV1, eCV2, eCm1, eGI, eGO, jICne, jIFeq, jIFne, eLA0, eLI1, eRV, eSI1, fM_product_0, fM_product_4, fM_product_11, fM_product_20, fM_product_24, fM_product_33, fM_product_37, fM_product_38, fM_product_44, fM_product_45, fM_product_58, bM_product_0, bM_product_4, bM_product_11, bM_product_20, bM_product_24, bM_product_33, bM_product_37, bM_product_38, bM_product_44, bM_product_45, bM_product_58, ty_m, Option.toList_some, Option.toList_none, List.cons_append, List.nil_append, List.length_cons, List.length_nil, List.mem_cons, List.not_mem_nil, or_false, false_or, or_true, true_or, ↓reduceIte, true_and, and_true, Nat.reduceEqDiff, Nat.reduceAdd, Nat.reduceLeDiff, Nat.reduceLT, dl_i, dl_r, dl_n, dl_u, eq_self, not_true_eq_false, not_false_eq_true, n10, n01, nm0, n0m, imp_t, imp_f]
          exact at38 5 P (nI 47) (by decide) q2 (by decide) (by decide) (by rw [lpL, if_neg q, if_pos q2]) (hFJ.tr (hK.tr hP)) hOP
        · simp only [ixr_of, run_s, run_0, rM_product, rok_i, rok_z, bx_cons, bx_nil, eBP, eC0, eC4, eC5, eCV0, eCV1, eCV2, eCm1, eGI, eGO, jICne, jIFeq, jIFne, eLA0, eLI1, eRV, eSI1, fM_product_0, fM_product_4, fM_product_11, fM_product_20, fM_product_24, fM_product_33, fM_product_37, fM_product_38, fM_product_44, fM_product_45, fM_product_58, bM_product_0, bM_product_4, bM_product_11, bM_product_20, bM_product_24, bM_product_33, bM_product_37, bM_product_38, bM_product_44, bM_product_45, bM_product_58, ty_m, Option.toList_some, Option.toList_none, List.cons_append, List.nil_append, List.length_cons, List.length_nil, List.mem_cons, List.not_mem_nil, or_false, false_or, or_true, true_or, ↓reduceIte, true_and, and_true, Nat.reduceEqDiff, Nat.reduceAdd, Nat.reduceLeDiff, Nat.reduceLT, dl_i, dl_r, dl_n, dl_u, eq_self, not_true_eq_false, not_false_eq_true, n10, n01, nm0, n0m, imp_t, imp_f]
          refine hgo 20 [4] 38 _ _ _ _ _ ?_
          simp only [ixr_of, run_s, run_0, rM_product, rok_i, rok_z, bx_cons, bx_nil, eBP, eC0, eC4, eC5, eCV0, eCV1, eCV2, eCm1, eGI, eGO, jICne, jIFeq, jIFne, eLA0, eLI1, eRV, eSI1, fM_product_0, fM_product_4, fM_product_11, fM_product_20, fM_product_24, fM_product_33, fM_product_37, fM_product_38, fM_product_44, fM_product_45, fM_product_58, bM_product_0, bM_product_4, bM_product_11, bM_product_20, bM_product_24, bM_product_33, bM_product_37, bM_product_38, bM_product_44, bM_product_45, bM_product_58, ty_m, Option.toList_some, Option.toList_none, List.cons_append, List.nil_append, List.length_cons, List.length_nil, List.mem_cons, List.not_mem_nil, or_false, false_or, or_true, true_or, ↓reduceIte, true_and, and_true, Nat.reduceEqDiff, Nat.reduceAdd, Nat.reduceLeDiff, Nat.reduceLT, dl_i, dl_r, dl_n, dl_u, eq_self, not_true_eq_false, not_false_eq_true, n10, n01, nm0, n0m, imp_t, imp_f]
          refine hk _ [] P (by rw [lpL, if_neg q, if_neg q2]) (hFJ.tr (hK.tr hP)) ?_
          rw [List.append_nil]
          exact hOP
  refine hgo 20 [4] 0 _ _ _ _ _ ?_
  simp only [ixr_of, run_s, run_0, rM_product, rok_i, rok_z, bx_cons, bx_nil, eBP, eC0, eC4, eC5, eCV0, eCV1, eCV2, eCm1, eGI, eGO, jICne, jIFeq, jIFne, eLA0, eLI1, eRV, eSI1, fM_product_0, fM_product_4, fM_product_11, fM_product_20, fM_product_24, fM_product_33, fM_product_37, fM_product_38, fM_product_44, fM_product_45, fM_product_58, bM_product_0, bM_product_4, bM_product_11, bM_product_20, bM_product_24, bM_product_33, bM_product_37, bM_product_38, bM_product_44, bM_product_45, bM_product_58, ty_m, Option.toList_some, Option.toList_none, List.cons_append, List.nil_append, List.length_cons, List.length_nil, List.mem_cons, List.not_mem_nil, or_false, false_or, or_true, true_or, ↓reduceIte, true_and, and_true, Nat.reduceEqDiff, Nat.reduceAdd, Nat.reduceLeDiff, Nat.reduceLT, dl_i, dl_r, dl_n, dl_u, eq_self, not_true_eq_false, not_false_eq_true, n10, n01, nm0, n0m, imp_t, imp_f]
  refine call0 (hv _ _ _ _ _ _ _ _ _ hO (fun b M J hR hJ hOJ => ?_) (fun e J hR hJ hE => ?_))
  · simp only [ixr_of, run_s, run_0, rM_product, rok_i, rok_z, bx_cons, bx_nil, eBP, eC0, eC4, eC5, eCV0, eCV1, eCV2, eCm1, eGI, eGO, jICne, jIFeq, jIFne, eLA0, eLI1, eRV, eSI1, fM_product_0, fM_product_4, fM_product_11, fM_product_20, fM_product_24, fM_product_33, fM_product_37, fM_product_38, fM_product_44, fM_product_45, fM_product_58, bM_product_0, bM_product_4, bM_product_11, bM_product_20, bM_product_24, bM_product_33, bM_product_37, bM_product_38, bM_product_44, bM_product_45, bM_product_58, ty_m, Option.toList_some, Option.toList_none, List.cons_append, List.nil_append, List.length_cons, List.length_nil, List.mem_cons, List.not_mem_nil, or_false, false_or, or_true, true_or, ↓reduceIte, true_and, and_true, Nat.reduceEqDiff, Nat.reduceAdd, Nat.reduceLeDiff, Nat.reduceLT, dl_i, dl_r, dl_n, dl_u, eq_self, not_true_eq_false, not_false_eq_true, n10, n01, nm0, n0m, imp_t, imp_f]
    refine loop (n + 1) b J _ _ (by omega) hJ hOJ (fun c M2 J2 h1 h2 h3 => ?_) (fun e J2 h1 h2 h3 => ?_)
    · rw [List.append_assoc] at h3
      refine ho c _ J2 ?_ h2 h3
      unfold proW
      rw [hR, bnd_o, h1]
    · refine he e J2 ?_ h2 h3
      unfold proW
      rw [hR, bnd_o, h1]
  · simp only [ixr_of, run_s, run_0, rM_product, rok_i, rok_z, bx_cons, bx_nil, eBP, eC0, eC4, eC5, eCV0, eCV1, eCV2, eCm1, eGI, eGO, jICne, jIFeq, jIFne, eLA0, eLI1, eRV, eSI1, fM_product_0, fM_product_4, fM_product_11, fM_product_20, fM_product_24, fM_product_33, fM_product_37, fM_product_38, fM_product_44, fM_product_45, fM_product_58, bM_product_0, bM_product_4, bM_product_11, bM_product_20, bM_product_24, bM_product_33, bM_product_37, bM_product_38, bM_product_44, bM_product_45, bM_product_58, ty_m, Option.toList_some, Option.toList_none, List.cons_append, List.nil_append, List.length_cons, List.length_nil, List.mem_cons, List.not_mem_nil, or_false, false_or, or_true, true_or, ↓reduceIte, true_and, and_true, Nat.reduceEqDiff, Nat.reduceAdd, Nat.reduceLeDiff, Nat.reduceLT, dl_i, dl_r, dl_n, dl_u, eq_self, not_true_eq_false, not_false_eq_true, n10, n01, nm0, n0m, imp_t, imp_f]
    refine hgo 20 [11] 4 _ _ _ _ _ ?_
    simp only [ixr_of, run_s, run_0, rM_product, rok_i, rok_z, bx_cons, bx_nil, eBP, eC0, eC4, eC5, eCV0, eCV1, eCV2, eCm1, eGI, eGO, jICne, jIFeq, jIFne, eLA0, eLI1, eRV, eSI1, fM_product_0, fM_product_4, fM_product_11, fM_product_20, fM_product_24, fM_product_33, fM_product_37, fM_product_38, fM_product_44, fM_product_45, fM_product_58, bM_product_0, bM_product_4, bM_product_11, bM_product_20, bM_product_24, bM_product_33, bM_product_37, bM_product_38, bM_product_44, bM_product_45, bM_product_58, ty_m, Option.toList_some, Option.toList_none, List.cons_append, List.nil_append, List.length_cons, List.length_nil, List.mem_cons, List.not_mem_nil, or_false, false_or, or_true, true_or, ↓reduceIte, true_and, and_true, Nat.reduceEqDiff, Nat.reduceAdd, Nat.reduceLeDiff, Nat.reduceLT, dl_i, dl_r, dl_n, dl_u, eq_self, not_true_eq_false, not_false_eq_true, n10, n01, nm0, n0m, imp_t, imp_f]
    refine ⟨fun _ => he e J ?_ hJ hE, fun q => absurd q hE.nz⟩
    unfold proW
    rw [hR, bnd_e]

theorem c_sum {f : Nat} {R : Nat → Rs} (hT : Tx T n) (hf6 : f ≤ 6) (hG : Gs n R) (hv : RdC T n mM_product 9 f R) : RdC T n mM_sum 10 f (sumW T n R) := by
  intro Γ l d I E kr kx a L hO ho he
  have ha : a ≤ n := hO.2.2.2.2.1
  refine ex_of (ls0 := [some (.ref 500000), none]) tM_sum (by decide +kernel) kM_sum rfl (Nat.le_of_ble_eq_true rfl) rfl ?_
  intro go hgo
  have loop : ∀ (g b : Nat) (J : Iv) (L' : List Cd) (t : Option Value), n - b < g → Fo I J → OSt T n J b (6 - f) L' → (∀ c M2 J2, lpL T n (nI 43) (nI 45) 2 3 R g b = .ok (c, M2) → Fo I J2 → OSt T n J2 c (6 - f) (L' ++ M2) → kr none J2 E) → (∀ e J2, lpL T n (nI 43) (nI 45) 2 3 R g b = .error e → Fo I J2 → OEr n J2 e → kr none J2 E) → go 4 [some (.ref 500000), t] [] J E (0, 0) := by
    intro g
    induction g with
    | zero => intro b J L' t hg; omega
    | succ g ih =>
      intro b J L' t hg hFJ hOJ hk hke
      have hf : J 500000 5 = nI 0 := hOJ.2.2.2.2.2.1
      have hb : b ≤ n := hOJ.2.2.2.2.1
      have hLb := hOJ.2.2.2.2.2.2.2.2.2.1
      have hs := sk_b (t := T) hb
      have skk : sk T n (sk T n b) = sk T n b := sk_sk hb
      have at38 : ∀ (k : Nat) (K : Iv) (c : Int32), ¬ c = -1 → T (sk T n b) = c → k < 9 → ¬ k = 1 → lpL T n (nI 43) (nI 45) 2 3 R (g + 1) b = bnd (R (sk T n b + 1)) (fun b => bnd (say1 (k, 0) b) (lpL T n (nI 43) (nI 45) 2 3 R g)) → Fo I K → OSt T n K (sk T n b + 1) (6 - f) L' → go 38 [some (.ref 500000), t] [.int (nI k)] K E (0, 0) := by
        intro k K c hc hTc hk9 hk1 hlp hFK hOK
        have hlt := hT.lt hc hTc
        refine hgo 20 [4] 38 _ _ _ _ _ ?_
        simp only [ixr_of, run_s, run_0, rM_sum, rok_i, rok_z, bx_cons, bx_nil, eBP, eC0, eC2, eC3, eCV0, eCV1, eCV2, eCm1, eGI, eGO, jICne, jIFeq, jIFne, eLA0, eLI1, eRV, eSI1, fM_sum_0, fM_sum_4, fM_sum_11, fM_sum_20, fM_sum_24, fM_sum_33, fM_sum_37, fM_sum_38, fM_sum_44, fM_sum_45, fM_sum_58, bM_sum_0, bM_sum_4, bM_sum_11, bM_sum_20, bM_sum_24, bM_sum_33, bM_sum_37, bM_sum_38, bM_sum_44, bM_sum_45, bM_sum_58, ty_m, Option.toList_some, Option.toList_none, List.cons_append, List.nil_append, List.length_cons, List.length_nil, List.mem_cons, List.not_mem_nil, or_false, false_or, or_true, true_or, ↓reduceIte, true_and, and_true, Nat.reduceEqDiff, Nat.reduceAdd, Nat.reduceLeDiff, Nat.reduceLT, dl_i, dl_r, dl_n, dl_u, eq_self, not_true_eq_false, not_false_eq_true, n10, n01, nm0, n0m, imp_t, imp_f]
        refine ⟨fun q => ?_, fun q => absurd q (fun c => nIm k hk9 c.symm)⟩
        refine call0 (hv _ _ _ _ _ _ _ _ _ hOK (fun c M2 P hR hP hOP => ?_) (fun e P hR hP hE => ?_))
        · have hg1 := hG _ _ _ (by omega) hR
          have hlen : (L' ++ M2).length + 1 ≤ c := by rw [List.length_append]; omega
          simp only [ixr_of, run_s, run_0, rM_sum, rok_i, rok_z, bx_cons, bx_nil, eBP, eC0, eC2, eC3, eCV0, eCV1, eCV2, eCm1, eGI, eGO, jICne, jIFeq, jIFne, eLA0, eLI1, eRV, eSI1, fM_sum_0, fM_sum_4, fM_sum_11, fM_sum_20, fM_sum_24, fM_sum_33, fM_sum_37, fM_sum_38, fM_sum_44, fM_sum_45, fM_sum_58, bM_sum_0, bM_sum_4, bM_sum_11, bM_sum_20, bM_sum_24, bM_sum_33, bM_sum_37, bM_sum_38, bM_sum_44, bM_sum_45, bM_sum_58, ty_m, Option.toList_some, Option.toList_none, List.cons_append, List.nil_append, List.length_cons, List.length_nil, List.mem_cons, List.not_mem_nil, or_false, false_or, or_true, true_or, ↓reduceIte, true_and, and_true, Nat.reduceEqDiff, Nat.reduceAdd, Nat.reduceLeDiff, Nat.reduceLT, dl_i, dl_r, dl_n, dl_u, eq_self, not_true_eq_false, not_false_eq_true, n10, n01, nm0, n0m, imp_t, imp_f]
          refine call0 (o_says hOP hlen (by omega) ?_)
          intro Q hQ hOQ
          simp only [ixr_of, run_s, run_0, rM_sum, rok_i, rok_z, bx_cons, bx_nil, eBP, eC0, eC2, eC3, eCV0, eCV1, eCV2, eCm1, eGI, eGO, jICne, jIFeq, jIFne, eLA0, eLI1, eRV, eSI1, fM_sum_0, fM_sum_4, fM_sum_11, fM_sum_20, fM_sum_24, fM_sum_33, fM_sum_37, fM_sum_38, fM_sum_44, fM_sum_45, fM_sum_58, bM_sum_0, bM_sum_4, bM_sum_11, bM_sum_20, bM_sum_24, bM_sum_33, bM_sum_37, bM_sum_38, bM_sum_44, bM_sum_45, bM_sum_58, ty_m, Option.toList_some, Option.toList_none, List.cons_append, List.nil_append, List.length_cons, List.length_nil, List.mem_cons, List.not_mem_nil, or_false, false_or, or_true, true_or, ↓reduceIte, true_and, and_true, Nat.reduceEqDiff, Nat.reduceAdd, Nat.reduceLeDiff, Nat.reduceLT, dl_i, dl_r, dl_n, dl_u, eq_self, not_true_eq_false, not_false_eq_true, n10, n01, nm0, n0m, imp_t, imp_f]
          refine ih c Q _ _ (by omega) (hFK.tr (hP.tr hQ)) hOQ (fun c' M3 J2 h1 h2 h3 => ?_) (fun e J2 h1 h2 h3 => ?_)
          · rw [List.append_assoc, List.append_assoc] at h3
            refine hk c' _ J2 ?_ h2 h3
            rw [hlp, hR, bnd_o]
            show (match bnd (say1 (k, 0) c) _ with | .error e => Except.error e | .ok (b, m) => .ok (b, M2 ++ m)) = _
            unfold say1
            rw [bnd_o, h1]
          · refine hke e J2 ?_ h2 h3
            rw [hlp, hR, bnd_o]
            show (match bnd (say1 (k, 0) c) _ with | .error e => Except.error e | .ok (b, m) => .ok (b, M2 ++ m)) = _
            unfold say1
            rw [bnd_o, h1]
        · simp only [ixr_of, run_s, run_0, rM_sum, rok_i, rok_z, bx_cons, bx_nil, eBP, eC0, eC2, eC3, eCV0, eCV1, eCV2, eCm1, eGI, eGO, jICne, jIFeq, jIFne, eLA0, eLI1, eRV, eSI1, fM_sum_0, fM_sum_4, fM_sum_11, fM_sum_20, fM_sum_24, fM_sum_33, fM_sum_37, fM_sum_38, fM_sum_44, fM_sum_45, fM_sum_58, bM_sum_0, bM_sum_4, bM_sum_11, bM_sum_20, bM_sum_24, bM_sum_33, bM_sum_37, bM_sum_38, bM_sum_44, bM_sum_45, bM_sum_58, ty_m, Option.toList_some, Option.toList_none, List.cons_append, List.nil_append, List.length_cons, List.length_nil, List.mem_cons, List.not_mem_nil, or_false, false_or, or_true, true_or, ↓reduceIte, true_and, and_true, Nat.reduceEqDiff, Nat.reduceAdd, Nat.reduceLeDiff, Nat.reduceLT, dl_i, dl_r, dl_n, dl_u, eq_self, not_true_eq_false, not_false_eq_true, n10, n01, nm0, n0m, imp_t, imp_f]
          refine call0 (f_says hE.nz ?_)
          simp only [ixr_of, run_s, run_0, rM_sum, rok_i, rok_z, bx_cons, bx_nil, eBP, eC0, eC2, eC3, eCV0, eCV1, eCV2, eCm1, eGI, eGO, jICne, jIFeq, jIFne, eLA0, eLI1, eRV, eSI1, fM_sum_0, fM_sum_4, fM_sum_11, fM_sum_20, fM_sum_24, fM_sum_33, fM_sum_37, fM_sum_38, fM_sum_44, fM_sum_45, fM_sum_58, bM_sum_0, bM_sum_4, bM_sum_11, bM_sum_20, bM_sum_24, bM_sum_33, bM_sum_37, bM_sum_38, bM_sum_44, bM_sum_45, bM_sum_58, ty_m, Option.toList_some, Option.toList_none, List.cons_append, List.nil_append, List.length_cons, List.length_nil, List.mem_cons, List.not_mem_nil, or_false, false_or, or_true, true_or, ↓reduceIte, true_and, and_true, Nat.reduceEqDiff, Nat.reduceAdd, Nat.reduceLeDiff, Nat.reduceLT, dl_i, dl_r, dl_n, dl_u, eq_self, not_true_eq_false, not_false_eq_true, n10, n01, nm0, n0m, imp_t, imp_f]
          refine hgo 20 [11] 4 _ _ _ _ _ ?_
          simp only [ixr_of, run_s, run_0, rM_sum, rok_i, rok_z, bx_cons, bx_nil, eBP, eC0, eC2, eC3, eCV0, eCV1, eCV2, eCm1, eGI, eGO, jICne, jIFeq, jIFne, eLA0, eLI1, eRV, eSI1, fM_sum_0, fM_sum_4, fM_sum_11, fM_sum_20, fM_sum_24, fM_sum_33, fM_sum_37, fM_sum_38, fM_sum_44, fM_sum_45, fM_sum_58, bM_sum_0, bM_sum_4, bM_sum_11, bM_sum_20, bM_sum_24, bM_sum_33, bM_sum_37, bM_sum_38, bM_sum_44, bM_sum_45, bM_sum_58, ty_m, Option.toList_some, Option.toList_none, List.cons_append, List.nil_append, List.length_cons, List.length_nil, List.mem_cons, List.not_mem_nil, or_false, false_or, or_true, true_or, ↓reduceIte, true_and, and_true, Nat.reduceEqDiff, Nat.reduceAdd, Nat.reduceLeDiff, Nat.reduceLT, dl_i, dl_r, dl_n, dl_u, eq_self, not_true_eq_false, not_false_eq_true, n10, n01, nm0, n0m, imp_t, imp_f]
          refine ⟨fun _ => hke e P ?_ (hFK.tr hP) hE, fun q => absurd q hE.nz⟩
          rw [hlp, hR, bnd_e]
      refine hgo 20 [4, 38] 4 _ _ _ _ _ ?_
      simp only [ixr_of, run_s, run_0, rM_sum, rok_i, rok_z, bx_cons, bx_nil, eBP, eC0, eC2, eC3, eCV0, eCV1, eCV2, eCm1, eGI, eGO, jICne, jIFeq, jIFne, eLA0, eLI1, eRV, eSI1, fM_sum_0, fM_sum_4, fM_sum_11, fM_sum_20, fM_sum_24, fM_sum_33, fM_sum_37, fM_sum_38, fM_sum_44, fM_sum_45, fM_sum_58, bM_sum_0, bM_sum_4, bM_sum_11, bM_sum_20, bM_sum_24, bM_sum_33, bM_sum_37, bM_sum_38, bM_sum_44, bM_sum_45, bM_sum_58, ty_m, Option.toList_some, Option.toList_none, List.cons_append, List.nil_append, List.length_cons, List.length_nil, List.mem_cons, List.not_mem_nil, or_false, false_or, or_true, true_or, ↓reduceIte, true_and, and_true, Nat.reduceEqDiff, Nat.reduceAdd, Nat.reduceLeDiff, Nat.reduceLT, dl_i, dl_r, dl_n, dl_u, eq_self, not_true_eq_false, not_false_eq_true, n10, n01, nm0, n0m, hf, imp_t, imp_f]
      refine call0 (o_takesSign hT hOJ (by decide) (fun q K hK hOK => ?_) (fun q K hK hOK => ?_))
      · simp only [ixr_of, run_s, run_0, rM_sum, rok_i, rok_z, bx_cons, bx_nil, eBP, eC0, eC2, eC3, eCV0, eCV1, eCV2, eCm1, eGI, eGO, jICne, jIFeq, jIFne, eLA0, eLI1, eRV, eSI1, fM_sum_0, fM_sum_4, fM_sum_11, fM_sum_20, fM_sum_24, fM_sum_33, fM_sum_37, fM_sum_38, fM_sum_44, fM_sum_45, fM_sum_58, bM_sum_0, bM_sum_4, bM_sum_11, bM_sum_20, bM_sum_24, bM_sum_33, bM_sum_37, bM_sum_38, bM_sum_44, bM_sum_45, bM_sum_58, ty_m, Option.toList_some, Option.toList_none, List.cons_append, List.nil_append, List.length_cons, List.length_nil, List.mem_cons, List.not_mem_nil, or_false, false_or, or_true, true_or, ↓reduceIte, true_and, and_true, Nat.reduceEqDiff, Nat.reduceAdd, Nat.reduceLeDiff, Nat.reduceLT, dl_i, dl_r, dl_n, dl_u, eq_self, not_true_eq_false, not_false_eq_true, n10, n01, nm0, n0m, imp_t, imp_f]
        exact at38 2 K (nI 43) (by decide) q (by decide) (by decide) (by rw [lpL, if_pos q]) (hFJ.tr hK) hOK
      · simp only [ixr_of, run_s, run_0, rM_sum, rok_i, rok_z, bx_cons, bx_nil, eBP, eC0, eC2, eC3, eCV0, eCV1, eCV2, eCm1, eGI, eGO, jICne, jIFeq, jIFne, eLA0, eLI1, eRV, eSI1, fM_sum_0, fM_sum_4, fM_sum_11, fM_sum_20, fM_sum_24, fM_sum_33, fM_sum_37, fM_sum_38, fM_sum_44, fM_sum_45, fM_sum_58, bM_sum_0, bM_sum_4, bM_sum_11, bM_sum_20, bM_sum_24, bM_sum_33, bM_sum_37, bM_sum_38, bM_sum_44, bM_sum_45, bM_sum_58, ty_m, Option.toList_some, Option.toList_none, List.cons_append, List.nil_append, List.length_cons, List.length_nil, List.mem_cons, List.not_mem_nil, or_false, false_or, or_true, true_or, ↓reduceIte, true_and, and_true, Nat.reduceEqDiff, Nat.reduceAdd, Nat.reduceLeDiff, Nat.reduceLT, dl_i, dl_r, dl_n, dl_u, eq_self, not_true_eq_false, not_false_eq_true, n10, n01, nm0, n0m, imp_t, imp_f]
        refine call0 (o_takesSign hT hOK (by decide) (fun q2 P hP hOP => ?_) (fun q2 P hP hOP => ?_)) <;> rw [skk] at q2 hOP
        · simp only [ixr_of, run_s, run_0, rM_sum, rok_i, rok_z, bx_cons, bx_nil, eBP, eC0, eC2, eC3, eCV0, eCV1, eCV2, eCm1, eGI, eGO, jICne, jIFeq, jIFne, eLA0, eLI1, eRV, eSI1, fM_sum_0, fM_sum_4, fM_sum_11, fM_sum_20, fM_sum_24, fM_sum_33, fM_sum_37, fM_sum_38, fM_sum_44, fM_sum_45, fM_sum_58, bM_sum_0, bM_sum_4, bM_sum_11, bM_sum_20, bM_sum_24, bM_sum_33, bM_sum_37, bM_sum_38, bM_sum_44, bM_sum_45, bM_sum_58, ty_m, Option.toList_some, Option.toList_none, List.cons_append, List.nil_append, List.length_cons, List.length_nil, List.mem_cons, List.not_mem_nil, or_false, false_or, or_true, true_or, ↓reduceIte, true_and, and_true, Nat.reduceEqDiff, Nat.reduceAdd, Nat.reduceLeDiff, Nat.reduceLT, dl_i, dl_r, dl_n, dl_u, eq_self, not_true_eq_false, not_false_eq_true, n10, n01, nm0, n0m, imp_t, imp_f]
          exact at38 3 P (nI 45) (by decide) q2 (by decide) (by decide) (by rw [lpL, if_neg q, if_pos q2]) (hFJ.tr (hK.tr hP)) hOP
        · simp only [ixr_of, run_s, run_0, rM_sum, rok_i, rok_z, bx_cons, bx_nil, eBP, eC0, eC2, eC3, eCV0, eCV1, eCV2, eCm1, eGI, eGO, jICne, jIFeq, jIFne, eLA0, eLI1, eRV, eSI1, fM_sum_0, fM_sum_4, fM_sum_11, fM_sum_20, fM_sum_24, fM_sum_33, fM_sum_37, fM_sum_38, fM_sum_44, fM_sum_45, fM_sum_58, bM_sum_0, bM_sum_4, bM_sum_11, bM_sum_20, bM_sum_24, bM_sum_33, bM_sum_37, bM_sum_38, bM_sum_44, bM_sum_45, bM_sum_58, ty_m, Option.toList_some, Option.toList_none, List.cons_append, List.nil_append, List.length_cons, List.length_nil, List.mem_cons, List.not_mem_nil, or_false, false_or, or_true, true_or, ↓reduceIte, true_and, and_true, Nat.reduceEqDiff, Nat.reduceAdd, Nat.reduceLeDiff, Nat.reduceLT, dl_i, dl_r, dl_n, dl_u, eq_self, not_true_eq_false, not_false_eq_true, n10, n01, nm0, n0m, imp_t, imp_f]
          refine hgo 20 [4] 38 _ _ _ _ _ ?_
          simp only [ixr_of, run_s, run_0, rM_sum, rok_i, rok_z, bx_cons, bx_nil, eBP, eC0, eC2, eC3, eCV0, eCV1, eCV2, eCm1, eGI, eGO, jICne, jIFeq, jIFne, eLA0, eLI1, eRV, eSI1, fM_sum_0, fM_sum_4, fM_sum_11, fM_sum_20, fM_sum_24, fM_sum_33, fM_sum_37, fM_sum_38, fM_sum_44, fM_sum_45, fM_sum_58, bM_sum_0, bM_sum_4, bM_sum_11, bM_sum_20, bM_sum_24, bM_sum_33, bM_sum_37, bM_sum_38, bM_sum_44, bM_sum_45, bM_sum_58, ty_m, Option.toList_some, Option.toList_none, List.cons_append, List.nil_append, List.length_cons, List.length_nil, List.mem_cons, List.not_mem_nil, or_false, false_or, or_true, true_or, ↓reduceIte, true_and, and_true, Nat.reduceEqDiff, Nat.reduceAdd, Nat.reduceLeDiff, Nat.reduceLT, dl_i, dl_r, dl_n, dl_u, eq_self, not_true_eq_false, not_false_eq_true, n10, n01, nm0, n0m, imp_t, imp_f]
          refine hk _ [] P (by rw [lpL, if_neg q, if_neg q2]) (hFJ.tr (hK.tr hP)) ?_
          rw [List.append_nil]
          exact hOP
  refine hgo 20 [4] 0 _ _ _ _ _ ?_
  simp only [ixr_of, run_s, run_0, rM_sum, rok_i, rok_z, bx_cons, bx_nil, eBP, eC0, eC2, eC3, eCV0, eCV1, eCV2, eCm1, eGI, eGO, jICne, jIFeq, jIFne, eLA0, eLI1, eRV, eSI1, fM_sum_0, fM_sum_4, fM_sum_11, fM_sum_20, fM_sum_24, fM_sum_33, fM_sum_37, fM_sum_38, fM_sum_44, fM_sum_45, fM_sum_58, bM_sum_0, bM_sum_4, bM_sum_11, bM_sum_20, bM_sum_24, bM_sum_33, bM_sum_37, bM_sum_38, bM_sum_44, bM_sum_45, bM_sum_58, ty_m, Option.toList_some, Option.toList_none, List.cons_append, List.nil_append, List.length_cons, List.length_nil, List.mem_cons, List.not_mem_nil, or_false, false_or, or_true, true_or, ↓reduceIte, true_and, and_true, Nat.reduceEqDiff, Nat.reduceAdd, Nat.reduceLeDiff, Nat.reduceLT, dl_i, dl_r, dl_n, dl_u, eq_self, not_true_eq_false, not_false_eq_true, n10, n01, nm0, n0m, imp_t, imp_f]
  refine call0 (hv _ _ _ _ _ _ _ _ _ hO (fun b M J hR hJ hOJ => ?_) (fun e J hR hJ hE => ?_))
  · simp only [ixr_of, run_s, run_0, rM_sum, rok_i, rok_z, bx_cons, bx_nil, eBP, eC0, eC2, eC3, eCV0, eCV1, eCV2, eCm1, eGI, eGO, jICne, jIFeq, jIFne, eLA0, eLI1, eRV, eSI1, fM_sum_0, fM_sum_4, fM_sum_11, fM_sum_20, fM_sum_24, fM_sum_33, fM_sum_37, fM_sum_38, fM_sum_44, fM_sum_45, fM_sum_58, bM_sum_0, bM_sum_4, bM_sum_11, bM_sum_20, bM_sum_24, bM_sum_33, bM_sum_37, bM_sum_38, bM_sum_44, bM_sum_45, bM_sum_58, ty_m, Option.toList_some, Option.toList_none, List.cons_append, List.nil_append, List.length_cons, List.length_nil, List.mem_cons, List.not_mem_nil, or_false, false_or, or_true, true_or, ↓reduceIte, true_and, and_true, Nat.reduceEqDiff, Nat.reduceAdd, Nat.reduceLeDiff, Nat.reduceLT, dl_i, dl_r, dl_n, dl_u, eq_self, not_true_eq_false, not_false_eq_true, n10, n01, nm0, n0m, imp_t, imp_f]
    refine loop (n + 1) b J _ _ (by omega) hJ hOJ (fun c M2 J2 h1 h2 h3 => ?_) (fun e J2 h1 h2 h3 => ?_)
    · rw [List.append_assoc] at h3
      refine ho c _ J2 ?_ h2 h3
      unfold sumW
      rw [hR, bnd_o, h1]
    · refine he e J2 ?_ h2 h3
      unfold sumW
      rw [hR, bnd_o, h1]
  · simp only [ixr_of, run_s, run_0, rM_sum, rok_i, rok_z, bx_cons, bx_nil, eBP, eC0, eC2, eC3, eCV0, eCV1, eCV2, eCm1, eGI, eGO, jICne, jIFeq, jIFne, eLA0, eLI1, eRV, eSI1, fM_sum_0, fM_sum_4, fM_sum_11, fM_sum_20, fM_sum_24, fM_sum_33, fM_sum_37, fM_sum_38, fM_sum_44, fM_sum_45, fM_sum_58, bM_sum_0, bM_sum_4, bM_sum_11, bM_sum_20, bM_sum_24, bM_sum_33, bM_sum_37, bM_sum_38, bM_sum_44, bM_sum_45, bM_sum_58, ty_m, Option.toList_some, Option.toList_none, List.cons_append, List.nil_append, List.length_cons, List.length_nil, List.mem_cons, List.not_mem_nil, or_false, false_or, or_true, true_or, ↓reduceIte, true_and, and_true, Nat.reduceEqDiff, Nat.reduceAdd, Nat.reduceLeDiff, Nat.reduceLT, dl_i, dl_r, dl_n, dl_u, eq_self, not_true_eq_false, not_false_eq_true, n10, n01, nm0, n0m, imp_t, imp_f]
    refine hgo 20 [11] 4 _ _ _ _ _ ?_
    simp only [ixr_of, run_s, run_0, rM_sum, rok_i, rok_z, bx_cons, bx_nil, eBP, eC0, eC2, eC3, eCV0, eCV1, eCV2, eCm1, eGI, eGO, jICne, jIFeq, jIFne, eLA0, eLI1, eRV, eSI1, fM_sum_0, fM_sum_4, fM_sum_11, fM_sum_20, fM_sum_24, fM_sum_33, fM_sum_37, fM_sum_38, fM_sum_44, fM_sum_45, fM_sum_58, bM_sum_0, bM_sum_4, bM_sum_11, bM_sum_20, bM_sum_24, bM_sum_33, bM_sum_37, bM_sum_38, bM_sum_44, bM_sum_45, bM_sum_58, ty_m, Option.toList_some, Option.toList_none, List.cons_append, List.nil_append, List.length_cons, List.length_nil, List.mem_cons, List.not_mem_nil, or_false, false_or, or_true, true_or, ↓reduceIte, true_and, and_true, Nat.reduceEqDiff, Nat.reduceAdd, Nat.reduceLeDiff, Nat.reduceLT, dl_i, dl_r, dl_n, dl_u, eq_self, not_true_eq_false, not_false_eq_true, n10, n01, nm0, n0m, imp_t, imp_f]
    refine ⟨fun _ => he e J ?_ hJ hE, fun q => absurd q hE.nz⟩
    unfold sumW
    rw [hR, bnd_e]

theorem c_eachOf {f : Nat} {R : Nat → Rs} (hT : Tx T n) (hf6 : f ≤ 6) (hG : Gs n R) (hv : RdC T n mM_oneOf 11 f R) : RdC T n mM_eachOf 12 f (eachW T n R) := by
  intro Γ l d I E kr kx a L hO ho he
  have ha : a ≤ n := hO.2.2.2.2.1
  refine ex_of (ls0 := [some (.ref 500000)]) tM_eachOf (by decide +kernel) kM_eachOf rfl (Nat.le_of_ble_eq_true rfl) rfl ?_
  intro go hgo
  have loop : ∀ (g b : Nat) (J : Iv) (L' : List Cd), n - b < g → Fo I J → OSt T n J b (6 - f) L' → (∀ c M2 J2, lpW T n w_and 10 R g b = .ok (c, M2) → Fo I J2 → OSt T n J2 c (6 - f) (L' ++ M2) → kr none J2 E) → (∀ e J2, lpW T n w_and 10 R g b = .error e → Fo I J2 → OEr n J2 e → kr none J2 E) → go 4 [some (.ref 500000)] [] J E (0, 0) := by
    intro g
    induction g with
    | zero => intro b J L' hg; omega
    | succ g ih =>
      intro b J L' hg hFJ hOJ hk hke
      have hf : J 500000 5 = nI 0 := hOJ.2.2.2.2.2.1
      have hb : b ≤ n := hOJ.2.2.2.2.1
      have hLb := hOJ.2.2.2.2.2.2.2.2.2.1
      have hs := sk_b (t := T) hb
      refine hgo 20 [4] 4 _ _ _ _ _ ?_
      simp only [ixr_of, run_s, run_0, rM_eachOf, rok_i, rok_z, bx_cons, bx_nil, eBP, eC0, eC1, eC4, eCV0, eCV2, eCV7, eGO, jIFeq, eLA0, eRV, fM_eachOf_0, fM_eachOf_4, fM_eachOf_19, fM_eachOf_33, bM_eachOf_0, bM_eachOf_4, bM_eachOf_19, bM_eachOf_33, ty_m, Option.toList_some, Option.toList_none, List.cons_append, List.nil_append, List.length_cons, List.length_nil, List.mem_cons, List.not_mem_nil, or_false, false_or, or_true, true_or, ↓reduceIte, true_and, and_true, Nat.reduceEqDiff, Nat.reduceAdd, Nat.reduceLeDiff, Nat.reduceLT, dl_i, dl_r, dl_n, dl_u, eq_self, not_true_eq_false, not_false_eq_true, n10, n01, nm0, n0m, imp_t, imp_f]
      refine call0 (o_takes hOJ (fun q K hK hOK => ?_) (fun q K hK hOK => ?_))
      · have q : wcode T n (sk T n b) = w_and := q
        have hlt := wEnd_lt hs.2 q (by decide)
        have hlp : lpW T n w_and 10 R (g + 1) b = bnd (R (wEnd T n (sk T n b))) (fun b => bnd (say1 (10, 0) b) (lpW T n w_and 10 R g)) := by rw [lpW, if_pos q]
        have hFK : Fo I K := hFJ.tr (show Fo J K by rw [hK]; exact Fo.fl (by decide))
        simp only [ixr_of, run_s, run_0, rM_eachOf, rok_i, rok_z, bx_cons, bx_nil, eBP, eC0, eC1, eC4, eCV0, eCV2, eCV7, eGO, jIFeq, eLA0, eRV, fM_eachOf_0, fM_eachOf_4, fM_eachOf_19, fM_eachOf_33, bM_eachOf_0, bM_eachOf_4, bM_eachOf_19, bM_eachOf_33, ty_m, Option.toList_some, Option.toList_none, List.cons_append, List.nil_append, List.length_cons, List.length_nil, List.mem_cons, List.not_mem_nil, or_false, false_or, or_true, true_or, ↓reduceIte, true_and, and_true, Nat.reduceEqDiff, Nat.reduceAdd, Nat.reduceLeDiff, Nat.reduceLT, dl_i, dl_r, dl_n, dl_u, eq_self, not_true_eq_false, not_false_eq_true, n10, n01, nm0, n0m, imp_t, imp_f]
        refine call0 (hv _ _ _ _ _ _ _ _ _ hOK (fun c M2 P hR hP hOP => ?_) (fun e P hR hP hE => ?_))
        · have hg1 := hG _ _ _ (by omega) hR
          have hlen : (L' ++ M2).length + 1 ≤ c := by rw [List.length_append]; omega
          simp only [ixr_of, run_s, run_0, rM_eachOf, rok_i, rok_z, bx_cons, bx_nil, eBP, eC0, eC1, eC4, eCV0, eCV2, eCV7, eGO, jIFeq, eLA0, eRV, fM_eachOf_0, fM_eachOf_4, fM_eachOf_19, fM_eachOf_33, bM_eachOf_0, bM_eachOf_4, bM_eachOf_19, bM_eachOf_33, ty_m, Option.toList_some, Option.toList_none, List.cons_append, List.nil_append, List.length_cons, List.length_nil, List.mem_cons, List.not_mem_nil, or_false, false_or, or_true, true_or, ↓reduceIte, true_and, and_true, Nat.reduceEqDiff, Nat.reduceAdd, Nat.reduceLeDiff, Nat.reduceLT, dl_i, dl_r, dl_n, dl_u, eq_self, not_true_eq_false, not_false_eq_true, n10, n01, nm0, n0m, imp_t, imp_f]
          refine call0 (o_says hOP hlen (by omega) ?_)
          intro Q hQ hOQ
          simp only [ixr_of, run_s, run_0, rM_eachOf, rok_i, rok_z, bx_cons, bx_nil, eBP, eC0, eC1, eC4, eCV0, eCV2, eCV7, eGO, jIFeq, eLA0, eRV, fM_eachOf_0, fM_eachOf_4, fM_eachOf_19, fM_eachOf_33, bM_eachOf_0, bM_eachOf_4, bM_eachOf_19, bM_eachOf_33, ty_m, Option.toList_some, Option.toList_none, List.cons_append, List.nil_append, List.length_cons, List.length_nil, List.mem_cons, List.not_mem_nil, or_false, false_or, or_true, true_or, ↓reduceIte, true_and, and_true, Nat.reduceEqDiff, Nat.reduceAdd, Nat.reduceLeDiff, Nat.reduceLT, dl_i, dl_r, dl_n, dl_u, eq_self, not_true_eq_false, not_false_eq_true, n10, n01, nm0, n0m, imp_t, imp_f]
          refine ih c Q _ (by omega) (hFK.tr (hP.tr hQ)) hOQ (fun c' M3 J2 h1 h2 h3 => ?_) (fun e J2 h1 h2 h3 => ?_)
          · rw [List.append_assoc, List.append_assoc] at h3
            refine hk c' _ J2 ?_ h2 h3
            rw [hlp, hR, bnd_o]
            show (match bnd (say1 (10, 0) c) _ with | .error e => Except.error e | .ok (b, m) => .ok (b, M2 ++ m)) = _
            unfold say1
            rw [bnd_o, h1]
          · refine hke e J2 ?_ h2 h3
            rw [hlp, hR, bnd_o]
            show (match bnd (say1 (10, 0) c) _ with | .error e => Except.error e | .ok (b, m) => .ok (b, M2 ++ m)) = _
            unfold say1
            rw [bnd_o, h1]
        · simp only [ixr_of, run_s, run_0, rM_eachOf, rok_i, rok_z, bx_cons, bx_nil, eBP, eC0, eC1, eC4, eCV0, eCV2, eCV7, eGO, jIFeq, eLA0, eRV, fM_eachOf_0, fM_eachOf_4, fM_eachOf_19, fM_eachOf_33, bM_eachOf_0, bM_eachOf_4, bM_eachOf_19, bM_eachOf_33, ty_m, Option.toList_some, Option.toList_none, List.cons_append, List.nil_append, List.length_cons, List.length_nil, List.mem_cons, List.not_mem_nil, or_false, false_or, or_true, true_or, ↓reduceIte, true_and, and_true, Nat.reduceEqDiff, Nat.reduceAdd, Nat.reduceLeDiff, Nat.reduceLT, dl_i, dl_r, dl_n, dl_u, eq_self, not_true_eq_false, not_false_eq_true, n10, n01, nm0, n0m, imp_t, imp_f]
          refine call0 (f_says hE.nz ?_)
          simp only [ixr_of, run_s, run_0, rM_eachOf, rok_i, rok_z, bx_cons, bx_nil, eBP, eC0, eC1, eC4, eCV0, eCV2, eCV7, eGO, jIFeq, eLA0, eRV, fM_eachOf_0, fM_eachOf_4, fM_eachOf_19, fM_eachOf_33, bM_eachOf_0, bM_eachOf_4, bM_eachOf_19, bM_eachOf_33, ty_m, Option.toList_some, Option.toList_none, List.cons_append, List.nil_append, List.length_cons, List.length_nil, List.mem_cons, List.not_mem_nil, or_false, false_or, or_true, true_or, ↓reduceIte, true_and, and_true, Nat.reduceEqDiff, Nat.reduceAdd, Nat.reduceLeDiff, Nat.reduceLT, dl_i, dl_r, dl_n, dl_u, eq_self, not_true_eq_false, not_false_eq_true, n10, n01, nm0, n0m, imp_t, imp_f]
          refine hgo 20 [4] 4 _ _ _ _ _ ?_
          simp only [ixr_of, run_s, run_0, rM_eachOf, rok_i, rok_z, bx_cons, bx_nil, eBP, eC0, eC1, eC4, eCV0, eCV2, eCV7, eGO, jIFeq, eLA0, eRV, fM_eachOf_0, fM_eachOf_4, fM_eachOf_19, fM_eachOf_33, bM_eachOf_0, bM_eachOf_4, bM_eachOf_19, bM_eachOf_33, ty_m, Option.toList_some, Option.toList_none, List.cons_append, List.nil_append, List.length_cons, List.length_nil, List.mem_cons, List.not_mem_nil, or_false, false_or, or_true, true_or, ↓reduceIte, true_and, and_true, Nat.reduceEqDiff, Nat.reduceAdd, Nat.reduceLeDiff, Nat.reduceLT, dl_i, dl_r, dl_n, dl_u, eq_self, not_true_eq_false, not_false_eq_true, n10, n01, nm0, n0m, imp_t, imp_f]
          refine call0 (f_takes hE.nz ?_)
          simp only [ixr_of, run_s, run_0, rM_eachOf, rok_i, rok_z, bx_cons, bx_nil, eBP, eC0, eC1, eC4, eCV0, eCV2, eCV7, eGO, jIFeq, eLA0, eRV, fM_eachOf_0, fM_eachOf_4, fM_eachOf_19, fM_eachOf_33, bM_eachOf_0, bM_eachOf_4, bM_eachOf_19, bM_eachOf_33, ty_m, Option.toList_some, Option.toList_none, List.cons_append, List.nil_append, List.length_cons, List.length_nil, List.mem_cons, List.not_mem_nil, or_false, false_or, or_true, true_or, ↓reduceIte, true_and, and_true, Nat.reduceEqDiff, Nat.reduceAdd, Nat.reduceLeDiff, Nat.reduceLT, dl_i, dl_r, dl_n, dl_u, eq_self, not_true_eq_false, not_false_eq_true, n10, n01, nm0, n0m, imp_t, imp_f]
          refine hke e P ?_ (hFK.tr hP) hE
          rw [hlp, hR, bnd_e]
      · have q : ¬ wcode T n (sk T n b) = w_and := q
        simp only [ixr_of, run_s, run_0, rM_eachOf, rok_i, rok_z, bx_cons, bx_nil, eBP, eC0, eC1, eC4, eCV0, eCV2, eCV7, eGO, jIFeq, eLA0, eRV, fM_eachOf_0, fM_eachOf_4, fM_eachOf_19, fM_eachOf_33, bM_eachOf_0, bM_eachOf_4, bM_eachOf_19, bM_eachOf_33, ty_m, Option.toList_some, Option.toList_none, List.cons_append, List.nil_append, List.length_cons, List.length_nil, List.mem_cons, List.not_mem_nil, or_false, false_or, or_true, true_or, ↓reduceIte, true_and, and_true, Nat.reduceEqDiff, Nat.reduceAdd, Nat.reduceLeDiff, Nat.reduceLT, dl_i, dl_r, dl_n, dl_u, eq_self, not_true_eq_false, not_false_eq_true, n10, n01, nm0, n0m, imp_t, imp_f]
        refine hk _ [] K (by rw [lpW, if_neg q]) (hFJ.tr (show Fo J K by rw [hK]; exact Fo.fl (by decide))) ?_
        rw [List.append_nil]
        exact hOK
  refine hgo 20 [4] 0 _ _ _ _ _ ?_
  simp only [ixr_of, run_s, run_0, rM_eachOf, rok_i, rok_z, bx_cons, bx_nil, eBP, eC0, eC1, eC4, eCV0, eCV2, eCV7, eGO, jIFeq, eLA0, eRV, fM_eachOf_0, fM_eachOf_4, fM_eachOf_19, fM_eachOf_33, bM_eachOf_0, bM_eachOf_4, bM_eachOf_19, bM_eachOf_33, ty_m, Option.toList_some, Option.toList_none, List.cons_append, List.nil_append, List.length_cons, List.length_nil, List.mem_cons, List.not_mem_nil, or_false, false_or, or_true, true_or, ↓reduceIte, true_and, and_true, Nat.reduceEqDiff, Nat.reduceAdd, Nat.reduceLeDiff, Nat.reduceLT, dl_i, dl_r, dl_n, dl_u, eq_self, not_true_eq_false, not_false_eq_true, n10, n01, nm0, n0m, imp_t, imp_f]
  refine call0 (hv _ _ _ _ _ _ _ _ _ hO (fun b M J hR hJ hOJ => ?_) (fun e J hR hJ hE => ?_))
  · simp only [ixr_of, run_s, run_0, rM_eachOf, rok_i, rok_z, bx_cons, bx_nil, eBP, eC0, eC1, eC4, eCV0, eCV2, eCV7, eGO, jIFeq, eLA0, eRV, fM_eachOf_0, fM_eachOf_4, fM_eachOf_19, fM_eachOf_33, bM_eachOf_0, bM_eachOf_4, bM_eachOf_19, bM_eachOf_33, ty_m, Option.toList_some, Option.toList_none, List.cons_append, List.nil_append, List.length_cons, List.length_nil, List.mem_cons, List.not_mem_nil, or_false, false_or, or_true, true_or, ↓reduceIte, true_and, and_true, Nat.reduceEqDiff, Nat.reduceAdd, Nat.reduceLeDiff, Nat.reduceLT, dl_i, dl_r, dl_n, dl_u, eq_self, not_true_eq_false, not_false_eq_true, n10, n01, nm0, n0m, imp_t, imp_f]
    refine loop (n + 1) b J _ (by omega) hJ hOJ (fun c M2 J2 h1 h2 h3 => ?_) (fun e J2 h1 h2 h3 => ?_)
    · rw [List.append_assoc] at h3
      refine ho c _ J2 ?_ h2 h3
      show bnd (R a) _ = _
      rw [hR, bnd_o, h1]
    · refine he e J2 ?_ h2 h3
      show bnd (R a) _ = _
      rw [hR, bnd_o, h1]
  · simp only [ixr_of, run_s, run_0, rM_eachOf, rok_i, rok_z, bx_cons, bx_nil, eBP, eC0, eC1, eC4, eCV0, eCV2, eCV7, eGO, jIFeq, eLA0, eRV, fM_eachOf_0, fM_eachOf_4, fM_eachOf_19, fM_eachOf_33, bM_eachOf_0, bM_eachOf_4, bM_eachOf_19, bM_eachOf_33, ty_m, Option.toList_some, Option.toList_none, List.cons_append, List.nil_append, List.length_cons, List.length_nil, List.mem_cons, List.not_mem_nil, or_false, false_or, or_true, true_or, ↓reduceIte, true_and, and_true, Nat.reduceEqDiff, Nat.reduceAdd, Nat.reduceLeDiff, Nat.reduceLT, dl_i, dl_r, dl_n, dl_u, eq_self, not_true_eq_false, not_false_eq_true, n10, n01, nm0, n0m, imp_t, imp_f]
    refine hgo 20 [4] 4 _ _ _ _ _ ?_
    simp only [ixr_of, run_s, run_0, rM_eachOf, rok_i, rok_z, bx_cons, bx_nil, eBP, eC0, eC1, eC4, eCV0, eCV2, eCV7, eGO, jIFeq, eLA0, eRV, fM_eachOf_0, fM_eachOf_4, fM_eachOf_19, fM_eachOf_33, bM_eachOf_0, bM_eachOf_4, bM_eachOf_19, bM_eachOf_33, ty_m, Option.toList_some, Option.toList_none, List.cons_append, List.nil_append, List.length_cons, List.length_nil, List.mem_cons, List.not_mem_nil, or_false, false_or, or_true, true_or, ↓reduceIte, true_and, and_true, Nat.reduceEqDiff, Nat.reduceAdd, Nat.reduceLeDiff, Nat.reduceLT, dl_i, dl_r, dl_n, dl_u, eq_self, not_true_eq_false, not_false_eq_true, n10, n01, nm0, n0m, imp_t, imp_f]
    refine call0 (f_takes hE.nz ?_)
    simp only [ixr_of, run_s, run_0, rM_eachOf, rok_i, rok_z, bx_cons, bx_nil, eBP, eC0, eC1, eC4, eCV0, eCV2, eCV7, eGO, jIFeq, eLA0, eRV, fM_eachOf_0, fM_eachOf_4, fM_eachOf_19, fM_eachOf_33, bM_eachOf_0, bM_eachOf_4, bM_eachOf_19, bM_eachOf_33, ty_m, Option.toList_some, Option.toList_none, List.cons_append, List.nil_append, List.length_cons, List.length_nil, List.mem_cons, List.not_mem_nil, or_false, false_or, or_true, true_or, ↓reduceIte, true_and, and_true, Nat.reduceEqDiff, Nat.reduceAdd, Nat.reduceLeDiff, Nat.reduceLT, dl_i, dl_r, dl_n, dl_u, eq_self, not_true_eq_false, not_false_eq_true, n10, n01, nm0, n0m, imp_t, imp_f]
    refine he e J ?_ hJ hE
    show bnd (R a) _ = _
    rw [hR, bnd_e]

theorem c_anyOf {f : Nat} {R : Nat → Rs} (hT : Tx T n) (hf6 : f ≤ 6) (hG : Gs n R) (hv : RdC T n mM_eachOf 12 f R) : RdC T n mM_anyOf 13 f (fun a => bnd (R a) (lpW T n w_or 11 R (n + 1))) := by
  intro Γ l d I E kr kx a L hO ho he
  have ha : a ≤ n := hO.2.2.2.2.1
  refine ex_of (ls0 := [some (.ref 500000)]) tM_anyOf (by decide +kernel) kM_anyOf rfl (Nat.le_of_ble_eq_true rfl) rfl ?_
  intro go hgo
  have loop : ∀ (g b : Nat) (J : Iv) (L' : List Cd), n - b < g → Fo I J → OSt T n J b (6 - f) L' → (∀ c M2 J2, lpW T n w_or 11 R g b = .ok (c, M2) → Fo I J2 → OSt T n J2 c (6 - f) (L' ++ M2) → kr none J2 E) → (∀ e J2, lpW T n w_or 11 R g b = .error e → Fo I J2 → OEr n J2 e → kr none J2 E) → go 4 [some (.ref 500000)] [] J E (0, 0) := by
    intro g
    induction g with
    | zero => intro b J L' hg; omega
    | succ g ih =>
      intro b J L' hg hFJ hOJ hk hke
      have hf : J 500000 5 = nI 0 := hOJ.2.2.2.2.2.1
      have hb : b ≤ n := hOJ.2.2.2.2.1
      have hLb := hOJ.2.2.2.2.2.2.2.2.2.1
      have hs := sk_b (t := T) hb
      refine hgo 20 [4] 4 _ _ _ _ _ ?_
      simp only [ixr_of, run_s, run_0, rM_anyOf, rok_i, rok_z, bx_cons, bx_nil, eBP, eC0, eCV0, eCV2, eCV7, eGO, jIFeq, eLA0, eRV, fM_anyOf_0, fM_anyOf_4, fM_anyOf_20, fM_anyOf_34, bM_anyOf_0, bM_anyOf_4, bM_anyOf_20, bM_anyOf_34, ty_m, Option.toList_some, Option.toList_none, List.cons_append, List.nil_append, List.length_cons, List.length_nil, List.mem_cons, List.not_mem_nil, or_false, false_or, or_true, true_or, ↓reduceIte, true_and, and_true, Nat.reduceEqDiff, Nat.reduceAdd, Nat.reduceLeDiff, Nat.reduceLT, dl_i, dl_r, dl_n, dl_u, eq_self, not_true_eq_false, not_false_eq_true, n10, n01, nm0, n0m, imp_t, imp_f]
      refine call0 (o_takes hOJ (fun q K hK hOK => ?_) (fun q K hK hOK => ?_))
      · have q : wcode T n (sk T n b) = w_or := q
        have hlt := wEnd_lt hs.2 q (by decide)
        have hlp : lpW T n w_or 11 R (g + 1) b = bnd (R (wEnd T n (sk T n b))) (fun b => bnd (say1 (11, 0) b) (lpW T n w_or 11 R g)) := by rw [lpW, if_pos q]
        have hFK : Fo I K := hFJ.tr (show Fo J K by rw [hK]; exact Fo.fl (by decide))
        simp only [ixr_of, run_s, run_0, rM_anyOf, rok_i, rok_z, bx_cons, bx_nil, eBP, eC0, eCV0, eCV2, eCV7, eGO, jIFeq, eLA0, eRV, fM_anyOf_0, fM_anyOf_4, fM_anyOf_20, fM_anyOf_34, bM_anyOf_0, bM_anyOf_4, bM_anyOf_20, bM_anyOf_34, ty_m, Option.toList_some, Option.toList_none, List.cons_append, List.nil_append, List.length_cons, List.length_nil, List.mem_cons, List.not_mem_nil, or_false, false_or, or_true, true_or, ↓reduceIte, true_and, and_true, Nat.reduceEqDiff, Nat.reduceAdd, Nat.reduceLeDiff, Nat.reduceLT, dl_i, dl_r, dl_n, dl_u, eq_self, not_true_eq_false, not_false_eq_true, n10, n01, nm0, n0m, imp_t, imp_f]
        refine call0 (hv _ _ _ _ _ _ _ _ _ hOK (fun c M2 P hR hP hOP => ?_) (fun e P hR hP hE => ?_))
        · have hg1 := hG _ _ _ (by omega) hR
          have hlen : (L' ++ M2).length + 1 ≤ c := by rw [List.length_append]; omega
          simp only [ixr_of, run_s, run_0, rM_anyOf, rok_i, rok_z, bx_cons, bx_nil, eBP, eC0, eCV0, eCV2, eCV7, eGO, jIFeq, eLA0, eRV, fM_anyOf_0, fM_anyOf_4, fM_anyOf_20, fM_anyOf_34, bM_anyOf_0, bM_anyOf_4, bM_anyOf_20, bM_anyOf_34, ty_m, Option.toList_some, Option.toList_none, List.cons_append, List.nil_append, List.length_cons, List.length_nil, List.mem_cons, List.not_mem_nil, or_false, false_or, or_true, true_or, ↓reduceIte, true_and, and_true, Nat.reduceEqDiff, Nat.reduceAdd, Nat.reduceLeDiff, Nat.reduceLT, dl_i, dl_r, dl_n, dl_u, eq_self, not_true_eq_false, not_false_eq_true, n10, n01, nm0, n0m, imp_t, imp_f]
          refine call0 (o_says hOP hlen (by omega) ?_)
          intro Q hQ hOQ
          simp only [ixr_of, run_s, run_0, rM_anyOf, rok_i, rok_z, bx_cons, bx_nil, eBP, eC0, eCV0, eCV2, eCV7, eGO, jIFeq, eLA0, eRV, fM_anyOf_0, fM_anyOf_4, fM_anyOf_20, fM_anyOf_34, bM_anyOf_0, bM_anyOf_4, bM_anyOf_20, bM_anyOf_34, ty_m, Option.toList_some, Option.toList_none, List.cons_append, List.nil_append, List.length_cons, List.length_nil, List.mem_cons, List.not_mem_nil, or_false, false_or, or_true, true_or, ↓reduceIte, true_and, and_true, Nat.reduceEqDiff, Nat.reduceAdd, Nat.reduceLeDiff, Nat.reduceLT, dl_i, dl_r, dl_n, dl_u, eq_self, not_true_eq_false, not_false_eq_true, n10, n01, nm0, n0m, imp_t, imp_f]
          refine ih c Q _ (by omega) (hFK.tr (hP.tr hQ)) hOQ (fun c' M3 J2 h1 h2 h3 => ?_) (fun e J2 h1 h2 h3 => ?_)
          · rw [List.append_assoc, List.append_assoc] at h3
            refine hk c' _ J2 ?_ h2 h3
            rw [hlp, hR, bnd_o]
            show (match bnd (say1 (11, 0) c) _ with | .error e => Except.error e | .ok (b, m) => .ok (b, M2 ++ m)) = _
            unfold say1
            rw [bnd_o, h1]
          · refine hke e J2 ?_ h2 h3
            rw [hlp, hR, bnd_o]
            show (match bnd (say1 (11, 0) c) _ with | .error e => Except.error e | .ok (b, m) => .ok (b, M2 ++ m)) = _
            unfold say1
            rw [bnd_o, h1]
        · simp only [ixr_of, run_s, run_0, rM_anyOf, rok_i, rok_z, bx_cons, bx_nil, eBP, eC0, eCV0, eCV2, eCV7, eGO, jIFeq, eLA0, eRV, fM_anyOf_0, fM_anyOf_4, fM_anyOf_20, fM_anyOf_34, bM_anyOf_0, bM_anyOf_4, bM_anyOf_20, bM_anyOf_34, ty_m, Option.toList_some, Option.toList_none, List.cons_append, List.nil_append, List.length_cons, List.length_nil, List.mem_cons, List.not_mem_nil, or_false, false_or, or_true, true_or, ↓reduceIte, true_and, and_true, Nat.reduceEqDiff, Nat.reduceAdd, Nat.reduceLeDiff, Nat.reduceLT, dl_i, dl_r, dl_n, dl_u, eq_self, not_true_eq_false, not_false_eq_true, n10, n01, nm0, n0m, imp_t, imp_f]
          refine call0 (f_says hE.nz ?_)
          simp only [ixr_of, run_s, run_0, rM_anyOf, rok_i, rok_z, bx_cons, bx_nil, eBP, eC0, eCV0, eCV2, eCV7, eGO, jIFeq, eLA0, eRV, fM_anyOf_0, fM_anyOf_4, fM_anyOf_20, fM_anyOf_34, bM_anyOf_0, bM_anyOf_4, bM_anyOf_20, bM_anyOf_34, ty_m, Option.toList_some, Option.toList_none, List.cons_append, List.nil_append, List.length_cons, List.length_nil, List.mem_cons, List.not_mem_nil, or_false, false_or, or_true, true_or, ↓reduceIte, true_and, and_true, Nat.reduceEqDiff, Nat.reduceAdd, Nat.reduceLeDiff, Nat.reduceLT, dl_i, dl_r, dl_n, dl_u, eq_self, not_true_eq_false, not_false_eq_true, n10, n01, nm0, n0m, imp_t, imp_f]
          refine hgo 20 [4] 4 _ _ _ _ _ ?_
          simp only [ixr_of, run_s, run_0, rM_anyOf, rok_i, rok_z, bx_cons, bx_nil, eBP, eC0, eCV0, eCV2, eCV7, eGO, jIFeq, eLA0, eRV, fM_anyOf_0, fM_anyOf_4, fM_anyOf_20, fM_anyOf_34, bM_anyOf_0, bM_anyOf_4, bM_anyOf_20, bM_anyOf_34, ty_m, Option.toList_some, Option.toList_none, List.cons_append, List.nil_append, List.length_cons, List.length_nil, List.mem_cons, List.not_mem_nil, or_false, false_or, or_true, true_or, ↓reduceIte, true_and, and_true, Nat.reduceEqDiff, Nat.reduceAdd, Nat.reduceLeDiff, Nat.reduceLT, dl_i, dl_r, dl_n, dl_u, eq_self, not_true_eq_false, not_false_eq_true, n10, n01, nm0, n0m, imp_t, imp_f]
          refine call0 (f_takes hE.nz ?_)
          simp only [ixr_of, run_s, run_0, rM_anyOf, rok_i, rok_z, bx_cons, bx_nil, eBP, eC0, eCV0, eCV2, eCV7, eGO, jIFeq, eLA0, eRV, fM_anyOf_0, fM_anyOf_4, fM_anyOf_20, fM_anyOf_34, bM_anyOf_0, bM_anyOf_4, bM_anyOf_20, bM_anyOf_34, ty_m, Option.toList_some, Option.toList_none, List.cons_append, List.nil_append, List.length_cons, List.length_nil, List.mem_cons, List.not_mem_nil, or_false, false_or, or_true, true_or, ↓reduceIte, true_and, and_true, Nat.reduceEqDiff, Nat.reduceAdd, Nat.reduceLeDiff, Nat.reduceLT, dl_i, dl_r, dl_n, dl_u, eq_self, not_true_eq_false, not_false_eq_true, n10, n01, nm0, n0m, imp_t, imp_f]
          refine hke e P ?_ (hFK.tr hP) hE
          rw [hlp, hR, bnd_e]
      · have q : ¬ wcode T n (sk T n b) = w_or := q
        simp only [ixr_of, run_s, run_0, rM_anyOf, rok_i, rok_z, bx_cons, bx_nil, eBP, eC0, eCV0, eCV2, eCV7, eGO, jIFeq, eLA0, eRV, fM_anyOf_0, fM_anyOf_4, fM_anyOf_20, fM_anyOf_34, bM_anyOf_0, bM_anyOf_4, bM_anyOf_20, bM_anyOf_34, ty_m, Option.toList_some, Option.toList_none, List.cons_append, List.nil_append, List.length_cons, List.length_nil, List.mem_cons, List.not_mem_nil, or_false, false_or, or_true, true_or, ↓reduceIte, true_and, and_true, Nat.reduceEqDiff, Nat.reduceAdd, Nat.reduceLeDiff, Nat.reduceLT, dl_i, dl_r, dl_n, dl_u, eq_self, not_true_eq_false, not_false_eq_true, n10, n01, nm0, n0m, imp_t, imp_f]
        refine hk _ [] K (by rw [lpW, if_neg q]) (hFJ.tr (show Fo J K by rw [hK]; exact Fo.fl (by decide))) ?_
        rw [List.append_nil]
        exact hOK
  refine hgo 20 [4] 0 _ _ _ _ _ ?_
  simp only [ixr_of, run_s, run_0, rM_anyOf, rok_i, rok_z, bx_cons, bx_nil, eBP, eC0, eCV0, eCV2, eCV7, eGO, jIFeq, eLA0, eRV, fM_anyOf_0, fM_anyOf_4, fM_anyOf_20, fM_anyOf_34, bM_anyOf_0, bM_anyOf_4, bM_anyOf_20, bM_anyOf_34, ty_m, Option.toList_some, Option.toList_none, List.cons_append, List.nil_append, List.length_cons, List.length_nil, List.mem_cons, List.not_mem_nil, or_false, false_or, or_true, true_or, ↓reduceIte, true_and, and_true, Nat.reduceEqDiff, Nat.reduceAdd, Nat.reduceLeDiff, Nat.reduceLT, dl_i, dl_r, dl_n, dl_u, eq_self, not_true_eq_false, not_false_eq_true, n10, n01, nm0, n0m, imp_t, imp_f]
  refine call0 (hv _ _ _ _ _ _ _ _ _ hO (fun b M J hR hJ hOJ => ?_) (fun e J hR hJ hE => ?_))
  · simp only [ixr_of, run_s, run_0, rM_anyOf, rok_i, rok_z, bx_cons, bx_nil, eBP, eC0, eCV0, eCV2, eCV7, eGO, jIFeq, eLA0, eRV, fM_anyOf_0, fM_anyOf_4, fM_anyOf_20, fM_anyOf_34, bM_anyOf_0, bM_anyOf_4, bM_anyOf_20, bM_anyOf_34, ty_m, Option.toList_some, Option.toList_none, List.cons_append, List.nil_append, List.length_cons, List.length_nil, List.mem_cons, List.not_mem_nil, or_false, false_or, or_true, true_or, ↓reduceIte, true_and, and_true, Nat.reduceEqDiff, Nat.reduceAdd, Nat.reduceLeDiff, Nat.reduceLT, dl_i, dl_r, dl_n, dl_u, eq_self, not_true_eq_false, not_false_eq_true, n10, n01, nm0, n0m, imp_t, imp_f]
    refine loop (n + 1) b J _ (by omega) hJ hOJ (fun c M2 J2 h1 h2 h3 => ?_) (fun e J2 h1 h2 h3 => ?_)
    · rw [List.append_assoc] at h3
      refine ho c _ J2 ?_ h2 h3
      show bnd (R a) _ = _
      rw [hR, bnd_o, h1]
    · refine he e J2 ?_ h2 h3
      show bnd (R a) _ = _
      rw [hR, bnd_o, h1]
  · simp only [ixr_of, run_s, run_0, rM_anyOf, rok_i, rok_z, bx_cons, bx_nil, eBP, eC0, eCV0, eCV2, eCV7, eGO, jIFeq, eLA0, eRV, fM_anyOf_0, fM_anyOf_4, fM_anyOf_20, fM_anyOf_34, bM_anyOf_0, bM_anyOf_4, bM_anyOf_20, bM_anyOf_34, ty_m, Option.toList_some, Option.toList_none, List.cons_append, List.nil_append, List.length_cons, List.length_nil, List.mem_cons, List.not_mem_nil, or_false, false_or, or_true, true_or, ↓reduceIte, true_and, and_true, Nat.reduceEqDiff, Nat.reduceAdd, Nat.reduceLeDiff, Nat.reduceLT, dl_i, dl_r, dl_n, dl_u, eq_self, not_true_eq_false, not_false_eq_true, n10, n01, nm0, n0m, imp_t, imp_f]
    refine hgo 20 [4] 4 _ _ _ _ _ ?_
    simp only [ixr_of, run_s, run_0, rM_anyOf, rok_i, rok_z, bx_cons, bx_nil, eBP, eC0, eCV0, eCV2, eCV7, eGO, jIFeq, eLA0, eRV, fM_anyOf_0, fM_anyOf_4, fM_anyOf_20, fM_anyOf_34, bM_anyOf_0, bM_anyOf_4, bM_anyOf_20, bM_anyOf_34, ty_m, Option.toList_some, Option.toList_none, List.cons_append, List.nil_append, List.length_cons, List.length_nil, List.mem_cons, List.not_mem_nil, or_false, false_or, or_true, true_or, ↓reduceIte, true_and, and_true, Nat.reduceEqDiff, Nat.reduceAdd, Nat.reduceLeDiff, Nat.reduceLT, dl_i, dl_r, dl_n, dl_u, eq_self, not_true_eq_false, not_false_eq_true, n10, n01, nm0, n0m, imp_t, imp_f]
    refine call0 (f_takes hE.nz ?_)
    simp only [ixr_of, run_s, run_0, rM_anyOf, rok_i, rok_z, bx_cons, bx_nil, eBP, eC0, eCV0, eCV2, eCV7, eGO, jIFeq, eLA0, eRV, fM_anyOf_0, fM_anyOf_4, fM_anyOf_20, fM_anyOf_34, bM_anyOf_0, bM_anyOf_4, bM_anyOf_20, bM_anyOf_34, ty_m, Option.toList_some, Option.toList_none, List.cons_append, List.nil_append, List.length_cons, List.length_nil, List.mem_cons, List.not_mem_nil, or_false, false_or, or_true, true_or, ↓reduceIte, true_and, and_true, Nat.reduceEqDiff, Nat.reduceAdd, Nat.reduceLeDiff, Nat.reduceLT, dl_i, dl_r, dl_n, dl_u, eq_self, not_true_eq_false, not_false_eq_true, n10, n01, nm0, n0m, imp_t, imp_f]
    refine he e J ?_ hJ hE
    show bnd (R a) _ = _
    rw [hR, bnd_e]

theorem c_sumD (hT : Tx T n) : ∀ f, f ≤ 6 → RdC T n mM_sum 10 f (sumD T n f)
  | 0, h => c_sum hT h (bnd_gs (valW_g hT (fun s c => by cases c)) (lpL_g hT (by decide) (by decide) (valW_g hT (fun s c => by cases c)).gd _)) (c_product hT h (valW_g hT (fun s c => by cases c)) (c_value (f := 0) hT h (fun g c => by omega)))
  | f + 1, h => by
    have hv : Gs n (valW T n (some (sumD T n f))) := valW_g hT (fun s c => by cases c; exact (sumD_g hT f).gd)
    have hp : Gs n (proW T n (valW T n (some (sumD T n f)))) := bnd_gs hv (lpL_g hT (by decide) (by decide) hv.gd _)
    exact c_sum hT h hp (c_product hT h hv (c_value (f := f + 1) hT h (fun g c => by cases c; exact c_sumD hT f (by omega))))
end CM26
