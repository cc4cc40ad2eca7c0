/-! public methods, 13: the tape -/
theorem b8b {a : Int32} : a.toInt8.toInt32.toInt8.toInt32 = a.toInt8.toInt32 := by simp
theorem b8a {a : Int32} : a.toInt8.toInt32 &&& nI 255 = a &&& nI 255 := by
  apply Int32.toBitVec_inj.mp
  have e : (nI 255).toBitVec = (255#32) := rfl
  have h255 : ∀ i, i < 32 → (255#32).getLsbD i = decide (i < 8) := by decide
  rw [Int32.toBitVec_and, Int32.toBitVec_and, e]
  apply BitVec.eq_of_getLsbD_eq
  intro i hi
  rw [BitVec.getLsbD_and, BitVec.getLsbD_and, h255 i hi]
  by_cases h : i < 8
  · have : a.toInt8.toInt32.toBitVec.getLsbD i = a.toBitVec.getLsbD i := by
      rw [Int8.toBitVec_toInt32, Int32.toBitVec_toInt8, BitVec.getLsbD_signExtend, BitVec.getLsbD_signExtend]
      simp [h, hi]
    rw [this]
  · simp [h]
def fdX (r : Nat → Int32) (tp : Nat) (a b c e f : Int32) : Nat → Int32 := apR (apR (apR (apR (apR r tp a 4) (tp + 4) b 4) (tp + 4 + 4) c 4) (tp + 4 + 4 + 4) e 4) (tp + 4 + 4 + 4 + 4) f 4
theorem apB_V {x : Int32} {i : Nat} : apB x i &&& nI 255 = x >>> ((nI 24 - nI 8 * nI i) &&& 31) &&& nI 255 := b8a
theorem fdX_v {r r' : Nat → Int32} {tp k : Nat} {a b c e f : Int32} (h : ∀ k, k < tp → r k &&& nI 255 = r' k) (hk : k < tp + 20) : fdX r tp a b c e f k &&& nI 255 = fdR r' tp a b c e f 20 k := by
  unfold fdX fdR
  by_cases h0 : k < tp
  · unfold apR
    rw [if_neg (by omega), if_neg (by omega), if_neg (by omega), if_neg (by omega), if_neg (by omega), if_neg (by omega)]
    exact h k h0
  · rw [if_pos (by omega)]
    unfold fdV
    by_cases h1 : k < tp + 4
    · unfold apR
      rw [if_neg (by omega), if_neg (by omega), if_neg (by omega), if_neg (by omega), if_pos (by omega), if_pos (by omega), show (k - tp) % 4 = k - tp by omega]
      exact apB_V
    · by_cases h2 : k < tp + 8
      · unfold apR
        rw [if_neg (by omega), if_neg (by omega), if_neg (by omega), if_pos (by omega), if_neg (by omega), if_pos (by omega), show (k - tp) % 4 = k - (tp + 4) by omega]
        exact apB_V
      · by_cases h3 : k < tp + 12
        · unfold apR
          rw [if_neg (by omega), if_neg (by omega), if_pos (by omega), if_neg (by omega), if_neg (by omega), if_pos (by omega), show (k - tp) % 4 = k - (tp + 4 + 4) by omega]
          exact apB_V
        · by_cases h4 : k < tp + 16
          · unfold apR
            rw [if_neg (by omega), if_pos (by omega), if_neg (by omega), if_neg (by omega), if_neg (by omega), if_pos (by omega), show (k - tp) % 4 = k - (tp + 4 + 4 + 4) by omega]
            exact apB_V
          · unfold apR
            rw [if_pos (by omega), if_neg (by omega), if_neg (by omega), if_neg (by omega), if_neg (by omega), show (k - tp) % 4 = k - (tp + 4 + 4 + 4 + 4) by omega]
            exact apB_V
theorem apR_by {r : Nat → Int32} {f m : Nat} {x : Int32} (h : ∀ k, k < 600 → (r k).toInt8.toInt32 = r k) : ∀ k, k < 600 → (apR r f x m k).toInt8.toInt32 = apR r f x m k := by
  intro k hk
  unfold apR
  by_cases e : f ≤ k ∧ k < f + m
  · rw [if_pos e]
    exact b8b
  · rw [if_neg e]
    exact h k hk
theorem R1.fi {J L : Iv} {E : Ev} {S : Tn} {PS : Nat → List Pt} {t : Nat} {op : Nat → Nat} (h : R1 J E S PS t op) (hT : ∀ i, t ≤ i → i ≤ t + 10 → L i = J i) (hO : ∀ v, v < 9 → L (op v) = J (op v) ∧ L (op v + 1) = J (op v + 1)) (ht : SayT J L) (h68 : L 500068 = J 500068) (h27 : L 500127 = J 500127) : R1 L E S PS t op := by
  obtain ⟨⟨⟨a1, a2, a3, a4, a5, a6, a7, a8⟩, m1, m2, m3⟩, h2, h3, h4, h5, h6⟩ := h
  refine ⟨⟨⟨a1, a2, a3.mv hT, a4, a5, a6, a7, fun v hv => ⟨(a8 v hv).1.mv (hO v hv).1 (hO v hv).2, (a8 v hv).2⟩⟩, m1.t a4 ht, m2.t ht, m3.t a4.1 ht⟩, h2, h3, fun v hv => by rw [h68]; exact h4 v hv, by rw [ht 500004 (by unfold tw; omega)]; exact h5, fun k hk => by rw [h27]; exact h6 k hk⟩
theorem R2.fi {J L : Iv} {E : Ev} {bk : List (Nat × Nat)} {kb : Nat} (h : R2 J E bk kb) (hB : ∀ i, kb ≤ i → i ≤ kb + 2 → L i = J i) (h36 : L 500000 36 = J 500000 36) (hM : ∀ i, 500094 ≤ i → i < 500106 → L i = J i) : R2 L E bk kb := by
  obtain ⟨⟨a1, a2, ⟨x1, x2, x3⟩, a4⟩, h2, h3, h4⟩ := h
  refine ⟨⟨a1, a2, ⟨by rw [hB kb (by omega) (by omega)]; exact x1, by rw [hB kb (by omega) (by omega)]; exact x2, fun i x hx => by rw [hB (kb + 1) (by omega) (by omega), hB (kb + 2) (by omega) (by omega)]; exact x3 i x hx⟩, a4⟩, h2, by rw [h36]; exact h3, fun k x hx => ?_⟩
  have : k < bk.length := (List.getElem?_eq_some_iff.mp hx).1
  have := a4.1
  rw [hM (500094 + k) (by omega) (by omega)]
  exact h4 k x hx
/-- what a reader leaves of the model -/
def mL (i : Nat) : Prop := tw i ∨ i = 500068 ∨ i = 500127 ∨ (500094 ≤ i ∧ i < 500106) ∨ (500120 ≤ i ∧ i ≤ 500125) ∨ i = 500002
/-- only the tape and what readers write is another -/
theorem GS.tp {q z n n0 p c t kb im rw' tp' : Nat} {S : Tn} {PS : Nat → List Pt} {op mk nim : Nat → Nat} {bk : List (Nat × Nat)} {J L : Iv} {E F : Ev} (r1 : R1 J E S PS t op) (r2 : R2 J E bk kb) (r3 : R3 J S n p c) (r4 : R4 J E S n n0 q mk) (r5 : R5 J S im nim) (r7 : R7 J) (r8 : R8 J S bk) (r9 : R9 E rw' z) (hE : EX true (fun a _ => a = 97) E F) (h9 : tyc shN F 999999 = 0) (hT : ∀ i, t ≤ i → i ≤ t + 10 → L i = J i) (hO : ∀ v, v < 9 → L (op v) = J (op v) ∧ L (op v + 1) = J (op v + 1)) (hB : ∀ i, kb ≤ i → i ≤ kb + 2 → L i = J i) (hX : ∀ i, i = 0 ∨ i = 58 ∨ (71 ≤ i ∧ i ≤ 79) ∨ (101 ≤ i ∧ i < 125) ∨ 1000000 ≤ i → L i = J i) (hM : ∀ i, mL i → L i = J i) (hf : ∀ j, 36 ≤ j → j ≤ 40 → L 500000 j = J 500000 j) (r6 : R6 L tp') : GS q z L F := by
  have hS := r1.1.1.2.2.2.1
  have s9 := hS.1
  have ht : SayT J L := fun i hi => hM i (Or.inl hi)
  have l23 : L 500123 = J 500123 := hM _ (by unfold mL; omega)
  have l24 : L 500124 = J 500124 := hM _ (by unfold mL; omega)
  have l25 : L 500125 = J 500125 := hM _ (by unfold mL; omega)
  have l27 : L 500127 = J 500127 := hM _ (by unfold mL; omega)
  have e58 : L 58 = J 58 := hX 58 (by omega)
  have e0 : L 0 = J 0 := hX 0 (by omega)
  refine ⟨S, PS, t, op, bk, kb, n, n0, p, c, mk, tp', im, nim, rw', (r1.fi hT hO ht (hM _ (by unfold mL; omega)) l27).ex hE (by decide) (fun _ _ => by decide) (by decide) (by decide), (r2.fi hB (hf 36 (by omega) (by omega)) (fun i a c => hM i (by unfold mL; omega))).ex hE (by decide) (by decide), r3.cg s9 (fun i a c => hX i (by omega)) l24 l23 (hf 37 (by omega) (by omega)) (hf 38 (by omega) (by omega)), (r4.cg hS ht (by rw [hX 79 (by omega)]) l24 l25 l23 (hf 37 (by omega) (by omega)) (hf 38 (by omega) (by omega)) (hf 39 (by omega) (by omega)) (fun i a => hX i (by omega))).ex hE (fun _ => by decide) (fun y j hy => by omega), r5.cg s9 (Nat.le_refl _) (by rw [e0]; exact r5.1) (by rw [hf 40 (by omega) (by omega)]; exact r5.2.2.1) (fun i a c => hX i (by omega)) (fun m hm => hM _ (by unfold mL; omega)), r6, r7.mv e0 (hM _ (by unfold mL; omega)), ?_, r9.ex hE (by decide) h9⟩
  rcases r8 with h | ⟨h1, h2⟩
  · left; rw [e58]; exact h
  · right
    exact ⟨by rw [e58]; exact h1, h2.mv hS ht l27 (fun k _ _ => by rw [e58])⟩
theorem x_append' {Γ : Gm} {l : Launch} {b : Bool} {d : Nat} {I : Iv} {E : Ev} {kr : Kr} {kx : Kxx} {f : Nat} {x : Int32} (hf : I 1 1 = nI f) (hf6 : f + 4 ≤ 600) (hk : ∀ K, (∀ i, i ≠ 1 → i ≠ 2 → K i = I i) → K 2 = apR (I 2) f x 4 → K 1 1 = nI (f + 4) → (∀ j, j ≠ 1 → K 1 j = I 1 j) → kr none K E) : Ex Γ l (shB b) (d + 1) (0, 0) mTp_append [.ref 1, .int x] I E kr kx := by
  refine x_append hf hf6 (hk _ (fun i a c => ?_) ?_ up_s (fun j a => ?_))
  · funext j
    rw [up_n (by omega), sr_n c]
  · funext j
    rw [up_n (by omega), sr_s]
  · rw [up_n (by omega), sr_n (by omega)]

theorem g_feed {q z : Nat} {J : Iv} {E : Ev} {x1 x2 x3 x4 x5 : Int32} (h : GS q z J E) : StX0 mH_feed mM_feed [.int x1, .int x2, .int x3, .int x4, .int x5] q z J E := by
  have hG0 := h
  obtain ⟨S, PS, t, op, bk, kb, n, n0, p, c, mk, tp, im, nim, rw', r1, r2, r3, r4, r5, r6, r7, r8, r9⟩ := h
  have hS := r1.1.1.2.2.2.1
  have s9 := hS.1
  have hVS := r1.1.2.2.1
  have hq32 := r4.1.1
  obtain ⟨g3, hT, hXt, -⟩ := id r1.1.1
  have tT : tyc shN E t = 10 := (hT.A (b := true) (E := E)).1
  have v7 := hXt.1
  have h40 := hVS.1
  obtain ⟨t1, t2, t3, t4, t5, t6⟩ := id r6
  have ea : nI tp + nI 20 = nI (tp + 20) := nI_add _ _
  by_cases hb : 600 < tp + 20
  · have c1 : (nI (tp + 20) ≤ nI 600) = False := by rw [nIl (by omega) (by omega)]; exact eq_false (by omega)
    refine ⟨(0, 0), q, z, Cst.no, hq32, fun Γ l d kr kx hG hk => ?_⟩
    refine ex_of (ls0 := [some (.ref 0), some (.int x1), some (.int x2), some (.int x3), some (.int x4), some (.int x5)]) tH_feed (by decide +kernel) kH_feed rfl (Nat.le_of_ble_eq_true rfl) rfl ?_
    intro go hgo
    refine hgo 20 [] 0 _ _ _ _ _ ?_
    simp only [ixr_of, run_s, run_0, rH_feed, rok_i, rok_z, bx_cons, bx_nil, eADD, eBP, eCV1, eCm1, eGI, eGR, jICle, eLA0, eLI1, eLI2, eLI3, eLI4, eLI5, eRI, eSP, fH_feed_0, fH_feed_16, fH_feed_18, bH_feed_0, bH_feed_16, bH_feed_18, ln_ximages, ln_xthought, rg_xmain_0, rg_xmain_1, rg_xmain_10, rg_xmain_2, rg_xmain_3, rg_xmain_4, rg_xmain_5, rg_xmain_6, rg_xmain_7, ty_xaqueduct, ty_xdiary, ty_xforesight, ty_ximages, ty_xmain, ty_xnow, ty_xopinionReader, ty_xtape, ty_xtasters, ty_xthought, Option.toList_some, Option.toList_none, List.cons_append, List.nil_append, List.length_cons, List.length_nil, List.mem_cons, List.not_mem_nil, or_false, false_or, or_true, true_or, ↓reduceIte, true_and, and_true, Nat.reduceEqDiff, Nat.reduceAdd, Nat.reduceLeDiff, Nat.reduceLT, dl_i, dl_r, dl_n, dl_u, eq_self, not_true_eq_false, not_false_eq_true, n10, n01, nm0, n0m, t1, ea, c1, imp_t, imp_f]
    exact hk _ J E (fun Γ l d kr kx hk2 => c_feed t2 t3 (fun _ => hk2 _ hG0.th up_s) (fun c => absurd c (by omega)))
  have c1 : (nI (tp + 20) ≤ nI 600) = True := by rw [nIl (by omega) (by omega)]; exact eq_true (by omega)
  refine ⟨(0, 0), q, z, Cst.no, hq32, fun Γ l d kr kx hG hk => ?_⟩
  refine ex_of (ls0 := [some (.ref 0), some (.int x1), some (.int x2), some (.int x3), some (.int x4), some (.int x5)]) tH_feed (by decide +kernel) kH_feed rfl (Nat.le_of_ble_eq_true rfl) rfl ?_
  intro go hgo
  refine hgo 20 [] 0 _ _ _ _ _ ?_
  simp only [ixr_of, run_s, run_0, rH_feed, rok_i, rok_z, bx_cons, bx_nil, eADD, eBP, eCV1, eCm1, eGI, eGR, jICle, eLA0, eLI1, eLI2, eLI3, eLI4, eLI5, eRI, eSP, fH_feed_0, fH_feed_16, fH_feed_18, bH_feed_0, bH_feed_16, bH_feed_18, ln_ximages, ln_xthought, rg_xmain_0, rg_xmain_1, rg_xmain_10, rg_xmain_2, rg_xmain_3, rg_xmain_4, rg_xmain_5, rg_xmain_6, rg_xmain_7, ty_xaqueduct, ty_xdiary, ty_xforesight, ty_ximages, ty_xmain, ty_xnow, ty_xopinionReader, ty_xtape, ty_xtasters, ty_xthought, Option.toList_some, Option.toList_none, List.cons_append, List.nil_append, List.length_cons, List.length_nil, List.mem_cons, List.not_mem_nil, or_false, false_or, or_true, true_or, ↓reduceIte, true_and, and_true, Nat.reduceEqDiff, Nat.reduceAdd, Nat.reduceLeDiff, Nat.reduceLT, dl_i, dl_r, dl_n, dl_u, eq_self, not_true_eq_false, not_false_eq_true, n10, n01, nm0, n0m, t1, ea, c1, imp_t, imp_f]
  refine call0 (x_append' t1 (by omega) (fun J1 a1 a2 a3 a4 => ?_))
  simp only [ixr_of, run_s, run_0, rH_feed, rok_i, rok_z, bx_cons, bx_nil, eADD, eBP, eCV1, eCm1, eGI, eGR, jICle, eLA0, eLI1, eLI2, eLI3, eLI4, eLI5, eRI, eSP, fH_feed_0, fH_feed_16, fH_feed_18, bH_feed_0, bH_feed_16, bH_feed_18, ln_ximages, ln_xthought, rg_xmain_0, rg_xmain_1, rg_xmain_10, rg_xmain_2, rg_xmain_3, rg_xmain_4, rg_xmain_5, rg_xmain_6, rg_xmain_7, ty_xaqueduct, ty_xdiary, ty_xforesight, ty_ximages, ty_xmain, ty_xnow, ty_xopinionReader, ty_xtape, ty_xtasters, ty_xthought, Option.toList_some, Option.toList_none, List.cons_append, List.nil_append, List.length_cons, List.length_nil, List.mem_cons, List.not_mem_nil, or_false, false_or, or_true, true_or, ↓reduceIte, true_and, and_true, Nat.reduceEqDiff, Nat.reduceAdd, Nat.reduceLeDiff, Nat.reduceLT, dl_i, dl_r, dl_n, dl_u, eq_self, not_true_eq_false, not_false_eq_true, n10, n01, nm0, n0m, imp_t, imp_f]
  refine call0 (x_append' a3 (by omega) (fun J2 b1 b2 b3 b4 => ?_))
  simp only [ixr_of, run_s, run_0, rH_feed, rok_i, rok_z, bx_cons, bx_nil, eADD, eBP, eCV1, eCm1, eGI, eGR, jICle, eLA0, eLI1, eLI2, eLI3, eLI4, eLI5, eRI, eSP, fH_feed_0, fH_feed_16, fH_feed_18, bH_feed_0, bH_feed_16, bH_feed_18, ln_ximages, ln_xthought, rg_xmain_0, rg_xmain_1, rg_xmain_10, rg_xmain_2, rg_xmain_3, rg_xmain_4, rg_xmain_5, rg_xmain_6, rg_xmain_7, ty_xaqueduct, ty_xdiary, ty_xforesight, ty_ximages, ty_xmain, ty_xnow, ty_xopinionReader, ty_xtape, ty_xtasters, ty_xthought, Option.toList_some, Option.toList_none, List.cons_append, List.nil_append, List.length_cons, List.length_nil, List.mem_cons, List.not_mem_nil, or_false, false_or, or_true, true_or, ↓reduceIte, true_and, and_true, Nat.reduceEqDiff, Nat.reduceAdd, Nat.reduceLeDiff, Nat.reduceLT, dl_i, dl_r, dl_n, dl_u, eq_self, not_true_eq_false, not_false_eq_true, n10, n01, nm0, n0m, imp_t, imp_f]
  refine call0 (x_append' b3 (by omega) (fun J3 c1 c2 c3 c4 => ?_))
  simp only [ixr_of, run_s, run_0, rH_feed, rok_i, rok_z, bx_cons, bx_nil, eADD, eBP, eCV1, eCm1, eGI, eGR, jICle, eLA0, eLI1, eLI2, eLI3, eLI4, eLI5, eRI, eSP, fH_feed_0, fH_feed_16, fH_feed_18, bH_feed_0, bH_feed_16, bH_feed_18, ln_ximages, ln_xthought, rg_xmain_0, rg_xmain_1, rg_xmain_10, rg_xmain_2, rg_xmain_3, rg_xmain_4, rg_xmain_5, rg_xmain_6, rg_xmain_7, ty_xaqueduct, ty_xdiary, ty_xforesight, ty_ximages, ty_xmain, ty_xnow, ty_xopinionReader, ty_xtape, ty_xtasters, ty_xthought, Option.toList_some, Option.toList_none, List.cons_append, List.nil_append, List.length_cons, List.length_nil, List.mem_cons, List.not_mem_nil, or_false, false_or, or_true, true_or, ↓reduceIte, true_and, and_true, Nat.reduceEqDiff, Nat.reduceAdd, Nat.reduceLeDiff, Nat.reduceLT, dl_i, dl_r, dl_n, dl_u, eq_self, not_true_eq_false, not_false_eq_true, n10, n01, nm0, n0m, imp_t, imp_f]
  refine call0 (x_append' c3 (by omega) (fun J4 d1 d2 d3 d4 => ?_))
  simp only [ixr_of, run_s, run_0, rH_feed, rok_i, rok_z, bx_cons, bx_nil, eADD, eBP, eCV1, eCm1, eGI, eGR, jICle, eLA0, eLI1, eLI2, eLI3, eLI4, eLI5, eRI, eSP, fH_feed_0, fH_feed_16, fH_feed_18, bH_feed_0, bH_feed_16, bH_feed_18, ln_ximages, ln_xthought, rg_xmain_0, rg_xmain_1, rg_xmain_10, rg_xmain_2, rg_xmain_3, rg_xmain_4, rg_xmain_5, rg_xmain_6, rg_xmain_7, ty_xaqueduct, ty_xdiary, ty_xforesight, ty_ximages, ty_xmain, ty_xnow, ty_xopinionReader, ty_xtape, ty_xtasters, ty_xthought, Option.toList_some, Option.toList_none, List.cons_append, List.nil_append, List.length_cons, List.length_nil, List.mem_cons, List.not_mem_nil, or_false, false_or, or_true, true_or, ↓reduceIte, true_and, and_true, Nat.reduceEqDiff, Nat.reduceAdd, Nat.reduceLeDiff, Nat.reduceLT, dl_i, dl_r, dl_n, dl_u, eq_self, not_true_eq_false, not_false_eq_true, n10, n01, nm0, n0m, imp_t, imp_f]
  refine call0 (x_append' d3 (by omega) (fun K e1 e2 e3 e4 => ?_))
  have e3' : K 1 1 = nI (tp + 20) := e3
  simp only [ixr_of, run_s, run_0, rH_feed, rok_i, rok_z, bx_cons, bx_nil, eADD, eBP, eCV1, eCm1, eGI, eGR, jICle, eLA0, eLI1, eLI2, eLI3, eLI4, eLI5, eRI, eSP, fH_feed_0, fH_feed_16, fH_feed_18, bH_feed_0, bH_feed_16, bH_feed_18, ln_ximages, ln_xthought, rg_xmain_0, rg_xmain_1, rg_xmain_10, rg_xmain_2, rg_xmain_3, rg_xmain_4, rg_xmain_5, rg_xmain_6, rg_xmain_7, ty_xaqueduct, ty_xdiary, ty_xforesight, ty_ximages, ty_xmain, ty_xnow, ty_xopinionReader, ty_xtape, ty_xtasters, ty_xthought, Option.toList_some, Option.toList_none, List.cons_append, List.nil_append, List.length_cons, List.length_nil, List.mem_cons, List.not_mem_nil, or_false, false_or, or_true, true_or, ↓reduceIte, true_and, and_true, Nat.reduceEqDiff, Nat.reduceAdd, Nat.reduceLeDiff, Nat.reduceLT, dl_i, dl_r, dl_n, dl_u, eq_self, not_true_eq_false, not_false_eq_true, n10, n01, nm0, n0m, e3', imp_t, imp_f]
  have k2 : K 2 = fdX (J 2) tp x1 x2 x3 x4 x5 := by rw [e2, d2, c2, b2, a2]; rfl
  have kk : ∀ i, i ≠ 1 → i ≠ 2 → K i = J i := fun i a c => by rw [e1 i a c, d1 i a c, c1 i a c, b1 i a c, a1 i a c]
  have k1 : ∀ j, j ≠ 1 → K 1 j = J 1 j := fun j a => by rw [e4 j a, d4 j a, c4 j a, b4 j a, a4 j a]
  refine hk _ K E (fun Γ l d kr kx hk2 => c_feed (by rw [kk 500000 (by omega) (by omega)]; exact t2) t3 (fun c => absurd c (by omega)) (fun _ => ?_))
  obtain ⟨L, hL⟩ : ∃ L, L = up (sr (up K 500000 0 (nI 0)) 500001 (fdR (K 500001) tp x1 x2 x3 x4 x5 20)) 500000 1 (nI (tp + 20)) := ⟨_, rfl⟩
  rw [← hL]
  have lo : ∀ i, i ≠ 500000 → i ≠ 500001 → L i = K i := fun i a c => by
    rw [hL]
    funext j
    rw [up_n (by omega), sr_n c, up_n (by omega)]
  have lf : ∀ j, j ≠ 0 → j ≠ 1 → L 500000 j = J 500000 j := fun j a c => by
    rw [hL, up_n (by omega), sr_n (by omega), up_n (by omega), kk 500000 (by omega) (by omega)]
  have ll : ∀ i, i ≠ 1 → i ≠ 2 → i ≠ 500000 → i ≠ 500001 → L i = J i := fun i a1 a2 a3 a4 => by rw [lo i a3 a4, kk i a1 a2]
  have hid := r1.1.1.2.2.2.2.2.1
  refine hk2 L (GS.tp (tp' := tp + 20) r1 r2 r3 r4 r5 r7 r8 r9 EX.rf r9.2.1 (fun i a c => ll i (by unfold idT at hT; omega) (by unfold idT at hT; omega) (by unfold idT at hT; omega) (by unfold idT at hT; omega)) (fun v hv => ?_) (fun i a c => ?_) (fun i hi => ll i (by omega) (by omega) (by omega) (by omega)) (fun i hi => ?_) (fun j a c => lf j (by omega) (by omega)) ⟨?_, ?_, by omega, ?_, ?_, ?_⟩) ?_
  · have ho := hid v (by omega)
    unfold idO at ho
    exact ⟨ll _ (by omega) (by omega) (by omega) (by omega), ll _ (by omega) (by omega) (by omega) (by omega)⟩
  · have hb2 := r2.1.2.1
    unfold idB at hb2
    exact ll i (by omega) (by omega) (by omega) (by omega)
  · unfold mL tw at hi
    exact ll i (by omega) (by omega) (by omega) (by omega)
  · rw [lo 1 (by omega) (by omega)]
    exact e3'
  · rw [hL, up_s]
  · intro k hk'
    rw [lo 2 (by omega) (by omega), k2]
    unfold fdX
    exact apR_by (apR_by (apR_by (apR_by (apR_by t4)))) k hk'
  · intro k hk'
    rw [lo 2 (by omega) (by omega), k2, hL, up_n (by omega), sr_s, kk 500001 (by omega) (by omega)]
    exact fdX_v t5 hk'
  · rw [lo 1 (by omega) (by omega), k1 6 (by omega), lf 3 (by omega) (by omega)]
    exact t6
  · rw [hL, up_n (by omega), sr_n (by omega), up_s]
