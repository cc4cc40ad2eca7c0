/-! public methods, 5 -/
theorem XT.sq {rw' : Nat} {J K : Iv} (h : XT J K) (h58 : K 58 = J 58) : SQ rw' J K ∧ K 0 = J 0 ∧ K 500002 = J 500002 := by
  refine ⟨⟨fun i _ _ c _ _ => ?_, fun j _ => by rw [h 500000 (by omega) (by omega) (idV_n (by omega))], by rw [h 0 (by omega) (by omega) (idV_n (by omega))]⟩, h 0 (by omega) (by omega) (idV_n (by omega)), h 500002 (by omega) (by omega) (idV_n (by omega))⟩
  by_cases e : i = 58
  · rw [e]; exact h58
  · exact h i (fun z => c (Or.inl z)) (fun z => c (by unfold sX; omega)) (fun z => c (Or.inr (Or.inl z)))
theorem Ms.xt {J K : Iv} (h : XT J K) : Ms J K := fun i a c => h i (by omega) (by omega) (idV_n (by omega))
theorem pmB_ms {S : Tn} {J K : Iv} {x : Int32} (s9 : S.1.1 ≤ 9) (h : Ms J K) : Pe S.1.1 (pmB K x) (pmB J x) := ⟨fun u hu => ⟨rfl, rfl, fun k hk => by
  show sn0 K u k = sn0 J u k
  unfold sn0
  rw [h (500016 + u) (by omega) (by omega)]⟩, rfl⟩
theorem ln_ms {S : Tn} {J K : Iv} {E : Ev} {bk : List (Nat × Nat)} {kb k : Nat} {x : Int32} {pp : Nat × Nat} (hS : TnV S) (h : Ms J K) (r2 : R2 J E bk kb) (hp : bk[k]? = some pp) : lnR K S.1.1 S.1.2 x k ↔ LnP J S.1.1 S.1.2 x pp := by
  have hk : k < bk.length := (List.getElem?_eq_some_iff.mp hp).1
  have hv := r2.1.2.2.2
  have h12 := hv.1
  have h99 := (hv.2 pp (List.mem_of_getElem? hp)).2.1
  obtain ⟨e1, e2⟩ := r2.2.2.2 k pp hp
  unfold lnR LnP vwB
  rw [h (500094 + k) (by omega) (by omega), e1, e2, nI_clamp (by omega), h 500127 (by omega) (by omega), h.g hS (pmB_ms hS.1 h)]
theorem bk_ms {J K : Iv} {E : Ev} {bk : List (Nat × Nat)} {kb : Nat} (h : Ms J K) (r2 : R2 J E bk kb) : K 500000 36 = nI bk.length ∧ bk.length ≤ 12 ∧ ∀ k, k < bk.length → ∃ e, 1 ≤ e ∧ e ≤ 99 ∧ K (500094 + k) 0 = nI e := by
  have hv := r2.1.2.2.2
  have h12 := hv.1
  refine ⟨by rw [h 500000 (by omega) (by omega)]; exact r2.2.2.1, h12, fun k hk => ?_⟩
  have hp : bk[k]? = some bk[k] := List.getElem?_eq_getElem hk
  have h99 := hv.2 bk[k] (List.getElem_mem hk)
  exact ⟨bk[k].1, h99.1, h99.2.1, by rw [h (500094 + k) (by omega) (by omega)]; exact (r2.2.2.2 k _ hp).1⟩

theorem g_right {q z : Nat} {J : Iv} {E : Ev} (h : GS q z J E) : StX0 mH_right mM_right [] q z J E := by
  have hG0 := h
  obtain ⟨S, PS, t, op, bk, kb, n, n0, p, c, mk, tp, im, nim, rw', r1, r2, r3, r4, r5, r6, r7, r8, r9⟩ := h
  have hS := r1.1.1.2.2.2.1
  have s9 := hS.1
  have hVS := r1.1.2.2.1
  have hq32 := r4.1.1
  obtain ⟨g3, hT, hXt, -⟩ := id r1.1.1
  have tT : tyc shN E t = 10 := (hT.A (b := true) (E := E)).1
  have v7 := hXt.1
  have h40 := hVS.1
  have hD := r3.1.2.1
  have ty71 : tyc shN E 71 = 3 := dyA_71.1
  obtain ⟨-, ⟨y0, y1, y2, y3, y4, y5, y6⟩, ⟨b1, b2, b3, b4, b5, b6, b7⟩, l1, l2, l3, l4, l5, l6, l7⟩ := (dyA_71 (b := true) (E := E))
  have e11 : J 71 11 = J 500000 38 := r3.1.2.2.2.1
  refine ⟨(0, 0), q, z, Cst.no, hq32, fun Γ l d kr kx hG hk => ?_⟩
  refine ex_of (ls0 := [some (.ref 0)]) tH_right (by decide +kernel) kH_right rfl (Nat.le_of_ble_eq_true rfl) rfl ?_
  intro go hgo
  refine hgo 20 [] 0 _ _ _ _ _ ?_
  simp only [ixr_of, run_s, run_0, rH_right, rok_i, rok_z, bx_cons, bx_nil, eCV1, eGI, eGR, eLA0, eRI, fH_right_0, bH_right_0, ln_ximages, ln_xthought, rg_xmain_0, rg_xmain_1, rg_xmain_10, rg_xmain_2, rg_xmain_3, rg_xmain_4, rg_xmain_5, rg_xmain_6, rg_xmain_7, ty_xaqueduct, ty_xdiary, ty_xforesight, ty_ximages, ty_xmain, ty_xnow, ty_xopinionReader, ty_xtape, ty_xtasters, ty_xthought, Option.toList_some, Option.toList_none, List.cons_append, List.nil_append, List.length_cons, List.length_nil, List.mem_cons, List.not_mem_nil, or_false, false_or, or_true, true_or, ↓reduceIte, true_and, and_true, Nat.reduceEqDiff, Nat.reduceAdd, Nat.reduceLeDiff, Nat.reduceLT, dl_i, dl_r, dl_n, dl_u, eq_self, not_true_eq_false, not_false_eq_true, n10, n01, nm0, n0m, ty71, e11, imp_t, imp_f]
  refine call0 (x_linesRight hG.1 r1.1 r2.1 SayT.rf r1.2.2.2.2.2 (fun m hm a1 a2 K hX => ?_))
  simp only [ixr_of, run_s, run_0, rH_right, rok_i, rok_z, bx_cons, bx_nil, eCV1, eGI, eGR, eLA0, eRI, fH_right_0, bH_right_0, ln_ximages, ln_xthought, rg_xmain_0, rg_xmain_1, rg_xmain_10, rg_xmain_2, rg_xmain_3, rg_xmain_4, rg_xmain_5, rg_xmain_6, rg_xmain_7, ty_xaqueduct, ty_xdiary, ty_xforesight, ty_ximages, ty_xmain, ty_xnow, ty_xopinionReader, ty_xtape, ty_xtasters, ty_xthought, Option.toList_some, Option.toList_none, List.cons_append, List.nil_append, List.length_cons, List.length_nil, List.mem_cons, List.not_mem_nil, or_false, false_or, or_true, true_or, ↓reduceIte, true_and, and_true, Nat.reduceEqDiff, Nat.reduceAdd, Nat.reduceLeDiff, Nat.reduceLT, dl_i, dl_r, dl_n, dl_u, eq_self, not_true_eq_false, not_false_eq_true, n10, n01, nm0, n0m, imp_t, imp_f]
  have hms := Ms.xf (Or.inr rfl) hX
  obtain ⟨b1', b2', b3'⟩ := bk_ms hms r2
  refine hk _ K E (fun Γ l d kr kx hk2 => c_right (hVS.t hms.t) b1' b2' b3' (fun m' hm' c1 c2 L hL hz => ?_))
  rw [hms 500000 (by omega) (by omega)] at c1 c2
  have em : m' = m := by
    by_cases z1 : m' < m
    · have hp : bk[m']? = some bk[m'] := List.getElem?_eq_getElem (by omega)
      exact absurd ((ln_ms hS hms r2 hp).mpr (a1 m' _ z1 hp)) (c2 (by omega))
    · by_cases z2 : m < m'
      · have hp : bk[m]? = some bk[m] := List.getElem?_eq_getElem (by omega)
        exact absurd ((ln_ms hS hms r2 hp).mp (c1 m z2)) (a2 _ hp)
      · omega
  rw [em]
  exact hk2 L (hG0.fm (Or.inr rfl) hX hL) hz

theorem GS.xt {q z : Nat} {J K L : Iv} {E : Ev} (h : GS q z J E) (hX : XT J K) (h58 : K 58 = J 58) (hM : MP K L) : GS q z L E := by
  have h' := h
  obtain ⟨S, PS, t, op, bk, kb, n, n0, p, c, mk, tp, im, nim, rw', r1, r2, r3, r4, r5, r6, r7, r8, r9⟩ := h'
  obtain ⟨a1, a2, a3⟩ := hX.sq (rw' := rw') h58
  exact h.sq r9.1 (a1.tr hM.q) (by rw [hM.1 0 (by decide) (scA_n (by omega)), a2]) (by rw [hM.1 500002 (by decide) (by unfold scA; omega), a3])

theorem g_where {q z : Nat} {J : Iv} {E : Ev} {x : Int32} (h : GS q z J E) : StX1 mH_where mM_where [.int x] 1 q z J E := by
  have hG0 := h
  obtain ⟨S, PS, t, op, bk, kb, n, n0, p, c, mk, tp, im, nim, rw', r1, r2, r3, r4, r5, r6, r7, r8, r9⟩ := h
  have hS := r1.1.1.2.2.2.1
  have s9 := hS.1
  have hVS := r1.1.2.2.1
  have hq32 := r4.1.1
  obtain ⟨g3, hT, hXt, -⟩ := id r1.1.1
  have tT : tyc shN E t = 10 := (hT.A (b := true) (E := E)).1
  have v7 := hXt.1
  have h40 := hVS.1
  by_cases hin : nI 1 ≤ x ∧ x ≤ nI 60
  rotate_left
  · refine ⟨(1, 6), q, z, Cst.x, hq32, fun Γ l d kr kx hG _ hxI => ?_⟩
    refine ex_of (ls0 := [some (.ref 0), some (.int x)]) tH_where (by decide +kernel) kH_where rfl (Nat.le_of_ble_eq_true rfl) rfl ?_
    intro go hgo
    refine hgo 20 [] 0 _ _ _ _ _ ?_
    simp only [ixr_of, run_s, run_0, rH_where, rok_i, rok_z, bx_cons, bx_nil, eBP, eC1, eCV1, eCV3, eGR, eLA0, eLI1, eRI, fH_where_0, bH_where_0, ln_ximages, ln_xthought, rg_xmain_0, rg_xmain_1, rg_xmain_10, rg_xmain_2, rg_xmain_3, rg_xmain_4, rg_xmain_5, rg_xmain_6, rg_xmain_7, ty_xaqueduct, ty_xdiary, ty_xforesight, ty_ximages, ty_xmain, ty_xnow, ty_xopinionReader, ty_xtape, ty_xtasters, ty_xthought, Option.toList_some, Option.toList_none, List.cons_append, List.nil_append, List.length_cons, List.length_nil, List.mem_cons, List.not_mem_nil, or_false, false_or, or_true, true_or, ↓reduceIte, true_and, and_true, Nat.reduceEqDiff, Nat.reduceAdd, Nat.reduceLeDiff, Nat.reduceLT, dl_i, dl_r, dl_n, dl_u, eq_self, not_true_eq_false, not_false_eq_true, n10, n01, nm0, n0m, imp_t, imp_f]
    refine ⟨1, 6, fun _ => Nat.le_refl _, fun _ => Nat.le_refl _, x_needInX hG.1.1 hG.2.1 hG.2.2 hin (hxI _ _ (fun Γ l d kr kx hk => ?_))⟩
    exact c_where (ap := fun k s => @decide (∀ a b, a < b → b < S.1.1 → tsF (gR (up J 0 14 (J 0 14 + nI 1)) S.1.1 S.1.2 (pmA (up J 0 14 (J 0 14 + nI 1)) a) (up J 0 14 (J 0 14 + nI 1) 500127) k) S.1.1 = tsF (gR (up J 0 14 (J 0 14 + nI 1)) S.1.1 S.1.2 (pmA (up J 0 14 (J 0 14 + nI 1)) b) (up J 0 14 (J 0 14 + nI 1) 500127) k) S.1.1 ∨ ¬ tsF (gR (up J 0 14 (J 0 14 + nI 1)) S.1.1 S.1.2 (pmA (up J 0 14 (J 0 14 + nI 1)) a) (up J 0 14 (J 0 14 + nI 1) 500127) k) S.1.1 &&& nI s = tsF (gR (up J 0 14 (J 0 14 + nI 1)) S.1.1 S.1.2 (pmA (up J 0 14 (J 0 14 + nI 1)) b) (up J 0 14 (J 0 14 + nI 1) 500127) k) S.1.1 &&& nI s) (Classical.propDecidable _)) (hVS.t say0) (fun k s => @decide_eq_true_iff _ (Classical.propDecidable _)) (fun _ => hk _ (hG0.rf (rn := 1) (w := 1) (by decide)).1.un (hG0.rf (rn := 1) (w := 1) (by decide)).2) (fun k a b e => absurd (by rw [e]; exact rgI (by omega) (by omega) (by decide)) hin)
  obtain ⟨k0, hk1, hk9, rfl⟩ := rng1 (by decide) hin
  have h512 := p2_512 s9
  have hpos : 0 < 2 ^ S.1.1 := Nat.two_pow_pos _
  obtain ⟨ts, hts⟩ : ∃ ts : Nat → Nat → Nat, ∀ k v, ts k v = tsN (gR J S.1.1 S.1.2 (pmA J v) (J 500127) k) S.1.1 := ⟨_, fun _ _ => rfl⟩
  have tl : ∀ k v, ts k v < 2 ^ S.1.1 := fun k v => by rw [hts k v]; exact tsN_lt _
  refine ⟨(0, 0), q, z, Cst.no, hq32, fun Γ l d kr kx hG hk _ => ?_⟩
  refine ex_of (ls0 := [some (.ref 0), some (.int (nI k0))]) tH_where (by decide +kernel) kH_where rfl (Nat.le_of_ble_eq_true rfl) rfl ?_
  intro go hgo
  refine hgo 20 [] 0 _ _ _ _ _ ?_
  simp only [ixr_of, run_s, run_0, rH_where, rok_i, rok_z, bx_cons, bx_nil, eBP, eC1, eCV1, eCV3, eGR, eLA0, eLI1, eRI, fH_where_0, bH_where_0, ln_ximages, ln_xthought, rg_xmain_0, rg_xmain_1, rg_xmain_10, rg_xmain_2, rg_xmain_3, rg_xmain_4, rg_xmain_5, rg_xmain_6, rg_xmain_7, ty_xaqueduct, ty_xdiary, ty_xforesight, ty_ximages, ty_xmain, ty_xnow, ty_xopinionReader, ty_xtape, ty_xtasters, ty_xthought, Option.toList_some, Option.toList_none, List.cons_append, List.nil_append, List.length_cons, List.length_nil, List.mem_cons, List.not_mem_nil, or_false, false_or, or_true, true_or, ↓reduceIte, true_and, and_true, Nat.reduceEqDiff, Nat.reduceAdd, Nat.reduceLeDiff, Nat.reduceLT, dl_i, dl_r, dl_n, dl_u, eq_self, not_true_eq_false, not_false_eq_true, n10, n01, nm0, n0m, imp_t, imp_f]
  refine call0 (x_needIn hin ?_)
  simp only [ixr_of, run_s, run_0, rH_where, rok_i, rok_z, bx_cons, bx_nil, eBP, eC1, eCV1, eCV3, eGR, eLA0, eLI1, eRI, fH_where_0, bH_where_0, ln_ximages, ln_xthought, rg_xmain_0, rg_xmain_1, rg_xmain_10, rg_xmain_2, rg_xmain_3, rg_xmain_4, rg_xmain_5, rg_xmain_6, rg_xmain_7, ty_xaqueduct, ty_xdiary, ty_xforesight, ty_ximages, ty_xmain, ty_xnow, ty_xopinionReader, ty_xtape, ty_xtasters, ty_xthought, Option.toList_some, Option.toList_none, List.cons_append, List.nil_append, List.length_cons, List.length_nil, List.mem_cons, List.not_mem_nil, or_false, false_or, or_true, true_or, ↓reduceIte, true_and, and_true, Nat.reduceEqDiff, Nat.reduceAdd, Nat.reduceLeDiff, Nat.reduceLT, dl_i, dl_r, dl_n, dl_u, eq_self, not_true_eq_false, not_false_eq_true, n10, n01, nm0, n0m, imp_t, imp_f]
  refine call0 (x_fewestTastes hG.1 r1.1 SayT.rf r1.2.2.2.2.2 hk9 (hts k0) (fun s K hB hX h58 => ?_))
  simp only [ixr_of, run_s, run_0, rH_where, rok_i, rok_z, bx_cons, bx_nil, eBP, eC1, eCV1, eCV3, eGR, eLA0, eLI1, eRI, fH_where_0, bH_where_0, ln_ximages, ln_xthought, rg_xmain_0, rg_xmain_1, rg_xmain_10, rg_xmain_2, rg_xmain_3, rg_xmain_4, rg_xmain_5, rg_xmain_6, rg_xmain_7, ty_xaqueduct, ty_xdiary, ty_xforesight, ty_ximages, ty_xmain, ty_xnow, ty_xopinionReader, ty_xtape, ty_xtasters, ty_xthought, Option.toList_some, Option.toList_none, List.cons_append, List.nil_append, List.length_cons, List.length_nil, List.mem_cons, List.not_mem_nil, or_false, false_or, or_true, true_or, ↓reduceIte, true_and, and_true, Nat.reduceEqDiff, Nat.reduceAdd, Nat.reduceLeDiff, Nat.reduceLT, dl_i, dl_r, dl_n, dl_u, eq_self, not_true_eq_false, not_false_eq_true, n10, n01, nm0, n0m, imp_t, imp_f]
  have hm := Ms.xt hX
  have etf : ∀ k v, tsF (gR K S.1.1 S.1.2 (pmA K v) (K 500127) k) S.1.1 = nI (ts k v) := fun k v => by rw [hm 500127 (by omega) (by omega), hm.g hS (pmA_ms s9 hm), tsF_N S.1.1 s9, hts]
  refine hk _ K E (fun Γ l d kr kx hk2 => c_where (ap := fun k s => @decide (s < 2 ^ S.1.1 → ApN (ts k) S.1.1 s) (Classical.propDecidable _) && @decide (¬ s < 2 ^ S.1.1 → ∀ a b, a < b → b < S.1.1 → nI (ts k a) = nI (ts k b) ∨ ¬ nI (ts k a) &&& nI s = nI (ts k b) &&& nI s) (Classical.propDecidable _)) (hVS.t hm.t) (fun k s => ?_) (fun c => absurd hin c) (fun m m1 m2 e L hL hz => ?_))
  · rw [Bool.and_eq_true, @decide_eq_true_iff _ (Classical.propDecidable _), @decide_eq_true_iff _ (Classical.propDecidable _)]
    simp only [etf]
    by_cases hs : s < 2 ^ S.1.1
    · have ee : (∀ a b, a < b → b < S.1.1 → nI (ts k a) = nI (ts k b) ∨ ¬ nI (ts k a) &&& nI s = nI (ts k b) &&& nI s) ↔ ApN (ts k) S.1.1 s := by
        unfold ApN
        refine forall_congr' fun a => forall_congr' fun b => forall_congr' fun _ => forall_congr' fun _ => ?_
        have h1 := tl k a
        have h2 := tl k b
        have h3 := Nat.and_le_left (n := ts k a) (m := s)
        have h4 := Nat.and_le_left (n := ts k b) (m := s)
        rw [nI_eq (by omega) (by omega), nx_and, nx_and, nI_eq (by omega) (by omega)]
      rw [ee]
      exact ⟨fun c => c.1 hs, fun c => ⟨fun _ => c, fun n => absurd hs n⟩⟩
    · exact ⟨fun c => c.2 hs, fun c => ⟨fun n => absurd n hs, fun _ => c⟩⟩
  · rw [nI_eq (by omega) (by omega)] at e
    subst e
    have hap : ∀ s, s < 2 ^ S.1.1 → ((@decide (s < 2 ^ S.1.1 → ApN (ts k0) S.1.1 s) (Classical.propDecidable _) && @decide (¬ s < 2 ^ S.1.1 → ∀ a b, a < b → b < S.1.1 → nI (ts k0 a) = nI (ts k0 b) ∨ ¬ nI (ts k0 a) &&& nI s = nI (ts k0 b) &&& nI s) (Classical.propDecidable _)) = true ↔ ApN (ts k0) S.1.1 s) := fun s hs => by
      rw [Bool.and_eq_true, @decide_eq_true_iff _ (Classical.propDecidable _), @decide_eq_true_iff _ (Classical.propDecidable _)]
      exact ⟨fun c => c.1 hs, fun c => ⟨fun _ => c, fun n => absurd hs n⟩⟩
    obtain ⟨s1, e1, e2, e3, e4⟩ := wrF_b (ap := fun s => @decide (s < 2 ^ S.1.1 → ApN (ts k0) S.1.1 s) (Classical.propDecidable _) && @decide (¬ s < 2 ^ S.1.1 → ∀ a b, a < b → b < S.1.1 → nI (ts k0 a) = nI (ts k0 b) ∨ ¬ nI (ts k0 a) &&& nI s = nI (ts k0 b) &&& nI s) (Classical.propDecidable _)) h512 hpos ((hap _ (by omega)).mpr (ap_all (fun v _ => tl k0 v))) (2 ^ S.1.1) (Nat.le_refl _)
    have hb1 : Bst (ApN (ts k0) S.1.1) (2 ^ S.1.1) s1 := ⟨e2, (hap s1 e2).mp e3, fun s' hs' hq' => e4 s' hs' ((hap s' hs').mpr hq')⟩
    rw [e1, hb1.un hB]
    exact hk2 L (hG0.xt hX h58 hL) hz

theorem g_minds {q z : Nat} {J : Iv} {E : Ev} {x : Int32} (h : GS q z J E) : StX1 mH_minds mM_minds [.int x] 1 q z J E := by
  have hG0 := h
  obtain ⟨S, PS, t, op, bk, kb, n, n0, p, c, mk, tp, im, nim, rw', r1, r2, r3, r4, r5, r6, r7, r8, r9⟩ := h
  have hS := r1.1.1.2.2.2.1
  have s9 := hS.1
  have hVS := r1.1.2.2.1
  have hq32 := r4.1.1
  obtain ⟨g3, hT, hXt, -⟩ := id r1.1.1
  have tT : tyc shN E t = 10 := (hT.A (b := true) (E := E)).1
  have v7 := hXt.1
  have h40 := hVS.1
  obtain ⟨hb1, hb2, hb3⟩ := bk_ms (K := up J 0 14 (J 0 14 + nI 1)) (fun i a c => by funext j; exact up_n (by omega)) r2
  by_cases hin : nI 0 ≤ x ∧ x ≤ nI 3
  rotate_left
  · refine ⟨(1, 6), q, z, Cst.x, hq32, fun Γ l d kr kx hG _ hxI => ?_⟩
    refine ex_of (ls0 := [some (.ref 0), some (.int x)]) tH_minds (by decide +kernel) kH_minds rfl (Nat.le_of_ble_eq_true rfl) rfl ?_
    intro go hgo
    refine hgo 20 [] 0 _ _ _ _ _ ?_
    simp only [ixr_of, run_s, run_0, rH_minds, rok_i, rok_z, bx_cons, bx_nil, eC0, eC3, eCV0, eCV3, eGI, eGR, eLA0, eLI1, eRI, eSW, jswA_c, swA_n, fH_minds_0, fH_minds_40, fH_minds_48, fH_minds_56, fH_minds_64, bH_minds_0, bH_minds_40, bH_minds_48, bH_minds_56, bH_minds_64, ln_ximages, ln_xthought, rg_xmain_0, rg_xmain_1, rg_xmain_10, rg_xmain_2, rg_xmain_3, rg_xmain_4, rg_xmain_5, rg_xmain_6, rg_xmain_7, ty_xaqueduct, ty_xdiary, ty_xforesight, ty_ximages, ty_xmain, ty_xnow, ty_xopinionReader, ty_xtape, ty_xtasters, ty_xthought, Option.toList_some, Option.toList_none, List.cons_append, List.nil_append, List.length_cons, List.length_nil, List.mem_cons, List.not_mem_nil, or_false, false_or, or_true, true_or, ↓reduceIte, true_and, and_true, Nat.reduceEqDiff, Nat.reduceAdd, Nat.reduceLeDiff, Nat.reduceLT, dl_i, dl_r, dl_n, dl_u, eq_self, not_true_eq_false, not_false_eq_true, n10, n01, nm0, n0m, imp_t, imp_f]
    refine ⟨1, 6, fun _ => Nat.le_refl _, fun _ => Nat.le_refl _, x_needInX hG.1.1 hG.2.1 hG.2.2 hin (hxI _ _ (fun Γ l d kr kx hk => ?_))⟩
    exact c_minds (rt := fun s => @decide (∀ k, k < bk.length → lnR (up J 0 14 (J 0 14 + nI 1)) S.1.1 S.1.2 (nI s) k) (Classical.propDecidable _)) (hVS.t say0) hb1 hb2 hb3 (fun s => @decide_eq_true_iff _ (Classical.propDecidable _)) (fun _ => hk _ (hG0.rf (rn := 1) (w := 1) (by decide)).1.un (hG0.rf (rn := 1) (w := 1) (by decide)).2) (fun L _ _ k a e => absurd (by rw [e]; exact rgI (by omega) (by omega) (by decide)) hin)
  obtain ⟨k0, hk3, rfl⟩ := rng (by decide) hin
  refine ⟨(0, 0), q, z, Cst.no, hq32, fun Γ l d kr kx hG hk _ => ?_⟩
  refine ex_of (ls0 := [some (.ref 0), some (.int (nI k0))]) tH_minds (by decide +kernel) kH_minds rfl (Nat.le_of_ble_eq_true rfl) rfl ?_
  intro go hgo
  refine hgo 20 [] 0 _ _ _ _ _ ?_
  simp only [ixr_of, run_s, run_0, rH_minds, rok_i, rok_z, bx_cons, bx_nil, eC0, eC3, eCV0, eCV3, eGI, eGR, eLA0, eLI1, eRI, eSW, jswA_c, swA_n, fH_minds_0, fH_minds_40, fH_minds_48, fH_minds_56, fH_minds_64, bH_minds_0, bH_minds_40, bH_minds_48, bH_minds_56, bH_minds_64, ln_ximages, ln_xthought, rg_xmain_0, rg_xmain_1, rg_xmain_10, rg_xmain_2, rg_xmain_3, rg_xmain_4, rg_xmain_5, rg_xmain_6, rg_xmain_7, ty_xaqueduct, ty_xdiary, ty_xforesight, ty_ximages, ty_xmain, ty_xnow, ty_xopinionReader, ty_xtape, ty_xtasters, ty_xthought, Option.toList_some, Option.toList_none, List.cons_append, List.nil_append, List.length_cons, List.length_nil, List.mem_cons, List.not_mem_nil, or_false, false_or, or_true, true_or, ↓reduceIte, true_and, and_true, Nat.reduceEqDiff, Nat.reduceAdd, Nat.reduceLeDiff, Nat.reduceLT, dl_i, dl_r, dl_n, dl_u, eq_self, not_true_eq_false, not_false_eq_true, n10, n01, nm0, n0m, imp_t, imp_f]
  refine call0 (x_needIn hin ?_)
  simp only [ixr_of, run_s, run_0, rH_minds, rok_i, rok_z, bx_cons, bx_nil, eC0, eC3, eCV0, eCV3, eGI, eGR, eLA0, eLI1, eRI, eSW, jswA_c, swA_n, fH_minds_0, fH_minds_40, fH_minds_48, fH_minds_56, fH_minds_64, bH_minds_0, bH_minds_40, bH_minds_48, bH_minds_56, bH_minds_64, ln_ximages, ln_xthought, rg_xmain_0, rg_xmain_1, rg_xmain_10, rg_xmain_2, rg_xmain_3, rg_xmain_4, rg_xmain_5, rg_xmain_6, rg_xmain_7, ty_xaqueduct, ty_xdiary, ty_xforesight, ty_ximages, ty_xmain, ty_xnow, ty_xopinionReader, ty_xtape, ty_xtasters, ty_xthought, Option.toList_some, Option.toList_none, List.cons_append, List.nil_append, List.length_cons, List.length_nil, List.mem_cons, List.not_mem_nil, or_false, false_or, or_true, true_or, ↓reduceIte, true_and, and_true, Nat.reduceEqDiff, Nat.reduceAdd, Nat.reduceLeDiff, Nat.reduceLT, dl_i, dl_r, dl_n, dl_u, eq_self, not_true_eq_false, not_false_eq_true, n10, n01, nm0, n0m, imp_t, imp_f]
  refine call0 (x_study hG.1 r1.1 r2.1 SayT.rf r1.2.2.2.2.2 r8 (fun K hX k4 hF => ?_))
  have hm := Ms.xt hX
  obtain ⟨f5, f6, f7, f8⟩ := id hF
  obtain ⟨hc1, hc2, hc3⟩ := bk_ms hm r2
  have hrt : ∀ s, rtB J S.1.1 S.1.2 bk s = true ↔ ∀ k, k < bk.length → lnR K S.1.1 S.1.2 (nI s) k := fun s => by
    rw [rtB_i]
    constructor
    · intro c k hk
      exact (ln_ms hS hm r2 (List.getElem?_eq_getElem hk)).mpr (c _ (List.getElem_mem hk))
    · intro c p hp
      obtain ⟨k, hk, e⟩ := List.getElem_of_mem hp
      rw [← e]
      exact (ln_ms hS hm r2 (List.getElem?_eq_getElem hk)).mp (c k hk)
  have hGK : ∀ L, MP K L → GS q z L E := by
    intro L hL
    have e58 : L 58 = K 58 := hL.1 58 (by decide) (scA_n (by omega))
    have hsq : SQ rw' J (fun i => if i = 58 then J 58 else L i) := by
      refine ⟨fun i a b c d e => ?_, fun j hj => ?_, ?_⟩
      · dsimp only
        by_cases z1 : i = 58
        · rw [if_pos z1, z1]
        · rw [if_neg z1, hL.1 i a b]
          exact hX i (fun z => c (Or.inl z)) (fun z => c (by unfold sX; omega)) (fun z => c (Or.inr (Or.inl z)))
      · dsimp only
        rw [if_neg (by decide), hL.2 j hj, hm 500000 (by omega) (by omega)]
      · dsimp only
        rw [if_neg (by decide), hL.1 0 (by decide) (scA_n (by omega)), hX 0 (by omega) (by omega) (idV_n (by omega))]
    have eo : ∀ i, i ≠ 58 → (fun i => if i = 58 then J 58 else L i) i = L i := fun i hi => if_neg hi
    have g1 := r1.mv hsq
    have hbe : BkE true E L kb bk := by
      obtain ⟨c1, c2, ⟨c3, c4, c5⟩, c6⟩ := (r2.mv hsq).1
      unfold idB at c2
      rw [eo kb (by omega)] at c3 c4
      rw [eo (kb + 1) (by omega), eo (kb + 2) (by omega)] at c5
      exact ⟨c1, c2, ⟨c3, c4, c5⟩, c6⟩
    obtain ⟨K', hK'⟩ : ∃ K', K' = fun i => if i = 58 then J 58 else L i := ⟨_, rfl⟩
    rw [← hK'] at hsq g1 eo
    have sLK : ∀ i, i ≠ 58 → L i = K' i := fun i hi => (eo i hi).symm
    have hq2 : SQ rw' K' L ∨ True := Or.inr trivial
    have mv1 : R1 L E S PS t op := by
      obtain ⟨d1, d2, d3, d4, d5, d6⟩ := g1
      refine ⟨d1.mv (fun i hi => sLK i ?_) (fun i hi => sLK i (by unfold tw at hi; omega)), d2, d3, fun v hv => by rw [sLK _ (by omega)]; exact d4 v hv, by rw [sLK _ (by omega)]; exact d5, fun k hk => by rw [sLK _ (by omega)]; exact d6 k hk⟩
      rcases hi with hi | hi | ⟨o, ho, hi⟩
      · omega
      · omega
      · unfold idO at ho; omega
    have mv2 : R2 L E bk kb := ⟨hbe, r2.2.1, by rw [sLK _ (by omega)]; exact (r2.mv hsq).2.2.1, fun k x hx => by
      have := (List.getElem?_eq_some_iff.mp hx).1
      rw [sLK (500094 + k) (by omega)]
      exact (r2.mv hsq).2.2.2 k x hx⟩
    have hSL : SayT K' L := fun i hi => sLK i (by unfold tw at hi; omega)
    have hms2 : Ms K' L := fun i a c => sLK i (by omega)
    have mv3 : R3 L S n p c := by
      obtain ⟨⟨d0, d1⟩, d2, d3, d4, d5, d6⟩ := r3.mv s9 hsq
      refine ⟨⟨SayT.rf, ?_⟩, d2, by rw [sLK _ (by omega)]; exact d3, d4, by rw [sLK _ (by omega)]; exact d5, d6⟩
      rw [sLK 500124 (by omega), sLK 500000 (by omega), sLK 500123 (by omega)]
      exact d1.mv s9 (fun i a c => sLK i (by omega))
    have mv4 : R4 L E S n n0 q mk := by
      obtain ⟨d1, d2, d3, d4, d5, d6, d7, d8⟩ := r4.mv hS r9.1 hsq
      refine ⟨d1, d2, by rw [sLK 79 (by omega)]; exact d3, d4, d5, by rw [sLK _ (by omega)]; exact d6, ?_, fun p' hp => ?_⟩
      · rw [sLK 500124 (by omega), sLK 500125 (by omega), hms2.g hS (pmX_N s9 hms2)]; exact d7
      · rw [sLK 500125 (by omega), sLK 500000 (by omega), sLK 500123 (by omega), hms2.g hS (pmX_N s9 hms2)]
        exact (d8 p' hp).mv s9 (fun i a c => sLK i (by have := (d1.2.1 p' (by omega)).2.2; omega))
    have mv5 : R5 L S im nim := by
      obtain ⟨d1, d2, d3, d4⟩ := r5.mv s9 hsq
      refine ⟨by rw [sLK 0 (by omega)]; exact d1, d2, by rw [sLK 500000 (by omega)]; exact d3, fun m hm' => ?_⟩
      rw [sLK (500120 + m) (by omega)]
      obtain ⟨a1, a2, a3⟩ := d4 m hm'
      exact ⟨a1, a2.mv s9 (fun i a c => sLK i (by omega)), a3⟩
    have mv6 : R6 L tp := by
      obtain ⟨d1, d2, d3, d4, d5, d6⟩ := r6.mv hsq
      refine ⟨by rw [sLK 1 (by omega)]; exact d1, by rw [sLK 500000 (by omega)]; exact d2, d3, fun k hk => by rw [sLK 2 (by omega)]; exact d4 k hk, fun k hk => by rw [sLK 2 (by omega), sLK 500001 (by omega)]; exact d5 k hk, by rw [sLK 1 (by omega), sLK 500000 (by omega)]; exact d6⟩
    have mv7 : R7 L := r7.mv (by rw [hL.1 0 (by decide) (scA_n (by omega))]; exact hX 0 (by omega) (by omega) (idV_n (by omega))) (by rw [hL.1 500002 (by decide) (by unfold scA; omega)]; exact hX 500002 (by omega) (by omega) (idV_n (by omega)))
    have hJL : SayT J L := hm.t.tr (fun i hi => hL.1 i (by unfold tw at hi; omega) (by unfold tw at hi; unfold scA; omega))
    have mv8 : R8 L S bk := Or.inr ⟨by rw [e58]; exact k4, hF.mv hS hJL (by rw [hL.1 500127 (by decide) (by unfold scA; omega), hm 500127 (by omega) (by omega)]) (fun k _ _ => by rw [e58])⟩
    exact ⟨S, PS, t, op, bk, kb, n, n0, p, c, mk, tp, im, nim, rw', mv1, mv2, mv3, mv4, mv5, mv6, mv7, mv8, r9⟩
  have key : ∀ a, a = (if k0 = 0 then nI (mdF (rtB J S.1.1 S.1.2 bk) (nI (2 ^ S.1.1 - 1)) (2 ^ S.1.1)).1 else if k0 = 1 then (mdF (rtB J S.1.1 S.1.2 bk) (nI (2 ^ S.1.1 - 1)) (2 ^ S.1.1)).2.1 else if (mdF (rtB J S.1.1 S.1.2 bk) (nI (2 ^ S.1.1 - 1)) (2 ^ S.1.1)).1 = 0 then nI 0 else if k0 = 2 then (mdF (rtB J S.1.1 S.1.2 bk) (nI (2 ^ S.1.1 - 1)) (2 ^ S.1.1)).2.2.1 else nI (2 ^ S.1.1 - 1) &&& ((mdF (rtB J S.1.1 S.1.2 bk) (nI (2 ^ S.1.1 - 1)) (2 ^ S.1.1)).2.2.2 ^^^ -1)) → MAns mM_minds [.ref 500000, .int (nI k0)] a 0 q z K E := by
    intro a ha Γ l d kr kx hk2
    refine c_minds (hVS.t hm.t) hc1 hc2 hc3 hrt (fun c => absurd hin c) (fun L hL hz k' hk' e => ?_)
    rw [nI_eq (by omega) (by omega)] at e
    subst e
    rw [← ha]
    exact hk2 L (hGK L hL) hz
  have ev : ∀ i, i < 8 → (nI k0 = nI i ↔ k0 = i) := fun i hi => nI_eq (by omega) (by omega)
  simp only [ixr_of, run_s, run_0, rH_minds, rok_i, rok_z, bx_cons, bx_nil, eC0, eC3, eCV0, eCV3, eGI, eGR, eLA0, eLI1, eRI, eSW, jswA_c, swA_n, fH_minds_0, fH_minds_40, fH_minds_48, fH_minds_56, fH_minds_64, bH_minds_0, bH_minds_40, bH_minds_48, bH_minds_56, bH_minds_64, ln_ximages, ln_xthought, rg_xmain_0, rg_xmain_1, rg_xmain_10, rg_xmain_2, rg_xmain_3, rg_xmain_4, rg_xmain_5, rg_xmain_6, rg_xmain_7, ty_xaqueduct, ty_xdiary, ty_xforesight, ty_ximages, ty_xmain, ty_xnow, ty_xopinionReader, ty_xtape, ty_xtasters, ty_xthought, Option.toList_some, Option.toList_none, List.cons_append, List.nil_append, List.length_cons, List.length_nil, List.mem_cons, List.not_mem_nil, or_false, false_or, or_true, true_or, ↓reduceIte, true_and, and_true, Nat.reduceEqDiff, Nat.reduceAdd, Nat.reduceLeDiff, Nat.reduceLT, dl_i, dl_r, dl_n, dl_u, eq_self, not_true_eq_false, not_false_eq_true, n10, n01, nm0, n0m, imp_t, imp_f]
  refine ⟨⟨fun e => ?_, fun e => ?_, fun e => ?_⟩, fun hno => ?_⟩
  · rw [ev 0 (by decide)] at e
    exact hk _ K E (key _ (by rw [if_pos e]; exact f5))
  · rw [ev 1 (by decide)] at e
    exact hk _ K E (key _ (by rw [if_neg (by omega), if_pos e]; exact f6))
  · rw [ev 2 (by decide)] at e
    refine hk _ K E (key _ ?_)
    rw [if_neg (by omega), if_neg (by omega), f7]
    by_cases zz : (mdF (rtB J S.1.1 S.1.2 bk) (nI (2 ^ S.1.1 - 1)) (2 ^ S.1.1)).1 = 0
    · rw [if_pos zz, if_pos zz]
    · rw [if_neg zz, if_neg zz, if_pos e]
  · have h1 : ∀ i, i < 3 → k0 ≠ i := fun i hi c => hno i hi (by rw [Nat.zero_add, c])
    have := h1 0 (by decide); have := h1 1 (by decide); have := h1 2 (by decide)
    refine hk _ K E (key _ ?_)
    rw [if_neg (by omega), if_neg (by omega), f8]
    by_cases zz : (mdF (rtB J S.1.1 S.1.2 bk) (nI (2 ^ S.1.1 - 1)) (2 ^ S.1.1)).1 = 0
    · rw [if_pos zz, if_pos zz]
    · rw [if_neg zz, if_neg zz, if_neg (by omega)]
