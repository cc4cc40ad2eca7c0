/-! contracts of the class, 28: the aqueduct: a day's flow -/
def clR (bas : Nat → Int32) (S : Tn) : Nat → (Nat → Int32) → (Nat → Int32)
  | 0, r => r
  | c + 1, r => laR bas (S.2.2.2 c 0 * (1 + 3 * S.1.1)) (S.2.2.2 c 1 * (1 + 3 * S.1.1)) (nI (S.2.2.2 c 2)) (1 + 3 * S.1.1) (clR bas S c r)
def tpR (bas : Nat → Int32) (S : Tn) (q : T3) : T3 := match S.2.1.1 with
  | none => q
  | some u => taR bas S.1.1 u (nI S.2.1.2.1) q
def gvR (bas : Nat → Int32) (S : Tn) : Nat → (Nat → Int32) × Int32 → (Nat → Int32) × Int32
  | 0, q => q
  | v + 1, q => gdR bas S.1.1 v (nI (vz S v 2)) (gvR bas S v q)
/-- the change before: nothing -/
def ch0 (J : Iv) (S : Tn) : Nat → Int32 := fl J 16 0 (S.1.1 * (1 + 3 * S.1.1)) (nI 0) 16
def flQ (J : Iv) (y : Nat) (S : Tn) : T3 := tpR (J (y + 1)) S (clR (J (y + 1)) S S.1.2 (ch0 J S), fun _ => nI 0, J (y + 5))
def flG (J : Iv) (y : Nat) (S : Tn) : (Nat → Int32) × Int32 := gvR (J (y + 1)) S S.1.1 ((flQ J y S).1, J y 12)
def FlP (J K : Iv) (y : Nat) (S : Tn) : Prop := (∀ i, i ≠ 16 → i ≠ y → i ≠ y + 1 → i ≠ y + 5 → i ≠ y + 7 → K i = J i) ∧ (∀ k, k ≠ 12 → K y k = J y k) ∧ K y 12 = (flG J y S).2 ∧ K (y + 7) = (flQ J y S).2.1 ∧ K (y + 5) = (flQ J y S).2.2 ∧ (∀ k, k < S.1.1 * (1 + 3 * S.1.1) → K (y + 1) k = J (y + 1) k + (flG J y S).1 k) ∧ ∀ k, S.1.1 * (1 + 3 * S.1.1) ≤ k → K (y + 1) k = J (y + 1) k
section XAs
variable {Γ : Gm} {l : Launch} {b : Bool} {d : Nat} {J : Iv} {E : Ev} {kr : Kr} {kx : Kxx} {y t : Nat} {S : Tn}
theorem fl_sr {I : Iv} {i a c : Nat} {v : Int32} : fl I i a c v = sr I i (fl I i a c v i) := by
  funext x k
  unfold sr
  by_cases h : x = i
  · rw [if_pos h, h]
  · rw [if_neg h]
    exact if_neg (fun z => h z.1)
theorem ga_ga {q q' : (Nat → Int32) × Int32} (hy : 20 ≤ y) : gaH (gaH J y q) y q' = gaH J y q' := by
  unfold gaH
  funext a c
  by_cases h : a = y ∧ c = 12
  · obtain ⟨rfl, rfl⟩ := h
    rw [up_s, up_s]
  · rw [up_n h, up_n h]
    by_cases h2 : a = 16
    · rw [h2, sr_s, sr_s]
    · rw [sr_n h2, sr_n h2, up_n h, sr_n h2]
def bsR (bas ch : Nat → Int32) (i : Nat) : Nat → Int32 := fun k => if k < i then bas k + ch k else bas k
theorem bsR_s {bas ch : Nat → Int32} {i : Nat} : ru (bsR bas ch i) i (bsR bas ch i i + ch i) = bsR bas ch (i + 1) := by
  funext k
  unfold ru bsR
  by_cases h : k = i
  · rw [if_pos h, h, if_neg (by omega), if_pos (by omega)]
  · rw [if_neg h]
    by_cases h2 : k < i
    · rw [if_pos h2, if_pos (by omega)]
    · rw [if_neg h2, if_neg (by omega)]
theorem tq_sr {r z : Nat → Int32} {q : T3} (hy : 20 ≤ y) : tqH (sr (sr J 16 r) (y + 7) z) y q = tqH J y q := by
  funext i
  unfold tqH
  by_cases h : i = 16
  · rw [if_pos h, if_pos h]
  · rw [if_neg h, if_neg h]
    by_cases h2 : i = y + 7
    · rw [if_pos h2, if_pos h2]
    · rw [if_neg h2, if_neg h2, sr_n h2, sr_n h]
theorem x_flow (hC : AqC b E y t) (hV : DyV J y S.1.1) (hX : XTn J t S) (hS : TnV S) (hk : ∀ K, FlP J K y S → kr none K E) : Ex Γ l (shB b) (d + 3) (0, 0) mAq_flow [.ref 3, .ref y] J E kr kx := by
  refine ex_of (ls0 := [some (.ref 3), some (.ref y), none, none]) tAq_flow (by decide +kernel) kAq_flow rfl (Nat.le_of_ble_eq_true rfl) rfl ?_
  intro go hgo
  have hC0 := hC
  obtain ⟨r3, ⟨ty, tn⟩, ⟨ht, ⟨q0, -, -, -, q4, -, q6⟩, ⟨t1, -, -, -, t5, -, t7⟩, l1, -, -, -, l5, -, l7⟩, hy, hty, ht2, ht3⟩ := hC
  obtain ⟨v7, v8, v9⟩ := id hV
  obtain ⟨S9, S20, Stap, Stp8, Sfe, Sch, Spf, Svi⟩ := id hS
  have hcells : S.1.1 * (1 + 3 * S.1.1) ≤ 252 := Nat.mul_le_mul v9 (show 1 + 3 * S.1.1 ≤ 28 by omega)
  obtain ⟨X10, X11, X12, X13, X14, Xw, Xv, Xc⟩ := id hX
  refine hgo 20 [30, 60, 82] 0 _ _ _ _ _ ?_
  simp only [ixr_of, run_s, run_0, rAq_flow, rok_i, rok_z, bx_cons, bx_nil, eADD, eC0, eCS2, eCS4, eCV1, eCV2, eDUP2, eGI, eGO, eGR, eIALD, eIAST, jICge, eINC3, eLA0, eLA1, eLI2, eLI3, eMUL, eRV, eSI2, eSI3, fAq_flow_0, fAq_flow_30, fAq_flow_41, fAq_flow_53, fAq_flow_60, fAq_flow_68, fAq_flow_80, fAq_flow_82, fAq_flow_87, fAq_flow_108, bAq_flow_0, bAq_flow_30, bAq_flow_41, bAq_flow_53, bAq_flow_60, bAq_flow_68, bAq_flow_80, bAq_flow_82, bAq_flow_87, bAq_flow_108, ln_xaqueduct_change, ln_xaqueduct_decided, ln_xaqueduct_fresh, ln_xaqueduct_sight, ln_xopinions, rg_xaqueduct_1, rg_xaqueduct_2, rg_xaqueduct_3, rg_xaqueduct_4, rg_xaqueduct_5, ty_xaqueduct, ty_xaqueduct_change, ty_xaqueduct_decided, ty_xaqueduct_fresh, ty_xaqueduct_sight, ty_xopinions, Option.toList_some, Option.toList_none, List.cons_append, List.nil_append, List.length_cons, List.length_nil, List.mem_cons, List.not_mem_nil, or_false, false_or, or_true, true_or, ↓reduceIte, true_and, and_true, Nat.reduceEqDiff, Nat.reduceAdd, Nat.reduceLeDiff, Nat.reduceLT, dl_i, dl_r, dl_n, dl_u, eq_self, not_true_eq_false, not_false_eq_true, n10, n01, nm0, n0m, ht, v7, v8, nI_ml, imp_t, imp_f]
  refine call0 (x_fillR ty_xaqueduct_change (Nat.zero_le _) (by rw [ln_xaqueduct_change]; exact hcells) (by rw [ln_xaqueduct_change]; decide) ?_)
  simp only [ixr_of, run_s, run_0, rAq_flow, rok_i, rok_z, bx_cons, bx_nil, eADD, eC0, eCS2, eCS4, eCV1, eCV2, eDUP2, eGI, eGO, eGR, eIALD, eIAST, jICge, eINC3, eLA0, eLA1, eLI2, eLI3, eMUL, eRV, eSI2, eSI3, fAq_flow_0, fAq_flow_30, fAq_flow_41, fAq_flow_53, fAq_flow_60, fAq_flow_68, fAq_flow_80, fAq_flow_82, fAq_flow_87, fAq_flow_108, bAq_flow_0, bAq_flow_30, bAq_flow_41, bAq_flow_53, bAq_flow_60, bAq_flow_68, bAq_flow_80, bAq_flow_82, bAq_flow_87, bAq_flow_108, ln_xaqueduct_change, ln_xaqueduct_decided, ln_xaqueduct_fresh, ln_xaqueduct_sight, ln_xopinions, rg_xaqueduct_1, rg_xaqueduct_2, rg_xaqueduct_3, rg_xaqueduct_4, rg_xaqueduct_5, ty_xaqueduct, ty_xaqueduct_change, ty_xaqueduct_decided, ty_xaqueduct_fresh, ty_xaqueduct_sight, ty_xopinions, Option.toList_some, Option.toList_none, List.cons_append, List.nil_append, List.length_cons, List.length_nil, List.mem_cons, List.not_mem_nil, or_false, false_or, or_true, true_or, ↓reduceIte, true_and, and_true, Nat.reduceEqDiff, Nat.reduceAdd, Nat.reduceLeDiff, Nat.reduceLT, dl_i, dl_r, dl_n, dl_u, eq_self, not_true_eq_false, not_false_eq_true, n10, n01, nm0, n0m, ht, q6, imp_t, imp_f]
  refine call0 (x_fill t7 (by rw [l7]; decide) ?_)
  simp only [ixr_of, run_s, run_0, rAq_flow, rok_i, rok_z, bx_cons, bx_nil, eADD, eC0, eCS2, eCS4, eCV1, eCV2, eDUP2, eGI, eGO, eGR, eIALD, eIAST, jICge, eINC3, eLA0, eLA1, eLI2, eLI3, eMUL, eRV, eSI2, eSI3, fAq_flow_0, fAq_flow_30, fAq_flow_41, fAq_flow_53, fAq_flow_60, fAq_flow_68, fAq_flow_80, fAq_flow_82, fAq_flow_87, fAq_flow_108, bAq_flow_0, bAq_flow_30, bAq_flow_41, bAq_flow_53, bAq_flow_60, bAq_flow_68, bAq_flow_80, bAq_flow_82, bAq_flow_87, bAq_flow_108, ln_xaqueduct_change, ln_xaqueduct_decided, ln_xaqueduct_fresh, ln_xaqueduct_sight, ln_xopinions, rg_xaqueduct_1, rg_xaqueduct_2, rg_xaqueduct_3, rg_xaqueduct_4, rg_xaqueduct_5, ty_xaqueduct, ty_xaqueduct_change, ty_xaqueduct_decided, ty_xaqueduct_fresh, ty_xaqueduct_sight, ty_xopinions, Option.toList_some, Option.toList_none, List.cons_append, List.nil_append, List.length_cons, List.length_nil, List.mem_cons, List.not_mem_nil, or_false, false_or, or_true, true_or, ↓reduceIte, true_and, and_true, Nat.reduceEqDiff, Nat.reduceAdd, Nat.reduceLeDiff, Nat.reduceLT, dl_i, dl_r, dl_n, dl_u, eq_self, not_true_eq_false, not_false_eq_true, n10, n01, nm0, n0m, imp_t, imp_f]
  rw [fl_sr]
  have hJ2 : ∀ (r : Nat → Int32) (i : Nat), i ≠ 16 → i ≠ y + 7 → sr (sr J 16 r) (y + 7) (fun _ => nI 0) i = J i := fun r i h1 h2 => by rw [sr_n h2, sr_n h1]
  have hsw : ∀ r r' : Nat → Int32, sr (sr (sr J 16 r) (y + 7) (fun _ => nI 0)) 16 r' = sr (sr J 16 r') (y + 7) (fun _ => nI 0) := by
    intro r r'
    funext i
    by_cases h : i = 16
    · rw [h, sr_s, sr_n (by omega), sr_s]
    · rw [sr_n h]
      by_cases h2 : i = y + 7
      · rw [h2, sr_s, sr_s]
      · rw [sr_n h2, sr_n h, sr_n h2, sr_n h]
  have hXr : ∀ r : Nat → Int32, XTn (sr (sr J 16 r) (y + 7) (fun _ => nI 0)) t S := fun r => hX.mv (fun i h1 h2 => hJ2 r i (by omega) (by omega))
  have hVr : ∀ r : Nat → Int32, DyV (sr (sr J 16 r) (y + 7) (fun _ => nI 0)) y S.1.1 := fun r => ⟨by rw [hJ2 r y (by omega) (by omega)]; exact v7, by rw [hJ2 r y (by omega) (by omega)]; exact v8, v9⟩
  have hb : ∀ r : Nat → Int32, sr (sr J 16 r) (y + 7) (fun _ => nI 0) (y + 1) = J (y + 1) := fun r => hJ2 r _ (by omega) (by omega)
  have h16 : ∀ r : Nat → Int32, sr (sr J 16 r) (y + 7) (fun _ => nI 0) 16 = r := fun r => by rw [sr_n (by omega), sr_s]
  have h11 : ∀ r : Nat → Int32, sr (sr J 16 r) (y + 7) (fun _ => nI 0) t 11 = nI S.1.2 := fun r => (hXr r).2.1
  obtain ⟨N, hN⟩ : ∃ N, N = S.1.1 * (1 + 3 * S.1.1) := ⟨_, rfl⟩
  rw [← hN] at hcells ⊢
  -- the last loop
  have last : ∀ (H5 : Iv) (ch : Nat → Int32), H5 16 = ch → H5 (y + 1) = J (y + 1) → (∀ K, K = sr H5 (y + 1) (bsR (J (y + 1)) ch N) → kr none K E) → go 82 [some (.ref 3), some (.ref y), some (.int (nI N)), some (.int (nI 0))] [] H5 E (0, 0) := by
    intro H5 ch hch hb5 hk5
    have loop : ∀ (g i : Nat), g + i = N → go 82 [some (.ref 3), some (.ref y), some (.int (nI N)), some (.int (nI i))] [] (sr H5 (y + 1) (bsR (J (y + 1)) ch i)) E (0, 0) := by
      intro g
      induction g with
      | zero =>
        intro i hg
        have : i = N := by omega
        subst this
        have c1 : (nI i ≤ nI i) = True := eq_true (Int32.le_refl _)
        refine hgo 20 [82] 82 _ _ _ _ _ ?_
        simp only [ixr_of, run_s, run_0, rAq_flow, rok_i, rok_z, bx_cons, bx_nil, eADD, eC0, eCS2, eCS4, eCV1, eCV2, eDUP2, eGI, eGO, eGR, eIALD, eIAST, jICge, eINC3, eLA0, eLA1, eLI2, eLI3, eMUL, eRV, eSI2, eSI3, fAq_flow_0, fAq_flow_30, fAq_flow_41, fAq_flow_53, fAq_flow_60, fAq_flow_68, fAq_flow_80, fAq_flow_82, fAq_flow_87, fAq_flow_108, bAq_flow_0, bAq_flow_30, bAq_flow_41, bAq_flow_53, bAq_flow_60, bAq_flow_68, bAq_flow_80, bAq_flow_82, bAq_flow_87, bAq_flow_108, ln_xaqueduct_change, ln_xaqueduct_decided, ln_xaqueduct_fresh, ln_xaqueduct_sight, ln_xopinions, rg_xaqueduct_1, rg_xaqueduct_2, rg_xaqueduct_3, rg_xaqueduct_4, rg_xaqueduct_5, ty_xaqueduct, ty_xaqueduct_change, ty_xaqueduct_decided, ty_xaqueduct_fresh, ty_xaqueduct_sight, ty_xopinions, Option.toList_some, Option.toList_none, List.cons_append, List.nil_append, List.length_cons, List.length_nil, List.mem_cons, List.not_mem_nil, or_false, false_or, or_true, true_or, ↓reduceIte, true_and, and_true, Nat.reduceEqDiff, Nat.reduceAdd, Nat.reduceLeDiff, Nat.reduceLT, dl_i, dl_r, dl_n, dl_u, eq_self, not_true_eq_false, not_false_eq_true, n10, n01, nm0, n0m, c1, imp_t, imp_f]
        exact hk5 _ rfl
      | succ g ih =>
        intro i hg
        have c1 : (nI N ≤ nI i) = False := by rw [nIl (by omega) (by omega)]; exact eq_false (by omega)
        have i1 : i < 252 := by omega
        have ec : ∀ r, sr H5 (y + 1) r 16 = ch := fun r => by rw [sr_n (by omega)]; exact hch
        have es : ∀ r, sr H5 (y + 1) r (y + 1) = r := fun r => sr_s
        refine hgo 20 [82] 82 _ _ _ _ _ ?_
        simp only [ixr_of, run_s, run_0, rAq_flow, rok_i, rok_z, bx_cons, bx_nil, eADD, eC0, eCS2, eCS4, eCV1, eCV2, eDUP2, eGI, eGO, eGR, eIALD, eIAST, jICge, eINC3, eLA0, eLA1, eLI2, eLI3, eMUL, eRV, eSI2, eSI3, fAq_flow_0, fAq_flow_30, fAq_flow_41, fAq_flow_53, fAq_flow_60, fAq_flow_68, fAq_flow_80, fAq_flow_82, fAq_flow_87, fAq_flow_108, bAq_flow_0, bAq_flow_30, bAq_flow_41, bAq_flow_53, bAq_flow_60, bAq_flow_68, bAq_flow_80, bAq_flow_82, bAq_flow_87, bAq_flow_108, ln_xaqueduct_change, ln_xaqueduct_decided, ln_xaqueduct_fresh, ln_xaqueduct_sight, ln_xopinions, rg_xaqueduct_1, rg_xaqueduct_2, rg_xaqueduct_3, rg_xaqueduct_4, rg_xaqueduct_5, ty_xaqueduct, ty_xaqueduct_change, ty_xaqueduct_decided, ty_xaqueduct_fresh, ty_xaqueduct_sight, ty_xopinions, Option.toList_some, Option.toList_none, List.cons_append, List.nil_append, List.length_cons, List.length_nil, List.mem_cons, List.not_mem_nil, or_false, false_or, or_true, true_or, ↓reduceIte, true_and, and_true, Nat.reduceEqDiff, Nat.reduceAdd, Nat.reduceLeDiff, Nat.reduceLT, dl_i, dl_r, dl_n, dl_u, eq_self, not_true_eq_false, not_false_eq_true, n10, n01, nm0, n0m, c1, ht, q0, t1, l1, ec, es, up_sr, i1, nI_add, bsR_s, imp_t, imp_f]
        exact ih (i + 1) (by omega)
    have := loop N 0 (by omega)
    rw [show bsR (J (y + 1)) ch 0 = H5 (y + 1) by rw [hb5]; funext k; exact if_neg (by omega), sr_id] at this
    exact this
  have gard : go 60 [some (.ref 3), some (.ref y), some (.int (nI N)), some (.int (nI 0))] [] (tqH J y (flQ J y S)) E (0, 0) := by
    obtain ⟨J4, hJ4⟩ : ∃ J4, J4 = tqH J y (flQ J y S) := ⟨_, rfl⟩
    have n4 : ∀ i, i ≠ 16 → i ≠ y + 7 → i ≠ y + 5 → J4 i = J i := fun i h1 h2 h3 => by rw [hJ4]; exact tq_n h1 h2 h3
    have a4 : J4 16 = (flQ J y S).1 := by rw [hJ4]; exact tq_a
    have b4 : J4 (y + 7) = (flQ J y S).2.1 := by rw [hJ4]; exact tq_b hy
    have c4 : J4 (y + 5) = (flQ J y S).2.2 := by rw [hJ4]; exact tq_c hy
    rw [← hJ4]
    have loop : ∀ (g v : Nat), g + v = S.1.1 → go 60 [some (.ref 3), some (.ref y), some (.int (nI N)), some (.int (nI v))] [] (gaH J4 y (gvR (J (y + 1)) S v ((flQ J y S).1, J y 12))) E (0, 0) := by
      intro g
      induction g with
      | zero =>
        intro v hg
        have : v = S.1.1 := by omega
        subst this
        have e7 : ∀ q, gaH J4 y q y 7 = nI S.1.1 := fun q => by rw [ga_n (by omega) (by omega), n4 y (by omega) (by omega) (by omega)]; exact v7
        have c1 : (nI S.1.1 ≤ nI S.1.1) = True := eq_true (Int32.le_refl _)
        refine hgo 20 [60, 82] 60 _ _ _ _ _ ?_
        simp only [ixr_of, run_s, run_0, rAq_flow, rok_i, rok_z, bx_cons, bx_nil, eADD, eC0, eCS2, eCS4, eCV1, eCV2, eDUP2, eGI, eGO, eGR, eIALD, eIAST, jICge, eINC3, eLA0, eLA1, eLI2, eLI3, eMUL, eRV, eSI2, eSI3, fAq_flow_0, fAq_flow_30, fAq_flow_41, fAq_flow_53, fAq_flow_60, fAq_flow_68, fAq_flow_80, fAq_flow_82, fAq_flow_87, fAq_flow_108, bAq_flow_0, bAq_flow_30, bAq_flow_41, bAq_flow_53, bAq_flow_60, bAq_flow_68, bAq_flow_80, bAq_flow_82, bAq_flow_87, bAq_flow_108, ln_xaqueduct_change, ln_xaqueduct_decided, ln_xaqueduct_fresh, ln_xaqueduct_sight, ln_xopinions, rg_xaqueduct_1, rg_xaqueduct_2, rg_xaqueduct_3, rg_xaqueduct_4, rg_xaqueduct_5, ty_xaqueduct, ty_xaqueduct_change, ty_xaqueduct_decided, ty_xaqueduct_fresh, ty_xaqueduct_sight, ty_xopinions, Option.toList_some, Option.toList_none, List.cons_append, List.nil_append, List.length_cons, List.length_nil, List.mem_cons, List.not_mem_nil, or_false, false_or, or_true, true_or, ↓reduceIte, true_and, and_true, Nat.reduceEqDiff, Nat.reduceAdd, Nat.reduceLeDiff, Nat.reduceLT, dl_i, dl_r, dl_n, dl_u, eq_self, not_true_eq_false, not_false_eq_true, n10, n01, nm0, n0m, ht, e7, c1, imp_t, imp_f]
        refine last _ (flG J y S).1 (ga_a hy) (by rw [ga_m (by omega) (by omega)]; exact n4 _ (by omega) (by omega) (by omega)) (fun K hK => hk K ?_)
        rw [hK]
        refine ⟨fun i h1 h2 h3 h4 h5 => ?_, fun k hk => ?_, ?_, ?_, ?_, fun k hk => ?_, fun k hk => ?_⟩
        · rw [sr_n h3, ga_m h1 h2, n4 i h1 h5 h4]
        · rw [sr_n (by omega), ga_n (by omega) (fun z => hk z.2), n4 y (by omega) (by omega) (by omega)]
        · rw [sr_n (by omega), ga_g]; rfl
        · rw [sr_n (by omega), ga_m (by omega) (by omega), b4]
        · rw [sr_n (by omega), ga_m (by omega) (by omega), c4]
        · rw [sr_s]; exact if_pos (by omega)
        · rw [sr_s]; exact if_neg (by omega)
      | succ g ih =>
        intro v hg
        have hv : v < S.1.1 := by omega
        have e7 : ∀ q, gaH J4 y q y 7 = nI S.1.1 := fun q => by rw [ga_n (by omega) (by omega), n4 y (by omega) (by omega) (by omega)]; exact v7
        have e8 : ∀ q, gaH J4 y q y 8 = nI (1 + 3 * S.1.1) := fun q => by rw [ga_n (by omega) (by omega), n4 y (by omega) (by omega) (by omega)]; exact v8
        have c1 : (nI S.1.1 ≤ nI v) = False := by rw [nIl (by omega) (by omega)]; exact eq_false (by omega)
        refine hgo 20 [60, 82] 60 _ _ _ _ _ ?_
        simp only [ixr_of, run_s, run_0, rAq_flow, rok_i, rok_z, bx_cons, bx_nil, eADD, eC0, eCS2, eCS4, eCV1, eCV2, eDUP2, eGI, eGO, eGR, eIALD, eIAST, jICge, eINC3, eLA0, eLA1, eLI2, eLI3, eMUL, eRV, eSI2, eSI3, fAq_flow_0, fAq_flow_30, fAq_flow_41, fAq_flow_53, fAq_flow_60, fAq_flow_68, fAq_flow_80, fAq_flow_82, fAq_flow_87, fAq_flow_108, bAq_flow_0, bAq_flow_30, bAq_flow_41, bAq_flow_53, bAq_flow_60, bAq_flow_68, bAq_flow_80, bAq_flow_82, bAq_flow_87, bAq_flow_108, ln_xaqueduct_change, ln_xaqueduct_decided, ln_xaqueduct_fresh, ln_xaqueduct_sight, ln_xopinions, rg_xaqueduct_1, rg_xaqueduct_2, rg_xaqueduct_3, rg_xaqueduct_4, rg_xaqueduct_5, ty_xaqueduct, ty_xaqueduct_change, ty_xaqueduct_decided, ty_xaqueduct_fresh, ty_xaqueduct_sight, ty_xopinions, Option.toList_some, Option.toList_none, List.cons_append, List.nil_append, List.length_cons, List.length_nil, List.mem_cons, List.not_mem_nil, or_false, false_or, or_true, true_or, ↓reduceIte, true_and, and_true, Nat.reduceEqDiff, Nat.reduceAdd, Nat.reduceLeDiff, Nat.reduceLT, dl_i, dl_r, dl_n, dl_u, eq_self, not_true_eq_false, not_false_eq_true, n10, n01, nm0, n0m, ht, e7, c1, imp_t, imp_f]
        refine call0 (x_leadToGardens (p := nI (vz S v 2)) hC0 ⟨e7 _, e8 _, v9⟩ hv (by rw [ga_m (by omega) (by omega), n4 _ (by omega) (by omega) (by omega)]; exact (Xv v (by omega)).2.1) ?_)
        rw [ga_ga hy, ga_a hy, ga_g, ga_m (by omega) (by omega), n4 _ (by omega) (by omega) (by omega)]
        simp only [ixr_of, run_s, run_0, rAq_flow, rok_i, rok_z, bx_cons, bx_nil, eADD, eC0, eCS2, eCS4, eCV1, eCV2, eDUP2, eGI, eGO, eGR, eIALD, eIAST, jICge, eINC3, eLA0, eLA1, eLI2, eLI3, eMUL, eRV, eSI2, eSI3, fAq_flow_0, fAq_flow_30, fAq_flow_41, fAq_flow_53, fAq_flow_60, fAq_flow_68, fAq_flow_80, fAq_flow_82, fAq_flow_87, fAq_flow_108, bAq_flow_0, bAq_flow_30, bAq_flow_41, bAq_flow_53, bAq_flow_60, bAq_flow_68, bAq_flow_80, bAq_flow_82, bAq_flow_87, bAq_flow_108, ln_xaqueduct_change, ln_xaqueduct_decided, ln_xaqueduct_fresh, ln_xaqueduct_sight, ln_xopinions, rg_xaqueduct_1, rg_xaqueduct_2, rg_xaqueduct_3, rg_xaqueduct_4, rg_xaqueduct_5, ty_xaqueduct, ty_xaqueduct_change, ty_xaqueduct_decided, ty_xaqueduct_fresh, ty_xaqueduct_sight, ty_xopinions, Option.toList_some, Option.toList_none, List.cons_append, List.nil_append, List.length_cons, List.length_nil, List.mem_cons, List.not_mem_nil, or_false, false_or, or_true, true_or, ↓reduceIte, true_and, and_true, Nat.reduceEqDiff, Nat.reduceAdd, Nat.reduceLeDiff, Nat.reduceLT, dl_i, dl_r, dl_n, dl_u, eq_self, not_true_eq_false, not_false_eq_true, n10, n01, nm0, n0m, nI_add, imp_t, imp_f]
        exact ih (v + 1) (by omega)
    have := loop S.1.1 0 (by omega)
    rw [show gvR (J (y + 1)) S 0 ((flQ J y S).1, J y 12) = (J4 16, J4 y 12) by rw [a4, n4 y (by omega) (by omega) (by omega)]; rfl, ga_id hy] at this
    exact this
  have loop : ∀ (g c : Nat), g + c = S.1.2 → go 30 [some (.ref 3), some (.ref y), some (.int (nI N)), some (.int (nI c))] [] (sr (sr J 16 (clR (J (y + 1)) S c (ch0 J S))) (y + 7) (fun _ => nI 0)) E (0, 0) := by
    intro g
    induction g with
    | zero =>
      intro c hg
      have : c = S.1.2 := by omega
      subst this
      have c1 : (nI S.1.2 ≤ nI S.1.2) = True := eq_true (Int32.le_refl _)
      have hJ5 : ∀ r : Nat → Int32, sr (sr J 16 r) (y + 7) (fun _ => nI 0) (y + 5) = J (y + 5) := fun r => hJ2 r _ (by omega) (by omega)
      refine hgo 20 [30, 60, 82] 30 _ _ _ _ _ ?_
      simp only [ixr_of, run_s, run_0, rAq_flow, rok_i, rok_z, bx_cons, bx_nil, eADD, eC0, eCS2, eCS4, eCV1, eCV2, eDUP2, eGI, eGO, eGR, eIALD, eIAST, jICge, eINC3, eLA0, eLA1, eLI2, eLI3, eMUL, eRV, eSI2, eSI3, fAq_flow_0, fAq_flow_30, fAq_flow_41, fAq_flow_53, fAq_flow_60, fAq_flow_68, fAq_flow_80, fAq_flow_82, fAq_flow_87, fAq_flow_108, bAq_flow_0, bAq_flow_30, bAq_flow_41, bAq_flow_53, bAq_flow_60, bAq_flow_68, bAq_flow_80, bAq_flow_82, bAq_flow_87, bAq_flow_108, ln_xaqueduct_change, ln_xaqueduct_decided, ln_xaqueduct_fresh, ln_xaqueduct_sight, ln_xopinions, rg_xaqueduct_1, rg_xaqueduct_2, rg_xaqueduct_3, rg_xaqueduct_4, rg_xaqueduct_5, ty_xaqueduct, ty_xaqueduct_change, ty_xaqueduct_decided, ty_xaqueduct_fresh, ty_xaqueduct_sight, ty_xopinions, Option.toList_some, Option.toList_none, List.cons_append, List.nil_append, List.length_cons, List.length_nil, List.mem_cons, List.not_mem_nil, or_false, false_or, or_true, true_or, ↓reduceIte, true_and, and_true, Nat.reduceEqDiff, Nat.reduceAdd, Nat.reduceLeDiff, Nat.reduceLT, dl_i, dl_r, dl_n, dl_u, eq_self, not_true_eq_false, not_false_eq_true, n10, n01, nm0, n0m, ty, r3, h11, c1, imp_t, imp_f]
      cases htap : S.2.1.1 with
      | none =>
        refine call0 (x_leadToTown0 hC0 (by rw [(hXr _).2.2.1, htap]; rfl) ?_)
        simp only [ixr_of, run_s, run_0, rAq_flow, rok_i, rok_z, bx_cons, bx_nil, eADD, eC0, eCS2, eCS4, eCV1, eCV2, eDUP2, eGI, eGO, eGR, eIALD, eIAST, jICge, eINC3, eLA0, eLA1, eLI2, eLI3, eMUL, eRV, eSI2, eSI3, fAq_flow_0, fAq_flow_30, fAq_flow_41, fAq_flow_53, fAq_flow_60, fAq_flow_68, fAq_flow_80, fAq_flow_82, fAq_flow_87, fAq_flow_108, bAq_flow_0, bAq_flow_30, bAq_flow_41, bAq_flow_53, bAq_flow_60, bAq_flow_68, bAq_flow_80, bAq_flow_82, bAq_flow_87, bAq_flow_108, ln_xaqueduct_change, ln_xaqueduct_decided, ln_xaqueduct_fresh, ln_xaqueduct_sight, ln_xopinions, rg_xaqueduct_1, rg_xaqueduct_2, rg_xaqueduct_3, rg_xaqueduct_4, rg_xaqueduct_5, ty_xaqueduct, ty_xaqueduct_change, ty_xaqueduct_decided, ty_xaqueduct_fresh, ty_xaqueduct_sight, ty_xopinions, Option.toList_some, Option.toList_none, List.cons_append, List.nil_append, List.length_cons, List.length_nil, List.mem_cons, List.not_mem_nil, or_false, false_or, or_true, true_or, ↓reduceIte, true_and, and_true, Nat.reduceEqDiff, Nat.reduceAdd, Nat.reduceLeDiff, Nat.reduceLT, dl_i, dl_r, dl_n, dl_u, eq_self, not_true_eq_false, not_false_eq_true, n10, n01, nm0, n0m, imp_t, imp_f]
        have e : sr (sr J 16 (clR (J (y + 1)) S S.1.2 (ch0 J S))) (y + 7) (fun _ => nI 0) = tqH J y (flQ J y S) := by
          unfold flQ tpR
          rw [htap]
          dsimp only
          rw [← tq_sr (J := J) (r := clR (J (y + 1)) S S.1.2 (ch0 J S)) (z := fun _ => nI 0) hy]
          have := tq_id (J := sr (sr J 16 (clR (J (y + 1)) S S.1.2 (ch0 J S))) (y + 7) (fun _ => nI 0)) hy
          rw [h16, sr_s, hJ5] at this
          exact this.symm
        rw [e]
        exact gard
      | some u =>
        refine call0 (x_leadToTown (u := u) (p := S.2.1.2.1) hC0 (hVr _) (by rw [(hXr _).2.2.1, htap]; rfl) (Stap u htap) (hXr _).2.2.2.1 ?_)
        rw [h16, sr_s, hJ5, hb, tq_sr hy]
        simp only [ixr_of, run_s, run_0, rAq_flow, rok_i, rok_z, bx_cons, bx_nil, eADD, eC0, eCS2, eCS4, eCV1, eCV2, eDUP2, eGI, eGO, eGR, eIALD, eIAST, jICge, eINC3, eLA0, eLA1, eLI2, eLI3, eMUL, eRV, eSI2, eSI3, fAq_flow_0, fAq_flow_30, fAq_flow_41, fAq_flow_53, fAq_flow_60, fAq_flow_68, fAq_flow_80, fAq_flow_82, fAq_flow_87, fAq_flow_108, bAq_flow_0, bAq_flow_30, bAq_flow_41, bAq_flow_53, bAq_flow_60, bAq_flow_68, bAq_flow_80, bAq_flow_82, bAq_flow_87, bAq_flow_108, ln_xaqueduct_change, ln_xaqueduct_decided, ln_xaqueduct_fresh, ln_xaqueduct_sight, ln_xopinions, rg_xaqueduct_1, rg_xaqueduct_2, rg_xaqueduct_3, rg_xaqueduct_4, rg_xaqueduct_5, ty_xaqueduct, ty_xaqueduct_change, ty_xaqueduct_decided, ty_xaqueduct_fresh, ty_xaqueduct_sight, ty_xopinions, Option.toList_some, Option.toList_none, List.cons_append, List.nil_append, List.length_cons, List.length_nil, List.mem_cons, List.not_mem_nil, or_false, false_or, or_true, true_or, ↓reduceIte, true_and, and_true, Nat.reduceEqDiff, Nat.reduceAdd, Nat.reduceLeDiff, Nat.reduceLT, dl_i, dl_r, dl_n, dl_u, eq_self, not_true_eq_false, not_false_eq_true, n10, n01, nm0, n0m, imp_t, imp_f]
        have e : taR (J (y + 1)) S.1.1 u (nI S.2.1.2.1) (clR (J (y + 1)) S S.1.2 (ch0 J S), fun _ => nI 0, J (y + 5)) = flQ J y S := by
          unfold flQ tpR
          rw [htap]
        rw [e]
        exact gard
    | succ g ih =>
      intro c hg
      have hc : c < S.1.2 := by omega
      have c1 : (nI S.1.2 ≤ nI c) = False := by rw [nIl (by omega) (by omega)]; exact eq_false (by omega)
      have xc := fun r => (hXr r).2.2.2.2.2.2.2 c hc
      obtain ⟨f1, f2, f3⟩ := Sch c hc
      refine hgo 20 [30, 60, 82] 30 _ _ _ _ _ ?_
      simp only [ixr_of, run_s, run_0, rAq_flow, rok_i, rok_z, bx_cons, bx_nil, eADD, eC0, eCS2, eCS4, eCV1, eCV2, eDUP2, eGI, eGO, eGR, eIALD, eIAST, jICge, eINC3, eLA0, eLA1, eLI2, eLI3, eMUL, eRV, eSI2, eSI3, fAq_flow_0, fAq_flow_30, fAq_flow_41, fAq_flow_53, fAq_flow_60, fAq_flow_68, fAq_flow_80, fAq_flow_82, fAq_flow_87, fAq_flow_108, bAq_flow_0, bAq_flow_30, bAq_flow_41, bAq_flow_53, bAq_flow_60, bAq_flow_68, bAq_flow_80, bAq_flow_82, bAq_flow_87, bAq_flow_108, ln_xaqueduct_change, ln_xaqueduct_decided, ln_xaqueduct_fresh, ln_xaqueduct_sight, ln_xopinions, rg_xaqueduct_1, rg_xaqueduct_2, rg_xaqueduct_3, rg_xaqueduct_4, rg_xaqueduct_5, ty_xaqueduct, ty_xaqueduct_change, ty_xaqueduct_decided, ty_xaqueduct_fresh, ty_xaqueduct_sight, ty_xopinions, Option.toList_some, Option.toList_none, List.cons_append, List.nil_append, List.length_cons, List.length_nil, List.mem_cons, List.not_mem_nil, or_false, false_or, or_true, true_or, ↓reduceIte, true_and, and_true, Nat.reduceEqDiff, Nat.reduceAdd, Nat.reduceLeDiff, Nat.reduceLT, dl_i, dl_r, dl_n, dl_u, eq_self, not_true_eq_false, not_false_eq_true, n10, n01, nm0, n0m, ty, r3, h11, c1, imp_t, imp_f]
      refine call0 (x_leadAlong hC0 (hVr _) (by omega) (xc _).1 (xc _).2.1 (xc _).2.2 f1 f2 ?_)
      rw [hb, h16, hsw]
      simp only [ixr_of, run_s, run_0, rAq_flow, rok_i, rok_z, bx_cons, bx_nil, eADD, eC0, eCS2, eCS4, eCV1, eCV2, eDUP2, eGI, eGO, eGR, eIALD, eIAST, jICge, eINC3, eLA0, eLA1, eLI2, eLI3, eMUL, eRV, eSI2, eSI3, fAq_flow_0, fAq_flow_30, fAq_flow_41, fAq_flow_53, fAq_flow_60, fAq_flow_68, fAq_flow_80, fAq_flow_82, fAq_flow_87, fAq_flow_108, bAq_flow_0, bAq_flow_30, bAq_flow_41, bAq_flow_53, bAq_flow_60, bAq_flow_68, bAq_flow_80, bAq_flow_82, bAq_flow_87, bAq_flow_108, ln_xaqueduct_change, ln_xaqueduct_decided, ln_xaqueduct_fresh, ln_xaqueduct_sight, ln_xopinions, rg_xaqueduct_1, rg_xaqueduct_2, rg_xaqueduct_3, rg_xaqueduct_4, rg_xaqueduct_5, ty_xaqueduct, ty_xaqueduct_change, ty_xaqueduct_decided, ty_xaqueduct_fresh, ty_xaqueduct_sight, ty_xopinions, Option.toList_some, Option.toList_none, List.cons_append, List.nil_append, List.length_cons, List.length_nil, List.mem_cons, List.not_mem_nil, or_false, false_or, or_true, true_or, ↓reduceIte, true_and, and_true, Nat.reduceEqDiff, Nat.reduceAdd, Nat.reduceLeDiff, Nat.reduceLT, dl_i, dl_r, dl_n, dl_u, eq_self, not_true_eq_false, not_false_eq_true, n10, n01, nm0, n0m, nI_add, imp_t, imp_f]
      exact ih (c + 1) (by omega)
  have := loop S.1.2 0 (by omega)
  rw [hN]
  rw [hN] at this
  exact this
end XAs
