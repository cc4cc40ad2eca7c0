/-! contracts of the class, 11: the book -/
/-- a line but for its end -/
def llS (T : Nat → Int32) (n nl a : Nat) : Rx (Nat × Nat × Nat) := match nuS T n (nI 1) (nI 99) a with
  | .error e => .error e
  | .ok (c, x) => if nl = 12 then .error (3, sk T n a) else match nuS T n (nI 0) (nI 7) c with
    | .error e => .error e
    | .ok (c', y) => .ok (c', x, y)
theorem lnS_l {T : Nat → Int32} {n nl a : Nat} : lnS T n nl a = (match llS T n nl a with
    | .error e => .error e
    | .ok (c, p) => match sgS T n (nI 59) c with
      | .error e => .error e
      | .ok (z, _) => .ok (z, p)) := by
  unfold lnS llS nuS
  by_cases q1 : nmF T n a (nI 1) (nI 99) = 0
  · rw [if_neg (fun z => z q1), if_pos q1]
    dsimp only
    by_cases q2 : nl = 12
    · rw [if_pos q2, if_pos q2]
    · rw [if_neg q2, if_neg q2]
      by_cases q3 : nmF T n (nmE T n a) (nI 0) (nI 7) = 0
      · rw [if_neg (fun z => z q3), if_pos q3]
        rfl
      · rw [if_pos q3, if_neg q3]
  · rw [if_pos q1, if_neg q1]
def BkA (sh : Sh) (E : Ev) (k : Nat) : Prop := tyc sh E k = 2 ∧ rget sh E k 0 = .ref (k + 1) ∧ rget sh E k 1 = .ref (k + 2) ∧ tyc sh E (k + 1) = 101 ∧ tyc sh E (k + 2) = 101 ∧ len sh E (k + 1) = 12 ∧ len sh E (k + 2) = 12
def lsD : List (Nat × Nat) → Nat
  | [] => 0
  | x :: ps => max x.1 (lsD ps)
theorem lsD_a : ∀ ps x, lsD (ps ++ [x]) = max (lsD ps) x.1
  | [], x => by simp [lsD]
  | y :: ps, x => by
    show max y.1 (lsD (ps ++ [x])) = max (max y.1 (lsD ps)) x.1
    rw [lsD_a ps x]
    omega
theorem lsD_le : ∀ (ps : List (Nat × Nat)) (m : Nat), (∀ x ∈ ps, x.1 ≤ m) → lsD ps ≤ m
  | [], _, _ => Nat.zero_le _
  | x :: ps, m, h => by
    have h1 := h x List.mem_cons_self
    have h2 := lsD_le ps m (fun y hy => h y (List.mem_cons_of_mem _ hy))
    show max x.1 (lsD ps) ≤ m
    omega
theorem lsD_m : ∀ (ps : List (Nat × Nat)) (x : Nat × Nat), x ∈ ps → x.1 ≤ lsD ps
  | [], _, h => by cases h
  | y :: ps, x, h => by
    show x.1 ≤ max y.1 (lsD ps)
    rcases List.mem_cons.mp h with rfl | h
    · omega
    · have := lsD_m ps x h
      omega
def XBk (J : Iv) (k : Nat) (ps : List (Nat × Nat)) : Prop := J k 2 = nI ps.length ∧ J k 3 = nI (lsD ps) ∧ ∀ i x, ps[i]? = some x → J (k + 1) i = nI x.1 ∧ J (k + 2) i = nI x.2
def BkV (ps : List (Nat × Nat)) : Prop := ps.length ≤ 12 ∧ ∀ x ∈ ps, 1 ≤ x.1 ∧ x.1 ≤ 99 ∧ x.2 ≤ 7
def Fb (k : Nat) (I J : Iv) : Prop := (∀ i, i ≠ 1 → ¬ (k ≤ i ∧ i ≤ k + 2) → J i = I i) ∧ ∀ j, j < 3 → J 1 j = I 1 j
theorem Fb.rf {k : Nat} {I : Iv} : Fb k I I := ⟨fun _ _ _ => rfl, fun _ _ => rfl⟩
theorem Fb.tr {k : Nat} {I J K : Iv} (h : Fb k I J) (h2 : Fb k J K) : Fb k I K := ⟨fun i a b => (h2.1 i a b).trans (h.1 i a b), fun j a => (h2.2 j a).trans (h.2 j a)⟩
theorem Fb.tp {k x s : Nat} {I : Iv} : Fb k I (tp I x s) := ⟨fun i a _ => tp_o a, fun j a => tp_f (by omega) (by omega)⟩
theorem Fb.tf {k x s m : Nat} {I : Iv} : Fb k I (tf I x s m) := ⟨fun i a _ => tf_o a, fun j a => tf_f (by omega) (by omega) (by omega) (by omega)⟩
theorem Fb.up {k i j : Nat} {x : Int32} {I : Iv} (h : k ≤ i ∧ i ≤ k + 2) (ht : 3 ≤ k) : Fb k I (up I i j x) := ⟨fun a _ q => by funext y; exact up_n (fun c => q (c.1 ▸ h)), fun y _ => up_n (by omega)⟩
theorem XBk.mv {J K : Iv} {k : Nat} {ps : List (Nat × Nat)} (h : XBk J k ps) (h0 : K k = J k) (h1 : K (k + 1) = J (k + 1)) (h2 : K (k + 2) = J (k + 2)) : XBk K k ps := ⟨by rw [h0]; exact h.1, by rw [h0]; exact h.2.1, fun i x hx => by rw [h1, h2]; exact h.2.2 i x hx⟩
theorem XBk.tp {J : Iv} {k x s : Nat} {ps : List (Nat × Nat)} (h : XBk J k ps) (hk : 3 ≤ k) : XBk (tp J x s) k ps := h.mv (tp_o (by omega)) (tp_o (by omega)) (tp_o (by omega))
section XBkR
variable {Γ : Gm} {l : Launch} {b : Bool} {d : Nat} {I : Iv} {E : Ev} {kr : Kr} {kx : Kxx} {T : Nat → Int32} {n a k : Nat} {ps : List (Nat × Nat)}
theorem x_bclear {sh : Sh} (hA : BkA sh E k) (hk : kr none (up (up I k 2 (nI 0)) k 3 (nI 0)) E) : Ex Γ l sh (d + 1) (0, 0) mBk_clear [.ref k] I E kr kx := by
  refine ex_of (ls0 := [some (.ref k)]) tBk_clear (by decide +kernel) kBk_clear rfl (Nat.le_of_ble_eq_true rfl) rfl ?_
  intro go hgo
  have ht := hA.1
  refine hgo 20 [] 0 _ _ _ _ _ ?_
  simp only [ixr_of, run_s, run_0, rBk_clear, rok_i, rok_z, bx_cons, bx_nil, eC0, eLA0, ePI, eRV, fBk_clear_0, bBk_clear_0, Option.toList_some, Option.toList_none, List.cons_append, List.nil_append, List.length_cons, List.length_nil, List.mem_cons, List.not_mem_nil, or_false, false_or, or_true, true_or, ↓reduceIte, true_and, and_true, Nat.reduceEqDiff, Nat.reduceAdd, Nat.reduceLeDiff, Nat.reduceLT, dl_i, dl_r, dl_n, dl_u, eq_self, not_true_eq_false, not_false_eq_true, n10, n01, nm0, n0m, ht, imp_t, imp_f]
  exact hk
theorem x_readLine (hA : BkA (shB b) E k) (hk3 : 3 ≤ k) (h : TS T n I a) (hX : XBk I k ps) (hV : BkV ps)
    (hk1 : ∀ c x K, llS T n ps.length a = .ok (c, x) → Fb k I K → TS T n K c → XBk K k (ps ++ [x]) → BkV (ps ++ [x]) → kr (some (.int (nI 1))) K E)
    (hk2 : ∀ e K, llS T n ps.length a = .error e → Fb k I K → TEr K e → kr (some (.int (nI 0))) K E) : Ex Γ l (shB b) (d + 3) (0, 0) mBk_readLine [.ref k, .ref 1] I E kr kx := by
  refine ex_of (ls0 := [some (.ref k), some (.ref 1), none, none]) tBk_readLine (by decide +kernel) kBk_readLine rfl (Nat.le_of_ble_eq_true rfl) rfl ?_
  intro go hgo
  obtain ⟨ht, r0, r1, t0, t1, l0, l1⟩ := hA
  have h12 := hV.1
  refine hgo 20 [] 0 _ _ _ _ _ ?_
  simp only [ixr_of, run_s, run_0, rBk_readLine, rok_i, rok_z, bx_cons, bx_nil, eADD, eBP, eC0, eC1, eC3, eCV1, eCV2, eCm1, eDUPr, eGI, eGR, eIAST, jIClt, jICne, eLA0, eLA1, eLI2, eLI3, eMAX, ePI, eRI, eSI2, eSI3, fBk_readLine_0, fBk_readLine_13, fBk_readLine_15, fBk_readLine_24, fBk_readLine_30, fBk_readLine_43, fBk_readLine_45, bBk_readLine_0, bBk_readLine_13, bBk_readLine_15, bBk_readLine_24, bBk_readLine_30, bBk_readLine_43, bBk_readLine_45, Option.toList_some, Option.toList_none, List.cons_append, List.nil_append, List.length_cons, List.length_nil, List.mem_cons, List.not_mem_nil, or_false, false_or, or_true, true_or, ↓reduceIte, true_and, and_true, Nat.reduceEqDiff, Nat.reduceAdd, Nat.reduceLeDiff, Nat.reduceLT, dl_i, dl_r, dl_n, dl_u, eq_self, not_true_eq_false, not_false_eq_true, n10, n01, nm0, n0m, ht, ty_xtape, imp_t, imp_f]
  refine call0 (x_numS h (Or.inr rfl) (by decide) (fun c x hr hp hp2 hp1 hc => ?_) (fun e y hr hy => ?_))
  rotate_left
  · simp only [ixr_of, run_s, run_0, rBk_readLine, rok_i, rok_z, bx_cons, bx_nil, eADD, eBP, eC0, eC1, eC3, eCV1, eCV2, eCm1, eDUPr, eGI, eGR, eIAST, jIClt, jICne, eLA0, eLA1, eLI2, eLI3, eMAX, ePI, eRI, eSI2, eSI3, fBk_readLine_0, fBk_readLine_13, fBk_readLine_15, fBk_readLine_24, fBk_readLine_30, fBk_readLine_43, fBk_readLine_45, bBk_readLine_0, bBk_readLine_13, bBk_readLine_15, bBk_readLine_24, bBk_readLine_30, bBk_readLine_43, bBk_readLine_45, Option.toList_some, Option.toList_none, List.cons_append, List.nil_append, List.length_cons, List.length_nil, List.mem_cons, List.not_mem_nil, or_false, false_or, or_true, true_or, ↓reduceIte, true_and, and_true, Nat.reduceEqDiff, Nat.reduceAdd, Nat.reduceLeDiff, Nat.reduceLT, dl_i, dl_r, dl_n, dl_u, eq_self, not_true_eq_false, not_false_eq_true, n10, n01, nm0, n0m, imp_t, imp_f]
    exact hk2 e _ (by unfold llS; rw [hr]) Fb.tf tf_e
  have nx := nI_nm (p := x) (by omega)
  have hx99 : x ≤ 99 := (nI_leI (by omega) (by decide)).mp hp2
  have e2 : tp I c (sk T n a) k 2 = nI ps.length := by rw [tp_o (by omega)]; exact hX.1
  simp only [ixr_of, run_s, run_0, rBk_readLine, rok_i, rok_z, bx_cons, bx_nil, eADD, eBP, eC0, eC1, eC3, eCV1, eCV2, eCm1, eDUPr, eGI, eGR, eIAST, jIClt, jICne, eLA0, eLA1, eLI2, eLI3, eMAX, ePI, eRI, eSI2, eSI3, fBk_readLine_0, fBk_readLine_13, fBk_readLine_15, fBk_readLine_24, fBk_readLine_30, fBk_readLine_43, fBk_readLine_45, bBk_readLine_0, bBk_readLine_13, bBk_readLine_15, bBk_readLine_24, bBk_readLine_30, bBk_readLine_43, bBk_readLine_45, Option.toList_some, Option.toList_none, List.cons_append, List.nil_append, List.length_cons, List.length_nil, List.mem_cons, List.not_mem_nil, or_false, false_or, or_true, true_or, ↓reduceIte, true_and, and_true, Nat.reduceEqDiff, Nat.reduceAdd, Nat.reduceLeDiff, Nat.reduceLT, dl_i, dl_r, dl_n, dl_u, eq_self, not_true_eq_false, not_false_eq_true, n10, n01, nm0, n0m, ht, ty_xtape, nx, e2, imp_t, imp_f]
  rw [nIs (by omega) (by omega)]
  refine ⟨fun q => ?_, fun q => ?_⟩
  rotate_left
  · refine call0 (x_fails (k := 3) ?_)
    simp only [ixr_of, run_s, run_0, rBk_readLine, rok_i, rok_z, bx_cons, bx_nil, eADD, eBP, eC0, eC1, eC3, eCV1, eCV2, eCm1, eDUPr, eGI, eGR, eIAST, jIClt, jICne, eLA0, eLA1, eLI2, eLI3, eMAX, ePI, eRI, eSI2, eSI3, fBk_readLine_0, fBk_readLine_13, fBk_readLine_15, fBk_readLine_24, fBk_readLine_30, fBk_readLine_43, fBk_readLine_45, bBk_readLine_0, bBk_readLine_13, bBk_readLine_15, bBk_readLine_24, bBk_readLine_30, bBk_readLine_43, bBk_readLine_45, Option.toList_some, Option.toList_none, List.cons_append, List.nil_append, List.length_cons, List.length_nil, List.mem_cons, List.not_mem_nil, or_false, false_or, or_true, true_or, ↓reduceIte, true_and, and_true, Nat.reduceEqDiff, Nat.reduceAdd, Nat.reduceLeDiff, Nat.reduceLT, dl_i, dl_r, dl_n, dl_u, eq_self, not_true_eq_false, not_false_eq_true, n10, n01, nm0, n0m, imp_t, imp_f]
    exact hk2 (3, sk T n a) _ (by unfold llS; rw [hr]; exact if_pos (by omega)) Fb.tf tf_e
  have hl : llS T n ps.length a = (match nuS T n (nI 0) (nI 7) c with | .error e => .error e | .ok (c', y) => .ok (c', x, y)) := by
    unfold llS
    rw [hr]
    exact if_neg (by omega)
  refine call0 (x_numS (TS.tp (s := sk T n a) h hc) (Or.inl rfl) (by decide) (fun c' y hr2 hp' hp2' _ hc' => ?_) (fun e y hr2 hy => ?_))
  rotate_left
  · simp only [ixr_of, run_s, run_0, rBk_readLine, rok_i, rok_z, bx_cons, bx_nil, eADD, eBP, eC0, eC1, eC3, eCV1, eCV2, eCm1, eDUPr, eGI, eGR, eIAST, jIClt, jICne, eLA0, eLA1, eLI2, eLI3, eMAX, ePI, eRI, eSI2, eSI3, fBk_readLine_0, fBk_readLine_13, fBk_readLine_15, fBk_readLine_24, fBk_readLine_30, fBk_readLine_43, fBk_readLine_45, bBk_readLine_0, bBk_readLine_13, bBk_readLine_15, bBk_readLine_24, bBk_readLine_30, bBk_readLine_43, bBk_readLine_45, Option.toList_some, Option.toList_none, List.cons_append, List.nil_append, List.length_cons, List.length_nil, List.mem_cons, List.not_mem_nil, or_false, false_or, or_true, true_or, ↓reduceIte, true_and, and_true, Nat.reduceEqDiff, Nat.reduceAdd, Nat.reduceLeDiff, Nat.reduceLT, dl_i, dl_r, dl_n, dl_u, eq_self, not_true_eq_false, not_false_eq_true, n10, n01, nm0, n0m, imp_t, imp_f]
    exact hk2 e _ (by rw [hl, hr2]) (Fb.tp.tr Fb.tf) tf_e
  rw [tp_tp]
  have ny := nI_nm (p := y) (by omega)
  have hy7 : y ≤ 7 := (nI_leI (by omega) (by decide)).mp hp2'
  obtain ⟨J0, hJ0⟩ : ∃ J0, J0 = tp I c' (sk T n c) := ⟨_, rfl⟩
  have hX0 : XBk J0 k ps := by rw [hJ0]; exact hX.tp hk3
  rw [← hJ0]
  have a1 : J0 k 2 = nI ps.length := hX0.1
  have a2 : ∀ z, up J0 (k + 1) ps.length z k 2 = nI ps.length := fun z => by rw [up_n (by omega), a1]
  have a3 : ∀ z z', up (up J0 (k + 1) ps.length z) (k + 2) ps.length z' k 2 = nI ps.length := fun z z' => by rw [up_n (by omega), a2]
  have a4 : ∀ z z' z'', up (up (up J0 (k + 1) ps.length z) (k + 2) ps.length z') k 2 z'' k 3 = nI (lsD ps) := fun z z' z'' => by rw [up_n (by omega), up_n (by omega), up_n (by omega)]; exact hX0.2.1
  have hls := lsD_le ps 99 (fun x hx => (hV.2 x hx).2.1)
  simp only [ixr_of, run_s, run_0, rBk_readLine, rok_i, rok_z, bx_cons, bx_nil, eADD, eBP, eC0, eC1, eC3, eCV1, eCV2, eCm1, eDUPr, eGI, eGR, eIAST, jIClt, jICne, eLA0, eLA1, eLI2, eLI3, eMAX, ePI, eRI, eSI2, eSI3, fBk_readLine_0, fBk_readLine_13, fBk_readLine_15, fBk_readLine_24, fBk_readLine_30, fBk_readLine_43, fBk_readLine_45, bBk_readLine_0, bBk_readLine_13, bBk_readLine_15, bBk_readLine_24, bBk_readLine_30, bBk_readLine_43, bBk_readLine_45, Option.toList_some, Option.toList_none, List.cons_append, List.nil_append, List.length_cons, List.length_nil, List.mem_cons, List.not_mem_nil, or_false, false_or, or_true, true_or, ↓reduceIte, true_and, and_true, Nat.reduceEqDiff, Nat.reduceAdd, Nat.reduceLeDiff, Nat.reduceLT, dl_i, dl_r, dl_n, dl_u, eq_self, not_true_eq_false, not_false_eq_true, n10, n01, nm0, n0m, ht, ny, a1, r0, r1, t0, t1, l0, l1, q, a2, a3, nI_add, a4, imp_t, imp_f]
  rw [mxI_n (by omega) (by omega)]
  refine hk1 c' (x, y) _ (by rw [hl, hr2]) ?_ (TS.mvo (I := J0) (by rw [hJ0]; exact TS.tp h hc') ?_ ?_) ⟨?_, ?_, fun i z hz => ?_⟩ ⟨by simp; omega, fun z hz => ?_⟩
  · rw [hJ0]
    exact (((Fb.tp.tr (Fb.up (by omega) hk3)).tr (Fb.up (by omega) hk3)).tr (Fb.up (by omega) hk3)).tr (Fb.up (by omega) hk3)
  · funext y; rw [up_n (by omega), up_n (by omega), up_n (by omega), up_n (by omega)]
  · funext y; rw [up_n (by omega), up_n (by omega), up_n (by omega), up_n (by omega)]
  · rw [up_n (by omega), up_s]
    simp
  · rw [up_s, lsD_a]
  · rw [up_n (i := k) (j := 3) (a := k + 1) (by omega), up_n (i := k) (j := 2) (a := k + 1) (by omega), up_n (i := k + 2) (a := k + 1) (by omega), up_n (i := k) (j := 3) (a := k + 2) (by omega), up_n (i := k) (j := 2) (a := k + 2) (by omega)]
    by_cases hi : i < ps.length
    · rw [List.getElem?_append_left hi] at hz
      rw [up_n (by omega), up_n (by omega), up_n (by omega)]
      exact hX0.2.2 i z hz
    · rw [List.getElem?_append_right (by omega)] at hz
      have h0 : i - ps.length < 1 := (List.getElem?_eq_some_iff.mp hz).1
      have hi' : i = ps.length := by omega
      subst hi'
      rw [Nat.sub_self] at hz
      cases hz
      exact ⟨up_s, up_s⟩
  · rcases List.mem_append.mp hz with hz | hz
    · exact hV.2 z hz
    · rw [List.mem_singleton.mp hz]
      exact ⟨hp1 rfl, hx99, hy7⟩
theorem x_readBook (hA : BkA (shB b) E k) (hk3 : 3 ≤ k) (h : TS T n I 0) (hk1 : ∀ ps K, bkS T n = .ok ps → Fb k I K → K 1 6 = -1 → XBk K k ps → BkV ps → kr (some (.int (nI 1))) K E)
    (hk2 : ∀ e K, bkS T n = .error e → Fb k I K → TEr K e → kr (some (.int (nI 0))) K E) : Ex Γ l (shB b) (d + 4) (0, 0) mBk_read [.ref k, .ref 1] I E kr kx := by
  refine ex_of (ls0 := [some (.ref k), some (.ref 1), none]) tBk_read (by decide +kernel) kBk_read rfl (Nat.le_of_ble_eq_true rfl) rfl ?_
  intro go hgo
  have ht := hA.1
  have hTe : Tx T n := by rw [← h.1.1]; exact xt_Tx
  have loop : ∀ (g : Nat) (a : Nat) (K : Iv) (ps : List (Nat × Nat)) , ps.length + g = 13 → ps.length ≤ 12 → TS T n K a → Fb k I K → XBk K k ps → BkV ps → bkS T n = (match bkL T n g ps.length a with | .error e => .error e | .ok qs => .ok (ps ++ qs)) → go 6 [some (.ref k), some (.ref 1), some (.int (nI ps.length))] [] K E (0, 0) := by
    intro g
    induction g with
    | zero => intro a K ps hg h12 _ _ _ _ _; omega
    | succ g ih =>
      intro a K ps hg h12 hK hF hX hV hv
      have han := hK.1.2.2.2.2.2
      have hs := sk_b (t := T) han
      refine hgo 20 [6] 6 _ _ _ _ _ ?_
      simp only [ixr_of, run_s, run_0, rBk_read, rok_i, rok_z, bx_cons, bx_nil, eBP, eC0, eC1, eCV0, eCV1, eGO, jICgt, jIFeq, jIFne, eINC2, eLA0, eLA1, eLI2, eRI, eSI2, fBk_read_0, fBk_read_6, fBk_read_12, fBk_read_19, fBk_read_21, fBk_read_29, fBk_read_38, fBk_read_40, fBk_read_46, bBk_read_0, bBk_read_6, bBk_read_12, bBk_read_19, bBk_read_21, bBk_read_29, bBk_read_38, bBk_read_40, bBk_read_46, Option.toList_some, Option.toList_none, List.cons_append, List.nil_append, List.length_cons, List.length_nil, List.mem_cons, List.not_mem_nil, or_false, false_or, or_true, true_or, ↓reduceIte, true_and, and_true, Nat.reduceEqDiff, Nat.reduceAdd, Nat.reduceLeDiff, Nat.reduceLT, dl_i, dl_r, dl_n, dl_u, eq_self, not_true_eq_false, not_false_eq_true, n10, n01, nm0, n0m, ty_xtape, imp_t, imp_f]
      rw [nIs (by omega) (by omega)]
      refine ⟨fun q => absurd q (by omega), fun _ => ?_⟩
      refine call0 (x_isEnded hK.1 ?_)
      simp only [ixr_of, run_s, run_0, rBk_read, rok_i, rok_z, bx_cons, bx_nil, eBP, eC0, eC1, eCV0, eCV1, eGO, jICgt, jIFeq, jIFne, eINC2, eLA0, eLA1, eLI2, eRI, eSI2, fBk_read_0, fBk_read_6, fBk_read_12, fBk_read_19, fBk_read_21, fBk_read_29, fBk_read_38, fBk_read_40, fBk_read_46, bBk_read_0, bBk_read_6, bBk_read_12, bBk_read_19, bBk_read_21, bBk_read_29, bBk_read_38, bBk_read_40, bBk_read_46, Option.toList_some, Option.toList_none, List.cons_append, List.nil_append, List.length_cons, List.length_nil, List.mem_cons, List.not_mem_nil, or_false, false_or, or_true, true_or, ↓reduceIte, true_and, and_true, Nat.reduceEqDiff, Nat.reduceAdd, Nat.reduceLeDiff, Nat.reduceLT, dl_i, dl_r, dl_n, dl_u, eq_self, not_true_eq_false, not_false_eq_true, n10, n01, nm0, n0m, imp_t, imp_f]
      unfold bkL at hv
      by_cases hend : n ≤ sk T n a
      · rw [if_pos hend] at hv
        rw [bi_t hend]
        refine ⟨fun q => absurd q n10, fun _ => ?_⟩
        exact hk1 ps _ (by rw [hv]; simp) (hF.tr Fb.tp) (by rw [tp_f (by decide) (by decide)]; exact hK.2) (hX.tp hk3) hV
      rw [if_neg hend, lnS_l] at hv
      rw [bi_f hend]
      refine ⟨fun _ => ?_, fun q => absurd rfl q⟩
      simp only [ixr_of, run_s, run_0, rBk_read, rok_i, rok_z, bx_cons, bx_nil, eBP, eC0, eC1, eCV0, eCV1, eGO, jICgt, jIFeq, jIFne, eINC2, eLA0, eLA1, eLI2, eRI, eSI2, fBk_read_0, fBk_read_6, fBk_read_12, fBk_read_19, fBk_read_21, fBk_read_29, fBk_read_38, fBk_read_40, fBk_read_46, bBk_read_0, bBk_read_6, bBk_read_12, bBk_read_19, bBk_read_21, bBk_read_29, bBk_read_38, bBk_read_40, bBk_read_46, Option.toList_some, Option.toList_none, List.cons_append, List.nil_append, List.length_cons, List.length_nil, List.mem_cons, List.not_mem_nil, or_false, false_or, or_true, true_or, ↓reduceIte, true_and, and_true, Nat.reduceEqDiff, Nat.reduceAdd, Nat.reduceLeDiff, Nat.reduceLT, dl_i, dl_r, dl_n, dl_u, eq_self, not_true_eq_false, not_false_eq_true, n10, n01, nm0, n0m, ht, imp_t, imp_f]
      have hsk : llS T n ps.length (sk T n a) = llS T n ps.length a := by
        unfold llS nuS
        rw [(nm_sk han).1, (nm_sk (lo := nI 1) (hi := nI 99) han).2.1, (nm_sk (lo := nI 1) (hi := nI 99) han).2.2, sk_sk han]
      refine call0 (x_readLine hA hk3 (TS.tp (s := sk T n a) hK hs.2) (hX.tp hk3) hV (fun c x P h1 h2 h3 h4 h5 => ?_) (fun e P h1 h2 h3 => ?_))
      rotate_left
      · rw [hsk] at h1
        rw [h1] at hv
        simp only [ixr_of, run_s, run_0, rBk_read, rok_i, rok_z, bx_cons, bx_nil, eBP, eC0, eC1, eCV0, eCV1, eGO, jICgt, jIFeq, jIFne, eINC2, eLA0, eLA1, eLI2, eRI, eSI2, fBk_read_0, fBk_read_6, fBk_read_12, fBk_read_19, fBk_read_21, fBk_read_29, fBk_read_38, fBk_read_40, fBk_read_46, bBk_read_0, bBk_read_6, bBk_read_12, bBk_read_19, bBk_read_21, bBk_read_29, bBk_read_38, bBk_read_40, bBk_read_46, Option.toList_some, Option.toList_none, List.cons_append, List.nil_append, List.length_cons, List.length_nil, List.mem_cons, List.not_mem_nil, or_false, false_or, or_true, true_or, ↓reduceIte, true_and, and_true, Nat.reduceEqDiff, Nat.reduceAdd, Nat.reduceLeDiff, Nat.reduceLT, dl_i, dl_r, dl_n, dl_u, eq_self, not_true_eq_false, not_false_eq_true, n10, n01, nm0, n0m, imp_t, imp_f]
        exact hk2 e P hv ((hF.tr Fb.tp).tr h2) h3
      rw [hsk] at h1
      rw [h1] at hv
      have hcn := h3.1.2.2.2.2.2
      have hne : ps.length ≠ 12 := fun e => by
        unfold llS at h1
        cases hnu : nuS T n (nI 1) (nI 99) a with
        | error e' => rw [hnu] at h1; cases h1
        | ok z =>
          rw [hnu] at h1
          simp only [if_pos e] at h1
          cases h1
      simp only [ixr_of, run_s, run_0, rBk_read, rok_i, rok_z, bx_cons, bx_nil, eBP, eC0, eC1, eCV0, eCV1, eGO, jICgt, jIFeq, jIFne, eINC2, eLA0, eLA1, eLI2, eRI, eSI2, fBk_read_0, fBk_read_6, fBk_read_12, fBk_read_19, fBk_read_21, fBk_read_29, fBk_read_38, fBk_read_40, fBk_read_46, bBk_read_0, bBk_read_6, bBk_read_12, bBk_read_19, bBk_read_21, bBk_read_29, bBk_read_38, bBk_read_40, bBk_read_46, Option.toList_some, Option.toList_none, List.cons_append, List.nil_append, List.length_cons, List.length_nil, List.mem_cons, List.not_mem_nil, or_false, false_or, or_true, true_or, ↓reduceIte, true_and, and_true, Nat.reduceEqDiff, Nat.reduceAdd, Nat.reduceLeDiff, Nat.reduceLT, dl_i, dl_r, dl_n, dl_u, eq_self, not_true_eq_false, not_false_eq_true, n10, n01, nm0, n0m, ty_xtape, imp_t, imp_f]
      have hsc := sk_b (t := T) hcn
      refine call0 (x_needSign (c := 59) h3.1 (by decide) (fun q => ?_) (fun q => ?_))
      · have hlt : sk T n c < n := hTe.lt (by decide) q
        simp only [ixr_of, run_s, run_0, rBk_read, rok_i, rok_z, bx_cons, bx_nil, eBP, eC0, eC1, eCV0, eCV1, eGO, jICgt, jIFeq, jIFne, eINC2, eLA0, eLA1, eLI2, eRI, eSI2, fBk_read_0, fBk_read_6, fBk_read_12, fBk_read_19, fBk_read_21, fBk_read_29, fBk_read_38, fBk_read_40, fBk_read_46, bBk_read_0, bBk_read_6, bBk_read_12, bBk_read_19, bBk_read_21, bBk_read_29, bBk_read_38, bBk_read_40, bBk_read_46, Option.toList_some, Option.toList_none, List.cons_append, List.nil_append, List.length_cons, List.length_nil, List.mem_cons, List.not_mem_nil, or_false, false_or, or_true, true_or, ↓reduceIte, true_and, and_true, Nat.reduceEqDiff, Nat.reduceAdd, Nat.reduceLeDiff, Nat.reduceLT, dl_i, dl_r, dl_n, dl_u, eq_self, not_true_eq_false, not_false_eq_true, n10, n01, nm0, n0m, imp_t, imp_f]
        rw [nI_add]
        have := ih (sk T n c + 1) _ (ps ++ [x]) (by simp; omega) (by simp; omega) (TS.tp (s := sk T n c) h3 (by omega)) (((hF.tr Fb.tp).tr h2).tr Fb.tp) (h4.tp hk3) h5 ?_
        · simpa using this
        · rw [hv]
          simp only [sgS, if_pos q]
          rw [List.length_append, List.length_singleton]
          cases bkL T n g (ps.length + 1) (sk T n c + 1) with
          | error e => rfl
          | ok qs => simp
      · simp only [ixr_of, run_s, run_0, rBk_read, rok_i, rok_z, bx_cons, bx_nil, eBP, eC0, eC1, eCV0, eCV1, eGO, jICgt, jIFeq, jIFne, eINC2, eLA0, eLA1, eLI2, eRI, eSI2, fBk_read_0, fBk_read_6, fBk_read_12, fBk_read_19, fBk_read_21, fBk_read_29, fBk_read_38, fBk_read_40, fBk_read_46, bBk_read_0, bBk_read_6, bBk_read_12, bBk_read_19, bBk_read_21, bBk_read_29, bBk_read_38, bBk_read_40, bBk_read_46, Option.toList_some, Option.toList_none, List.cons_append, List.nil_append, List.length_cons, List.length_nil, List.mem_cons, List.not_mem_nil, or_false, false_or, or_true, true_or, ↓reduceIte, true_and, and_true, Nat.reduceEqDiff, Nat.reduceAdd, Nat.reduceLeDiff, Nat.reduceLT, dl_i, dl_r, dl_n, dl_u, eq_self, not_true_eq_false, not_false_eq_true, n10, n01, nm0, n0m, imp_t, imp_f]
        refine hk2 (1, sk T n c) _ ?_ (((hF.tr Fb.tp).tr h2).tr Fb.tf) tf_e
        rw [hv]
        simp only [sgS, if_neg q]
  refine hgo 20 [6] 0 _ _ _ _ _ ?_
  simp only [ixr_of, run_s, run_0, rBk_read, rok_i, rok_z, bx_cons, bx_nil, eBP, eC0, eC1, eCV0, eCV1, eGO, jICgt, jIFeq, jIFne, eINC2, eLA0, eLA1, eLI2, eRI, eSI2, fBk_read_0, fBk_read_6, fBk_read_12, fBk_read_19, fBk_read_21, fBk_read_29, fBk_read_38, fBk_read_40, fBk_read_46, bBk_read_0, bBk_read_6, bBk_read_12, bBk_read_19, bBk_read_21, bBk_read_29, bBk_read_38, bBk_read_40, bBk_read_46, Option.toList_some, Option.toList_none, List.cons_append, List.nil_append, List.length_cons, List.length_nil, List.mem_cons, List.not_mem_nil, or_false, false_or, or_true, true_or, ↓reduceIte, true_and, and_true, Nat.reduceEqDiff, Nat.reduceAdd, Nat.reduceLeDiff, Nat.reduceLT, dl_i, dl_r, dl_n, dl_u, eq_self, not_true_eq_false, not_false_eq_true, n10, n01, nm0, n0m, ht, imp_t, imp_f]
  refine call0 (x_bclear hA ?_)
  simp only [ixr_of, run_s, run_0, rBk_read, rok_i, rok_z, bx_cons, bx_nil, eBP, eC0, eC1, eCV0, eCV1, eGO, jICgt, jIFeq, jIFne, eINC2, eLA0, eLA1, eLI2, eRI, eSI2, fBk_read_0, fBk_read_6, fBk_read_12, fBk_read_19, fBk_read_21, fBk_read_29, fBk_read_38, fBk_read_40, fBk_read_46, bBk_read_0, bBk_read_6, bBk_read_12, bBk_read_19, bBk_read_21, bBk_read_29, bBk_read_38, bBk_read_40, bBk_read_46, Option.toList_some, Option.toList_none, List.cons_append, List.nil_append, List.length_cons, List.length_nil, List.mem_cons, List.not_mem_nil, or_false, false_or, or_true, true_or, ↓reduceIte, true_and, and_true, Nat.reduceEqDiff, Nat.reduceAdd, Nat.reduceLeDiff, Nat.reduceLT, dl_i, dl_r, dl_n, dl_u, eq_self, not_true_eq_false, not_false_eq_true, n10, n01, nm0, n0m, imp_t, imp_f]
  refine loop 13 0 _ [] rfl (by decide) (h.mvo ?_ ?_) ((Fb.up (by omega) hk3).tr (Fb.up (by omega) hk3)) ⟨?_, up_s, fun i x hx => by simp at hx⟩ ⟨by decide, fun x hx => by cases hx⟩ ?_
  · funext y; rw [up_n (by omega), up_n (by omega)]
  · funext y; rw [up_n (by omega), up_n (by omega)]
  · rw [up_n (by omega), up_s]; rfl
  · show bkL T n 13 0 0 = _
    cases h : bkL T n 13 ([] : List (Nat × Nat)).length 0 with
    | error e => rfl
    | ok qs => rfl
/-- the first line that is not so -/
def fwF (ps : List (Nat × Nat)) (dy vw : Nat) : Nat → Nat → Nat
  | 0, i => i
  | g + 1, i => match ps[i]? with
    | none => i
    | some x => if x.1 = dy ∧ ¬ x.2 = vw then i else fwF ps dy vw g (i + 1)
theorem fwF_s {dy vw : Nat} : ∀ (g i : Nat), g + i = ps.length → i ≤ fwF ps dy vw g i ∧ fwF ps dy vw g i ≤ ps.length ∧ (∀ j x, i ≤ j → j < fwF ps dy vw g i → ps[j]? = some x → ¬ (x.1 = dy ∧ ¬ x.2 = vw)) ∧ (fwF ps dy vw g i < ps.length → ∃ x, ps[fwF ps dy vw g i]? = some x ∧ x.1 = dy ∧ ¬ x.2 = vw)
  | 0, i, h => by
    simp only [fwF]
    exact ⟨Nat.le_refl _, by omega, fun j x h1 h2 => by omega, fun h2 => by omega⟩
  | g + 1, i, h => by
    have hi : i < ps.length := by omega
    have ih := fwF_s (dy := dy) (vw := vw) g (i + 1) (by omega)
    unfold fwF
    rw [List.getElem?_eq_getElem hi]
    by_cases c : (ps[i]).1 = dy ∧ ¬ (ps[i]).2 = vw
    · simp only [if_pos c]
      exact ⟨Nat.le_refl _, by omega, fun j x h1 h2 => by omega, fun _ => ⟨ps[i], List.getElem?_eq_getElem hi, c⟩⟩
    · simp only [if_neg c]
      refine ⟨by omega, ih.2.1, fun j x h1 h2 hx => ?_, ih.2.2.2⟩
      by_cases e : j = i
      · subst e
        rw [List.getElem?_eq_getElem hi] at hx
        cases hx
        exact c
      · exact ih.2.2.1 j x (by omega) h2 hx
theorem x_firstWrong {sh : Sh} {dy vw : Nat} (hA : BkA sh E k) (hX : XBk I k ps) (hV : BkV ps) (hd : dy < 1000) (hv : vw < 8) (h : kr (some (.int (nI (fwF ps dy vw ps.length 0)))) I E) : Ex Γ l sh (d + 1) (0, 0) mBk_firstWrong [.ref k, .int (nI dy), .int (nI vw)] I E kr kx := by
  refine ex_of (ls0 := [some (.ref k), some (.int (nI dy)), some (.int (nI vw)), none]) tBk_firstWrong (by decide +kernel) kBk_firstWrong rfl (Nat.le_of_ble_eq_true rfl) rfl ?_
  intro go hgo
  obtain ⟨ht, r0, r1, t0, t1, l0, l1⟩ := hA
  have h12 := hV.1
  have e2 : I k 2 = nI ps.length := hX.1
  obtain ⟨F0, hF0⟩ : ∃ F0, F0 = fwF ps dy vw ps.length 0 := ⟨_, rfl⟩
  rw [← hF0] at h
  have loop : ∀ (g i : Nat), g + i = ps.length → fwF ps dy vw g i = F0 → go 2 [some (.ref k), some (.int (nI dy)), some (.int (nI vw)), some (.int (nI i))] [] I E (0, 0) := by
    intro g
    induction g with
    | zero =>
      intro i hi hf
      have : i = ps.length := by omega
      subst this
      refine hgo 20 [2] 2 _ _ _ _ _ ?_
      simp only [ixr_of, run_s, run_0, rBk_firstWrong, rok_i, rok_z, bx_cons, bx_nil, eC0, eGI, eGO, eGR, eIALD, jICeq, jICge, jICne, eINC3, eLA0, eLI1, eLI2, eLI3, eRI, eSI3, fBk_firstWrong_0, fBk_firstWrong_2, fBk_firstWrong_10, fBk_firstWrong_20, fBk_firstWrong_30, fBk_firstWrong_32, fBk_firstWrong_38, bBk_firstWrong_0, bBk_firstWrong_2, bBk_firstWrong_10, bBk_firstWrong_20, bBk_firstWrong_30, bBk_firstWrong_32, bBk_firstWrong_38, Option.toList_some, Option.toList_none, List.cons_append, List.nil_append, List.length_cons, List.length_nil, List.mem_cons, List.not_mem_nil, or_false, false_or, or_true, true_or, ↓reduceIte, true_and, and_true, Nat.reduceEqDiff, Nat.reduceAdd, Nat.reduceLeDiff, Nat.reduceLT, dl_i, dl_r, dl_n, dl_u, eq_self, not_true_eq_false, not_false_eq_true, n10, n01, nm0, n0m, ht, e2, imp_t, imp_f]
      refine ⟨fun _ => ?_, fun q => absurd (Int32.le_refl _) q⟩
      rw [← hf] at h
      exact h
    | succ g ih =>
      intro i hi hf
      have hil : i < ps.length := by omega
      have i12 : i < 12 := by omega
      obtain ⟨a1, a2⟩ := hX.2.2 i (ps[i]) (List.getElem?_eq_getElem hil)
      obtain ⟨b1, b2, b3⟩ := hV.2 (ps[i]) (List.getElem_mem hil)
      unfold fwF at hf
      rw [List.getElem?_eq_getElem hil] at hf
      refine hgo 20 [2] 2 _ _ _ _ _ ?_
      simp only [ixr_of, run_s, run_0, rBk_firstWrong, rok_i, rok_z, bx_cons, bx_nil, eC0, eGI, eGO, eGR, eIALD, jICeq, jICge, jICne, eINC3, eLA0, eLI1, eLI2, eLI3, eRI, eSI3, fBk_firstWrong_0, fBk_firstWrong_2, fBk_firstWrong_10, fBk_firstWrong_20, fBk_firstWrong_30, fBk_firstWrong_32, fBk_firstWrong_38, bBk_firstWrong_0, bBk_firstWrong_2, bBk_firstWrong_10, bBk_firstWrong_20, bBk_firstWrong_30, bBk_firstWrong_32, bBk_firstWrong_38, Option.toList_some, Option.toList_none, List.cons_append, List.nil_append, List.length_cons, List.length_nil, List.mem_cons, List.not_mem_nil, or_false, false_or, or_true, true_or, ↓reduceIte, true_and, and_true, Nat.reduceEqDiff, Nat.reduceAdd, Nat.reduceLeDiff, Nat.reduceLT, dl_i, dl_r, dl_n, dl_u, eq_self, not_true_eq_false, not_false_eq_true, n10, n01, nm0, n0m, ht, e2, r0, r1, t0, t1, l0, l1, i12, a1, a2, imp_t, imp_f]
      rw [nIl (by omega) (by omega), nIe (by omega) (by omega), nIe (by omega) (by omega)]
      refine ⟨fun q => absurd q (by omega), fun _ => ⟨fun q => ?_, fun q => ⟨fun q2 => ?_, fun q2 => ?_⟩⟩⟩
      · simp only [if_neg (show ¬ ((ps[i]).1 = dy ∧ ¬ (ps[i]).2 = vw) from fun z => q z.1)] at hf
        rw [nI_add]
        exact ih (i + 1) (by omega) hf
      · simp only [if_neg (show ¬ ((ps[i]).1 = dy ∧ ¬ (ps[i]).2 = vw) from fun z => z.2 q2)] at hf
        rw [nI_add]
        exact ih (i + 1) (by omega) hf
      · simp only [if_pos (show (ps[i]).1 = dy ∧ ¬ (ps[i]).2 = vw from ⟨q, q2⟩)] at hf
        rw [← hf] at h
        exact h
  refine hgo 20 [2] 0 _ _ _ _ _ ?_
  simp only [ixr_of, run_s, run_0, rBk_firstWrong, rok_i, rok_z, bx_cons, bx_nil, eC0, eGI, eGO, eGR, eIALD, jICeq, jICge, jICne, eINC3, eLA0, eLI1, eLI2, eLI3, eRI, eSI3, fBk_firstWrong_0, fBk_firstWrong_2, fBk_firstWrong_10, fBk_firstWrong_20, fBk_firstWrong_30, fBk_firstWrong_32, fBk_firstWrong_38, bBk_firstWrong_0, bBk_firstWrong_2, bBk_firstWrong_10, bBk_firstWrong_20, bBk_firstWrong_30, bBk_firstWrong_32, bBk_firstWrong_38, Option.toList_some, Option.toList_none, List.cons_append, List.nil_append, List.length_cons, List.length_nil, List.mem_cons, List.not_mem_nil, or_false, false_or, or_true, true_or, ↓reduceIte, true_and, and_true, Nat.reduceEqDiff, Nat.reduceAdd, Nat.reduceLeDiff, Nat.reduceLT, dl_i, dl_r, dl_n, dl_u, eq_self, not_true_eq_false, not_false_eq_true, n10, n01, nm0, n0m, imp_t, imp_f]
  exact loop _ 0 (by omega) hF0.symm
end XBkR
