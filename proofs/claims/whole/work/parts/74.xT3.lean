/-! contracts of the class, 5: the tape: words taken; bytes fed -/
/-- the words are known, and apart -/
def GX (Γ : Gm) : Prop := GW Γ ∧ ∀ i j, i < 20 → j < 20 → wad Γ i = wad Γ j → i = j
section XT3
variable {Γ : Gm} {l : Launch} {b : Bool} {d : Nat} {I : Iv} {E : Ev} {kr : Kr} {kx : Kxx} {T : Nat → Int32} {n a : Nat}
theorem x_takes {v : Nat} (hG : GX Γ) (h : TSt T n I a) (hv : v < 19) (hy : wcode T n (sk T n a) = wcd v → kr (some (.int (nI 1))) (tp I (wEnd T n (sk T n a)) (sk T n a)) E)
    (hn' : ¬ wcode T n (sk T n a) = wcd v → kr (some (.int (nI 0))) (tp I (sk T n a) (sk T n a)) E) : Ex Γ l (shB b) (d + 7) (0, 0) mTp_takes [.ref 1, .ref (wrf Γ v)] I E kr kx := by
  refine ex_of (ls0 := [some (.ref 1), some (.ref (wrf Γ v))]) tTp_takes (by decide +kernel) kTp_takes rfl (Nat.le_of_ble_eq_true rfl) rfl ?_
  intro go hgo
  refine hgo 20 [] 0 _ _ _ _ _ ?_
  simp only [ixr_of, run_s, run_0, rTp_takes, rok_i, rok_z, bx_cons, bx_nil, eACne, eC0, eC1, eCV0, eGI, eLA0, eLA1, ePI, eRI, fTp_takes_0, fTp_takes_8, fTp_takes_10, bTp_takes_0, bTp_takes_8, bTp_takes_10, ln_xtape_bytes, rg_xtape_0, ty_xtape, ty_xtape_bytes, Option.toList_some, Option.toList_none, List.cons_append, List.nil_append, List.length_cons, List.length_nil, List.mem_cons, List.not_mem_nil, or_false, false_or, or_true, true_or, ↓reduceIte, true_and, and_true, Nat.reduceEqDiff, Nat.reduceAdd, Nat.reduceLeDiff, Nat.reduceLT, dl_i, dl_r, dl_n, dl_u, eq_self, not_true_eq_false, not_false_eq_true, n10, n01, nm0, n0m, imp_t, imp_f]
  refine call0 (x_nextWord hG.1 h (fun w hw => ?_))
  simp only [ixr_of, run_s, run_0, rTp_takes, rok_i, rok_z, bx_cons, bx_nil, eACne, eC0, eC1, eCV0, eGI, eLA0, eLA1, ePI, eRI, fTp_takes_0, fTp_takes_8, fTp_takes_10, bTp_takes_0, bTp_takes_8, bTp_takes_10, ln_xtape_bytes, rg_xtape_0, ty_xtape, ty_xtape_bytes, Option.toList_some, Option.toList_none, List.cons_append, List.nil_append, List.length_cons, List.length_nil, List.mem_cons, List.not_mem_nil, or_false, false_or, or_true, true_or, ↓reduceIte, true_and, and_true, Nat.reduceEqDiff, Nat.reduceAdd, Nat.reduceLeDiff, Nat.reduceLT, dl_i, dl_r, dl_n, dl_u, eq_self, not_true_eq_false, not_false_eq_true, n10, n01, nm0, n0m, tp_4, imp_t, imp_f]
  refine ⟨wad Γ w, wad Γ v, rfl, rfl, fun q => ?_, fun q => ?_⟩
  · rw [tp_up3]
    refine hn' (fun e => ?_)
    have := (hw.2 v hv).mp e
    exact q (by rw [this])
  · refine hy ((hw.2 v hv).mpr ?_)
    exact hG.2 v w (by omega) hw.1 q.symm
theorem x_nextHerb (hG : GX Γ) (h : TSt T n I a) (hy : ∀ w, w < 3 → hbW (wcode T n (sk T n a)) = w → kr (some (.int (nI w))) (tp I (wEnd T n (sk T n a)) (sk T n a)) E)
    (hn' : ¬ hbW (wcode T n (sk T n a)) < 3 → ∀ x, x ≤ n → kr (some (.int (-1))) (tf I x (sk T n a) 1) E) : Ex Γ l (shB b) (d + 7) (0, 0) mTp_nextHerb [.ref 1] I E kr kx := by
  refine ex_of (ls0 := [some (.ref 1), none]) tTp_nextHerb (by decide +kernel) kTp_nextHerb rfl (Nat.le_of_ble_eq_true rfl) rfl ?_
  intro go hgo
  have hs := sk_b (t := T) h.2.2.2.2.2
  have hwe := rn_b (t := T) (lo := nI 97) (hi := nI 122) hs.2
  refine hgo 20 [] 0 _ _ _ _ _ ?_
  simp only [ixr_of, run_s, run_0, rTp_nextHerb, rok_i, rok_z, bx_cons, bx_nil, eC1, eCV0, eCV1, eCW0, eCm1, eGW, jIFne, eLA0, eLA1, ePOPi, eRI, eSA1, fTp_nextHerb_0, fTp_nextHerb_12, fTp_nextHerb_20, bTp_nextHerb_0, bTp_nextHerb_12, bTp_nextHerb_20, ln_xtape_bytes, rg_xtape_0, ty_xtape, ty_xtape_bytes, Option.toList_some, Option.toList_none, List.cons_append, List.nil_append, List.length_cons, List.length_nil, List.mem_cons, List.not_mem_nil, or_false, false_or, or_true, true_or, ↓reduceIte, true_and, and_true, Nat.reduceEqDiff, Nat.reduceAdd, Nat.reduceLeDiff, Nat.reduceLT, dl_i, dl_r, dl_n, dl_u, eq_self, not_true_eq_false, not_false_eq_true, n10, n01, nm0, n0m, wfv0, wfv1, wfv2, imp_t, imp_f]
  refine call0 (x_nextWord hG.1 h (fun w hw => ?_))
  simp only [ixr_of, run_s, run_0, rTp_nextHerb, rok_i, rok_z, bx_cons, bx_nil, eC1, eCV0, eCV1, eCW0, eCm1, eGW, jIFne, eLA0, eLA1, ePOPi, eRI, eSA1, fTp_nextHerb_0, fTp_nextHerb_12, fTp_nextHerb_20, bTp_nextHerb_0, bTp_nextHerb_12, bTp_nextHerb_20, ln_xtape_bytes, rg_xtape_0, ty_xtape, ty_xtape_bytes, Option.toList_some, Option.toList_none, List.cons_append, List.nil_append, List.length_cons, List.length_nil, List.mem_cons, List.not_mem_nil, or_false, false_or, or_true, true_or, ↓reduceIte, true_and, and_true, Nat.reduceEqDiff, Nat.reduceAdd, Nat.reduceLeDiff, Nat.reduceLT, dl_i, dl_r, dl_n, dl_u, eq_self, not_true_eq_false, not_false_eq_true, n10, n01, nm0, n0m, wfv0, wfv1, wfv2, imp_t, imp_f]
  have hh := hw.f.2.1
  refine ⟨hG.1, ⟨w, hw.1, rfl⟩, ?_⟩
  refine call0 (x_isHerb hG.1 hw.1 ?_)
  simp only [ixr_of, run_s, run_0, rTp_nextHerb, rok_i, rok_z, bx_cons, bx_nil, eC1, eCV0, eCV1, eCW0, eCm1, eGW, jIFne, eLA0, eLA1, ePOPi, eRI, eSA1, fTp_nextHerb_0, fTp_nextHerb_12, fTp_nextHerb_20, bTp_nextHerb_0, bTp_nextHerb_12, bTp_nextHerb_20, ln_xtape_bytes, rg_xtape_0, ty_xtape, ty_xtape_bytes, Option.toList_some, Option.toList_none, List.cons_append, List.nil_append, List.length_cons, List.length_nil, List.mem_cons, List.not_mem_nil, or_false, false_or, or_true, true_or, ↓reduceIte, true_and, and_true, Nat.reduceEqDiff, Nat.reduceAdd, Nat.reduceLeDiff, Nat.reduceLT, dl_i, dl_r, dl_n, dl_u, eq_self, not_true_eq_false, not_false_eq_true, n10, n01, nm0, n0m, wfv0, wfv1, wfv2, imp_t, imp_f]
  by_cases h3 : w < 3
  · rw [bi_t h3]
    rw [if_pos h3] at hh
    refine ⟨fun _ => ⟨hG.1, w, hw.1, rfl, ?_⟩, fun q => absurd q n10⟩
    rw [show wak w = nI w from if_pos (by omega)]
    exact hy w h3 hh
  · rw [bi_f h3]
    rw [if_neg h3] at hh
    refine ⟨fun q => absurd rfl q, fun _ => ?_⟩
    refine call0 (x_fails (k := 1) ?_)
    simp only [ixr_of, run_s, run_0, rTp_nextHerb, rok_i, rok_z, bx_cons, bx_nil, eC1, eCV0, eCV1, eCW0, eCm1, eGW, jIFne, eLA0, eLA1, ePOPi, eRI, eSA1, fTp_nextHerb_0, fTp_nextHerb_12, fTp_nextHerb_20, bTp_nextHerb_0, bTp_nextHerb_12, bTp_nextHerb_20, ln_xtape_bytes, rg_xtape_0, ty_xtape, ty_xtape_bytes, Option.toList_some, Option.toList_none, List.cons_append, List.nil_append, List.length_cons, List.length_nil, List.mem_cons, List.not_mem_nil, or_false, false_or, or_true, true_or, ↓reduceIte, true_and, and_true, Nat.reduceEqDiff, Nat.reduceAdd, Nat.reduceLeDiff, Nat.reduceLT, dl_i, dl_r, dl_n, dl_u, eq_self, not_true_eq_false, not_false_eq_true, n10, n01, nm0, n0m, wfv0, wfv1, wfv2, imp_t, imp_f]
    exact hn' (by rw [hh]; decide) _ hwe.2
theorem x_close (hk : kr none (up I 1 1 (nI 0)) E) : Ex Γ l (shB b) (d + 1) (0, 0) mTp_close [.ref 1] I E kr kx := by
  refine ex_of (ls0 := [some (.ref 1)]) tTp_close (by decide +kernel) kTp_close rfl (Nat.le_of_ble_eq_true rfl) rfl ?_
  intro go hgo
  refine hgo 20 [] 0 _ _ _ _ _ ?_
  simp only [ixr_of, run_s, run_0, rTp_close, rok_i, rok_z, bx_cons, bx_nil, eC0, eLA0, ePI, eRV, fTp_close_0, bTp_close_0, ln_xtape_bytes, rg_xtape_0, ty_xtape, ty_xtape_bytes, Option.toList_some, Option.toList_none, List.cons_append, List.nil_append, List.length_cons, List.length_nil, List.mem_cons, List.not_mem_nil, or_false, false_or, or_true, true_or, ↓reduceIte, true_and, and_true, Nat.reduceEqDiff, Nat.reduceAdd, Nat.reduceLeDiff, Nat.reduceLT, dl_i, dl_r, dl_n, dl_u, eq_self, not_true_eq_false, not_false_eq_true, n10, n01, nm0, n0m, imp_t, imp_f]
  exact hk
/-- the tape's reader at a text's beginning -/
def op0 (I : Iv) (n : Nat) : Iv := up (up (up (up (up I 1 2 (nI n)) 1 3 (nI 0)) 1 4 (nI 0)) 1 5 (nI 0)) 1 6 (-1)
theorem op0_o {i : Nat} (h : i ≠ 1) : op0 I n i = I i := by
  funext j
  unfold op0
  rw [up_n (by omega), up_n (by omega), up_n (by omega), up_n (by omega), up_n (by omega)]
theorem op0_0 : op0 I n 1 0 = I 1 0 ∧ op0 I n 1 1 = I 1 1 ∧ op0 I n 1 2 = nI n ∧ op0 I n 1 3 = nI 0 ∧ op0 I n 1 5 = nI 0 ∧ op0 I n 1 6 = -1 := by
  unfold op0
  refine ⟨?_, ?_, ?_, ?_, ?_, up_s⟩
  · rw [up_n (by omega), up_n (by omega), up_n (by omega), up_n (by omega), up_n (by omega)]
  · rw [up_n (by omega), up_n (by omega), up_n (by omega), up_n (by omega), up_n (by omega)]
  · rw [up_n (by omega), up_n (by omega), up_n (by omega), up_n (by omega), up_s]
  · rw [up_n (by omega), up_n (by omega), up_n (by omega), up_s]
  · rw [up_n (by omega), up_s]
theorem x_open {f : Nat} (hf : I 1 1 = nI f) (hf6 : f ≤ 600) (hn : n ≤ f) (hk : kr none (op0 I n) E) : Ex Γ l (shB b) (d + 1) (0, 0) mTp_open [.ref 1, .int (nI n)] I E kr kx := by
  refine ex_of (ls0 := [some (.ref 1), some (.int (nI n))]) tTp_open (by decide +kernel) kTp_open rfl (Nat.le_of_ble_eq_true rfl) rfl ?_
  intro go hgo
  refine hgo 20 [] 0 _ _ _ _ _ ?_
  simp only [ixr_of, run_s, run_0, rTp_open, rok_i, rok_z, bx_cons, bx_nil, eC0, eCm1, eGI, eLA0, eLI1, eMIN, ePI, eRV, fTp_open_0, bTp_open_0, ln_xtape_bytes, rg_xtape_0, ty_xtape, ty_xtape_bytes, Option.toList_some, Option.toList_none, List.cons_append, List.nil_append, List.length_cons, List.length_nil, List.mem_cons, List.not_mem_nil, or_false, false_or, or_true, true_or, ↓reduceIte, true_and, and_true, Nat.reduceEqDiff, Nat.reduceAdd, Nat.reduceLeDiff, Nat.reduceLT, dl_i, dl_r, dl_n, dl_u, eq_self, not_true_eq_false, not_false_eq_true, n10, n01, nm0, n0m, hf, imp_t, imp_f]
  rw [miI_n (by omega) (by omega), show min n f = n by omega]
  exact hk
theorem op0_t (hB : By I) (hn : n ≤ 600) : TSt (xt I n) n (op0 I n) 0 := ⟨xt_2 (op0_o (by decide)), fun k hk => by rw [op0_o (by decide)]; exact hB k hk, op0_0.2.2.1, hn, op0_0.2.2.2.1, Nat.zero_le _⟩
/-- four bytes of x behind f -/
def apB (x : Int32) (i : Nat) : Int32 := (x >>> ((nI 24 - nI 8 * nI i) &&& 31)).toInt8.toInt32
def apR (r : Nat → Int32) (f : Nat) (x : Int32) (m : Nat) : Nat → Int32 := fun k => if f ≤ k ∧ k < f + m then apB x (k - f) else r k
theorem x_append {f : Nat} {x : Int32} (hf : I 1 1 = nI f) (hf6 : f + 4 ≤ 600) (hk : kr none (up (sr I 2 (apR (I 2) f x 4)) 1 1 (nI (f + 4))) E) : Ex Γ l (shB b) (d + 1) (0, 0) mTp_append [.ref 1, .int x] I E kr kx := by
  refine ex_of (ls0 := [some (.ref 1), some (.int x), none]) tTp_append (by decide +kernel) kTp_append rfl (Nat.le_of_ble_eq_true rfl) rfl ?_
  intro go hgo
  have loop : ∀ (g m : Nat), g + m = 4 → go 3 [some (.ref 1), some (.int x), some (.int (nI 24 - nI 8 * nI m))] [] (up (sr I 2 (apR (I 2) f x m)) 1 1 (nI (f + m))) E (0, 0) := by
    intro g
    induction g with
    | zero =>
      intro m hm
      have : m = 4 := by omega
      subst this
      refine hgo 20 [3] 3 _ _ _ _ _ ?_
      simp only [ixr_of, run_s, run_0, rTp_append, rok_i, rok_z, bx_cons, bx_nil, eADD, eBAST, eBP, eC1, eDEC2, eDUPr, eGI, eGO, eGR, eI2B, jICge, jIFlt, eLA0, eLI1, eLI2, ePI, eRV, eSHR, eSI2, eSP, fTp_append_0, fTp_append_3, fTp_append_7, fTp_append_17, fTp_append_46, bTp_append_0, bTp_append_3, bTp_append_7, bTp_append_17, bTp_append_46, ln_xtape_bytes, rg_xtape_0, ty_xtape, ty_xtape_bytes, Option.toList_some, Option.toList_none, List.cons_append, List.nil_append, List.length_cons, List.length_nil, List.mem_cons, List.not_mem_nil, or_false, false_or, or_true, true_or, ↓reduceIte, true_and, and_true, Nat.reduceEqDiff, Nat.reduceAdd, Nat.reduceLeDiff, Nat.reduceLT, dl_i, dl_r, dl_n, dl_u, eq_self, not_true_eq_false, not_false_eq_true, n10, n01, nm0, n0m, imp_t, imp_f]
      refine ⟨fun _ => hk, fun q => absurd (by decide) q⟩
    | succ g ih =>
      intro m hm
      have ix : f + m < 600 := by omega
      have e1 : up (sr I 2 (apR (I 2) f x m)) 1 1 (nI (f + m)) 1 1 = nI (f + m) := up_s
      have e2 : ∀ z, up (up (sr I 2 (apR (I 2) f x m)) 1 1 (nI (f + m))) 2 (f + m) z 1 1 = nI (f + m) := fun z => by rw [up_n (by omega), up_s]
      refine hgo 20 [3] 3 _ _ _ _ _ ?_
      simp only [ixr_of, run_s, run_0, rTp_append, rok_i, rok_z, bx_cons, bx_nil, eADD, eBAST, eBP, eC1, eDEC2, eDUPr, eGI, eGO, eGR, eI2B, jICge, jIFlt, eLA0, eLI1, eLI2, ePI, eRV, eSHR, eSI2, eSP, fTp_append_0, fTp_append_3, fTp_append_7, fTp_append_17, fTp_append_46, bTp_append_0, bTp_append_3, bTp_append_7, bTp_append_17, bTp_append_46, ln_xtape_bytes, rg_xtape_0, ty_xtape, ty_xtape_bytes, Option.toList_some, Option.toList_none, List.cons_append, List.nil_append, List.length_cons, List.length_nil, List.mem_cons, List.not_mem_nil, or_false, false_or, or_true, true_or, ↓reduceIte, true_and, and_true, Nat.reduceEqDiff, Nat.reduceAdd, Nat.reduceLeDiff, Nat.reduceLT, dl_i, dl_r, dl_n, dl_u, eq_self, not_true_eq_false, not_false_eq_true, n10, n01, nm0, n0m, e1, ix, e2, imp_t, imp_f]
      have hm4 : ¬ nI 24 - nI 8 * nI m < nI 0 := by
        have : ∀ m, m < 4 → ¬ nI 24 - nI 8 * nI m < nI 0 := by decide +kernel
        exact this m (by omega)
      refine ⟨fun q => absurd q hm4, fun _ => ⟨fun q => absurd q (by rw [nIl (by omega) (by omega)]; omega), fun _ => ⟨?_, ?_⟩⟩⟩
      · simp
      · rw [nI_add]
        have := ih (m + 1) (by omega)
        rw [show nI 24 - nI 8 * nI (m + 1) = nI 24 - nI 8 * nI m - nI 8 by
          have : ∀ m, m < 4 → nI 24 - nI 8 * nI (m + 1) = nI 24 - nI 8 * nI m - nI 8 := by decide +kernel
          exact this m (by omega)] at this
        refine Eq.mp (congrArg (fun J : Iv => go 3 _ [] J E (0, 0)) ?_) this
        funext y z
        unfold up sr apR
        by_cases hy : y = 2
        · subst hy
          by_cases hz : z = f + m
          · subst hz
            simp
            rfl
          · simp [hz]
            exact ifc (by omega)
        · by_cases hy' : y = 1 ∧ z = 1
          · simp [hy', Nat.add_assoc]
          · simp [hy, hy']
  have l0 := loop 4 0 rfl
  refine hgo 20 [3] 0 _ _ _ _ _ ?_
  simp only [ixr_of, run_s, run_0, rTp_append, rok_i, rok_z, bx_cons, bx_nil, eADD, eBAST, eBP, eC1, eDEC2, eDUPr, eGI, eGO, eGR, eI2B, jICge, jIFlt, eLA0, eLI1, eLI2, ePI, eRV, eSHR, eSI2, eSP, fTp_append_0, fTp_append_3, fTp_append_7, fTp_append_17, fTp_append_46, bTp_append_0, bTp_append_3, bTp_append_7, bTp_append_17, bTp_append_46, ln_xtape_bytes, rg_xtape_0, ty_xtape, ty_xtape_bytes, Option.toList_some, Option.toList_none, List.cons_append, List.nil_append, List.length_cons, List.length_nil, List.mem_cons, List.not_mem_nil, or_false, false_or, or_true, true_or, ↓reduceIte, true_and, and_true, Nat.reduceEqDiff, Nat.reduceAdd, Nat.reduceLeDiff, Nat.reduceLT, dl_i, dl_r, dl_n, dl_u, eq_self, not_true_eq_false, not_false_eq_true, n10, n01, nm0, n0m, imp_t, imp_f]
  refine Eq.mp (congrArg (fun J : Iv => go 3 _ [] J E (0, 0)) ?_) l0
  funext y z
  unfold up sr apR
  by_cases hy : y = 2
  · subst hy
    simp
    omega
  · by_cases hy' : y = 1 ∧ z = 1
    · obtain ⟨rfl, rfl⟩ := hy'
      simp
      exact hf.symm
    · simp [hy, hy']
end XT3
