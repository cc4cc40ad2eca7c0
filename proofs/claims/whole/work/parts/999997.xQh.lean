/-! foresight: the game to its rest -/
/-- how the game ends: the answer, and the grades -/
def nRp (I : Iv) (nV nC m : Nat) (c : Int32) (t : Nat) : Prop := ∀ s k, s ≤ t → k < s → ¬ eqG nV (grT I nV nC m c s) (grT I nV nC m c k)
def RsP (I : Iv) (nV nC m : Nat) (c : Int32) (a : Nat) (G : Nat → Int32) : Prop :=
  (∃ t, t < 20 ∧ nRp I nV nC m c t ∧ eqG nV (grT I nV nC m c (t + 1)) (grT I nV nC m c t) ∧ a = 1 ∧ G = grT I nV nC m c (t + 1)) ∨
  (∃ t k, t < 20 ∧ nRp I nV nC m c t ∧ ¬ eqG nV (grT I nV nC m c (t + 1)) (grT I nV nC m c t) ∧ k < t + 1 ∧ eqG nV (grT I nV nC m c (t + 1)) (grT I nV nC m c k) ∧ a = 0 ∧ G = grT I nV nC m c (t + 1)) ∨
  (nRp I nV nC m c 20 ∧ a = 0 ∧ G = grT I nV nC m c 20)
theorem rs_t {I : Iv} {nV nC m : Nat} {c : Int32} {t t' k k' : Nat} (h : nRp I nV nC m c t) (h' : nRp I nV nC m c t') (hk : k < t + 1) (hk' : k' < t' + 1) (e : eqG nV (grT I nV nC m c (t + 1)) (grT I nV nC m c k)) (e' : eqG nV (grT I nV nC m c (t' + 1)) (grT I nV nC m c k')) : t = t' := by
  by_cases h1 : t < t'
  · exact absurd e (h' (t + 1) k (by omega) hk)
  · by_cases h2 : t' < t
    · exact absurd e' (h (t' + 1) k' (by omega) hk')
    · omega
theorem RsP.un {I : Iv} {nV nC m : Nat} {c : Int32} {a a' : Nat} {G G' : Nat → Int32} (h : RsP I nV nC m c a G) (h' : RsP I nV nC m c a' G') : a = a' ∧ G = G' := by
  rcases h with ⟨t, ht, hr, he, rfl, rfl⟩ | ⟨t, k, ht, hr, hn, hk, he, rfl, rfl⟩ | ⟨hr, rfl, rfl⟩
  · rcases h' with ⟨t', ht', hr', he', rfl, rfl⟩ | ⟨t', k', ht', hr', hn', hk', he', rfl, rfl⟩ | ⟨hr', rfl, rfl⟩
    · have := rs_t hr hr' (Nat.lt_succ_self _) (Nat.lt_succ_self _) he he'
      subst this
      exact ⟨rfl, rfl⟩
    · have := rs_t hr hr' (Nat.lt_succ_self _) hk' he he'
      subst this
      exact absurd he hn'
    · exact absurd he (hr' (t + 1) t (by omega) (by omega))
  · rcases h' with ⟨t', ht', hr', he', rfl, rfl⟩ | ⟨t', k', ht', hr', hn', hk', he', rfl, rfl⟩ | ⟨hr', rfl, rfl⟩
    · have := rs_t hr hr' hk (Nat.lt_succ_self _) he he'
      subst this
      exact absurd he' hn
    · have := rs_t hr hr' hk hk' he he'
      subst this
      exact ⟨rfl, rfl⟩
    · exact absurd he (hr' (t + 1) k (by omega) hk)
  · rcases h' with ⟨t', ht', hr', he', rfl, rfl⟩ | ⟨t', k', ht', hr', hn', hk', he', rfl, rfl⟩ | ⟨hr', rfl, rfl⟩
    · exact absurd he' (hr (t' + 1) t' (by omega) (by omega))
    · exact absurd he' (hr (t' + 1) k' (by omega) hk')
    · exact ⟨rfl, rfl⟩
/-- all but trial days, the aqueduct's own rows, the game's and the grades -/
def XG (J K : Iv) : Prop := ∀ i, ¬ (16 ≤ i ∧ i ≤ 19) → ¬ (48 ≤ i ∧ i ≤ 56) → i ≠ 77 → ¬ idV i → K i = J i
theorem XG.rf {J : Iv} : XG J J := fun _ _ _ _ _ => rfl
theorem XG.tr {J K L : Iv} (h : XG J K) (h2 : XG K L) : XG J L := fun i a b c e => (h2 i a b c e).trans (h i a b c e)
theorem XF.g {J K : Iv} (h : XF 48 J K) : XG J K := fun i a b _ e => h i a (by omega) e
theorem XG.up {i k : Nat} {x : Int32} {J K : Iv} (h : XG J K) (hi : i = 56 ∨ i = 77) : XG J (up K i k x) := fun a h3 h4 h5 h6 => by
  rw [← h a h3 h4 h5 h6]
  funext q
  exact up_n (by omega)
theorem XG.t {J K : Iv} (h : XG J K) : SayT J K := fun i hi => h i (by unfold tw at hi; omega) (by unfold tw at hi; omega) (by unfold tw at hi; omega) (idV_n (by unfold tw at hi; omega))
section XQh
variable {Γ : Gm} {l : Launch} {b : Bool} {d : Nat} {I J : Iv} {E : Ev} {kr : Kr} {kx : Kxx} {y t n : Nat} {S : Tn} {PS : Nat → List Pt} {op : Nat → Nat}
theorem TwR.xg {K : Iv} (h : TwR b J E S PS t op) (hk : XG J K) : TwR b K E S PS t op := by
  refine h.mv (fun i hi => ?_) hk.t
  rcases hi with hi | hi | ⟨o, ho, hi⟩
  · exact hk i (by omega) (by omega) (by omega) (idV_n (by omega))
  · exact hk i (by omega) (by omega) (by omega) (idV_n (by omega))
  · have : (20 ≤ o ∧ o ≤ 44) ∨ o = 94 := by unfold idO at ho; omega
    refine hk i (by omega) (by omega) (by omega) (idV_n ?_)
    unfold idO at ho
    omega
theorem NwI.g3 (h : NwI I J S n) : Gr3 (I 500123) := fun v hv => (h.2.2.2.2.1 v hv).2
theorem NwI.ug {v g : Nat} (h : NwI I J S n) (h9 : S.1.1 ≤ 9) (hg : g ≤ 3) : NwI (sr I 500123 (ru (I 500123) v (nI g))) (up J 77 v (nI g)) S n := by
  have := h.2.ugr (v := v) (g := g) h9 hg
  refine ⟨fun i hi => ?_, ?_⟩
  · rw [sr_n (by unfold tw at hi; omega)]
    rw [← h.1 i hi]
    funext q
    exact up_n (by unfold tw at hi; omega)
  · rw [sr_n (show 500124 ≠ 500123 by decide), sr_n (show 500000 ≠ 500123 by decide), sr_s]
    exact this
theorem NwI.o56 {k : Nat} {x : Int32} (h : NwI I J S n) (h9 : S.1.1 ≤ 9) : NwI I (up J 56 k x) S n := ⟨fun i hi => by
    rw [← h.1 i hi]
    funext q
    exact up_n (by unfold tw at hi; omega), h.2.mv h9 (fun i h1 h2 => by funext q; exact up_n (by omega))⟩
theorem sr_same' {a : Nat} {r : Nat → Int32} (h : I a = r) : sr I a r = I := by
  funext i
  unfold sr
  by_cases e : i = a
  · rw [if_pos e, e, h]
  · rw [if_neg e]
theorem x_settle {m c : Nat} (hG : GX Γ) (hA : TwR b J E S PS t op) (hN : NwI I J S n) (hn : n ≤ 1000) (hm : m ≤ 30) (hc : c ≤ 99)
    (hk : ∀ a G K, RsP I S.1.1 S.1.2 m (nI c) a G → XG J K → NwI (sr I 500123 G) K S n → kr (some (.int (nI a))) K E) : Ex Γ l (shB b) (d + 8) (0, 0) mFo_settle [.ref 47, .ref 71, .int (nI m), .int (nI c)] J E kr kx := by
  refine ex_of (ls0 := [some (.ref 47), some (.ref 71), some (.int (nI m)), some (.int (nI c)), none, none, none]) tFo_settle (by decide +kernel) kFo_settle rfl (Nat.le_of_ble_eq_true rfl) rfl ?_
  intro go hgo
  have hS := hA.1.2.2.2.1
  have s9 := hS.1
  have ty71 : tyc (shB b) E 71 = 3 := dyA_71.1
  have rg71 : rget (shB b) E 71 5 = .ref 77 := dyA_71.2.1.2.2.2.2.2.1
  have ty77 : tyc (shB b) E 77 = 101 := dyA_71.2.2.1.2.2.2.2.2.1
  have ln77 : len (shB b) E 77 = 9 := dyA_71.2.2.2.2.2.2.2.2.1
  obtain ⟨GT, hGT⟩ : ∃ GT, GT = grT I S.1.1 S.1.2 m (nI c) := ⟨_, rfl⟩
  -- the packed grades of class and model
  have pkA : ∀ {K : Iv} {G : Nat → Int32}, NwI (sr I 500123 G) K S n → pkF (K 77) S.1.1 = pkF G S.1.1 ∧ Gr3 G := by
    intro K G hK
    have h1 : ∀ v, v < 9 → K 77 v = G v ∧ ∃ g, g ≤ 3 ∧ G v = nI g := by
      have h2 := hK.2.2.2.2.1
      rw [sr_s] at h2
      exact h2
    refine ⟨?_, fun v hv => (h1 v hv).2⟩
    have : ∀ j, j ≤ 9 → pkF (K 77) j = pkF G j := by
      intro j
      induction j with
      | zero => intro _; rfl
      | succ j ih =>
        intro hj
        show pkF (K 77) j * nI 4 + K 77 j = pkF G j * nI 4 + G j
        rw [ih (by omega), (h1 j (by omega)).1]
    exact this _ s9
  have rounds : ∀ (f r : Nat) (K : Iv) (x5 x6 : Option Value), f + r = 20 → XG J K → NwI (sr I 500123 (GT r)) K S n → nRp I S.1.1 S.1.2 m (nI c) r → (∀ j, j ≤ r → K 56 j = pkF (GT j) S.1.1 ∧ Gr3 (GT j)) → go 13 [some (.ref 47), some (.ref 71), some (.int (nI m)), some (.int (nI c)), some (.int (nI (r + 1))), x5, x6] [] K E (0, 0) := by
    intro f
    induction f with
    | zero =>
      intro r K x5 x6 hf hX hK hr hF
      have : r = 20 := by omega
      subst this
      have c1 : (nI 20 < nI 21) = True := by decide
      refine hgo 20 [13, 23, 79] 13 _ _ _ _ _ ?_
      simp only [ixr_of, run_s, run_0, rFo_settle, rok_i, rok_z, bx_cons, bx_nil, eBP, eC0, eC1, eCS1, eCV4, eGI, eGO, eGR, eIALD, eIAST, jICge, jICgt, jICne, eINC4, eINC5, eINC6, eLA0, eLA1, eLI2, eLI3, eLI4, eLI5, eLI6, eRI, eSI4, eSI5, eSI6, eSUB, fFo_settle_0, fFo_settle_13, fFo_settle_20, fFo_settle_23, fFo_settle_32, fFo_settle_54, fFo_settle_74, fFo_settle_76, fFo_settle_79, fFo_settle_86, fFo_settle_98, fFo_settle_100, fFo_settle_106, fFo_settle_121, bFo_settle_0, bFo_settle_13, bFo_settle_20, bFo_settle_23, bFo_settle_32, bFo_settle_54, bFo_settle_74, bFo_settle_76, bFo_settle_79, bFo_settle_86, bFo_settle_98, bFo_settle_100, bFo_settle_106, bFo_settle_121, ln_xformerGrades, rg_xforesight_0, rg_xforesight_1, rg_xforesight_2, ty_xaqueduct, ty_xforesight, ty_xformerGrades, ty_xftrial, Option.toList_some, Option.toList_none, List.cons_append, List.nil_append, List.length_cons, List.length_nil, List.mem_cons, List.not_mem_nil, or_false, false_or, or_true, true_or, ↓reduceIte, true_and, and_true, Nat.reduceEqDiff, Nat.reduceAdd, Nat.reduceLeDiff, Nat.reduceLT, dl_i, dl_r, dl_n, dl_u, eq_self, not_true_eq_false, not_false_eq_true, n10, n01, nm0, n0m, c1, imp_t, imp_f]
      exact hk 0 _ K (Or.inr (Or.inr ⟨hr, rfl, by rw [hGT]⟩)) hX hK
    | succ f ih =>
      intro r K x5 x6 hf hX hK hr hF
      have c1 : (nI 20 < nI (r + 1)) = False := by rw [nIt (by omega) (by omega)]; exact eq_false (by omega)
      -- all take their wishes
      have vil : ∀ (g v : Nat) (L : Iv) (x6 : Option Value), g + v = S.1.1 → XG J L → NwI (sr I 500123 (wvF I S.1.1 S.1.2 m (nI c) (GT r) v)) L S n → (∀ j, j ≤ r → L 56 j = pkF (GT j) S.1.1 ∧ Gr3 (GT j)) → go 23 [some (.ref 47), some (.ref 71), some (.int (nI m)), some (.int (nI c)), some (.int (nI (r + 1))), some (.int (nI v)), x6] [] L E (0, 0) := by
        intro g
        induction g with
        | zero =>
          intro v L x6 hg hXL hL hFL
          have : v = S.1.1 := by omega
          subst this
          have e1 : wvF I S.1.1 S.1.2 m (nI c) (GT r) S.1.1 = GT (r + 1) := by rw [hGT]; rfl
          rw [e1] at hL
          obtain ⟨p1, p2⟩ := pkA hL
          have v7 := hL.2.1.1.1
          have c2 : (nI S.1.1 ≤ nI S.1.1) = True := eq_true (Int32.le_refl _)
          refine hgo 20 [13, 23, 79] 23 _ _ _ _ _ ?_
          simp only [ixr_of, run_s, run_0, rFo_settle, rok_i, rok_z, bx_cons, bx_nil, eBP, eC0, eC1, eCS1, eCV4, eGI, eGO, eGR, eIALD, eIAST, jICge, jICgt, jICne, eINC4, eINC5, eINC6, eLA0, eLA1, eLI2, eLI3, eLI4, eLI5, eLI6, eRI, eSI4, eSI5, eSI6, eSUB, fFo_settle_0, fFo_settle_13, fFo_settle_20, fFo_settle_23, fFo_settle_32, fFo_settle_54, fFo_settle_74, fFo_settle_76, fFo_settle_79, fFo_settle_86, fFo_settle_98, fFo_settle_100, fFo_settle_106, fFo_settle_121, bFo_settle_0, bFo_settle_13, bFo_settle_20, bFo_settle_23, bFo_settle_32, bFo_settle_54, bFo_settle_74, bFo_settle_76, bFo_settle_79, bFo_settle_86, bFo_settle_98, bFo_settle_100, bFo_settle_106, bFo_settle_121, ln_xformerGrades, rg_xforesight_0, rg_xforesight_1, rg_xforesight_2, ty_xaqueduct, ty_xforesight, ty_xformerGrades, ty_xftrial, Option.toList_some, Option.toList_none, List.cons_append, List.nil_append, List.length_cons, List.length_nil, List.mem_cons, List.not_mem_nil, or_false, false_or, or_true, true_or, ↓reduceIte, true_and, and_true, Nat.reduceEqDiff, Nat.reduceAdd, Nat.reduceLeDiff, Nat.reduceLT, dl_i, dl_r, dl_n, dl_u, eq_self, not_true_eq_false, not_false_eq_true, n10, n01, nm0, n0m, ty71, v7, c2, imp_t, imp_f]
          refine call0 (x_gradesOf dyA_71 hL.2.1.1 ?_)
          rw [show 71 + 6 = 77 from rfl, p1]
          have i1 : nI (r + 1) - nI 1 = nI r := by rw [nI_sb (by omega)]; rfl
          have i2 : r < 21 := by omega
          obtain ⟨q1, q2⟩ := hFL r (Nat.le_refl _)
          have hne : (pkF (GT (r + 1)) S.1.1 = pkF (GT r) S.1.1) ↔ eqG S.1.1 (GT (r + 1)) (GT r) := pk_eq' s9 p2 q2
          simp only [ixr_of, run_s, run_0, rFo_settle, rok_i, rok_z, bx_cons, bx_nil, eBP, eC0, eC1, eCS1, eCV4, eGI, eGO, eGR, eIALD, eIAST, jICge, jICgt, jICne, eINC4, eINC5, eINC6, eLA0, eLA1, eLI2, eLI3, eLI4, eLI5, eLI6, eRI, eSI4, eSI5, eSI6, eSUB, fFo_settle_0, fFo_settle_13, fFo_settle_20, fFo_settle_23, fFo_settle_32, fFo_settle_54, fFo_settle_74, fFo_settle_76, fFo_settle_79, fFo_settle_86, fFo_settle_98, fFo_settle_100, fFo_settle_106, fFo_settle_121, bFo_settle_0, bFo_settle_13, bFo_settle_20, bFo_settle_23, bFo_settle_32, bFo_settle_54, bFo_settle_74, bFo_settle_76, bFo_settle_79, bFo_settle_86, bFo_settle_98, bFo_settle_100, bFo_settle_106, bFo_settle_121, ln_xformerGrades, rg_xforesight_0, rg_xforesight_1, rg_xforesight_2, ty_xaqueduct, ty_xforesight, ty_xformerGrades, ty_xftrial, Option.toList_some, Option.toList_none, List.cons_append, List.nil_append, List.length_cons, List.length_nil, List.mem_cons, List.not_mem_nil, or_false, false_or, or_true, true_or, ↓reduceIte, true_and, and_true, Nat.reduceEqDiff, Nat.reduceAdd, Nat.reduceLeDiff, Nat.reduceLT, dl_i, dl_r, dl_n, dl_u, eq_self, not_true_eq_false, not_false_eq_true, n10, n01, nm0, n0m, i1, i2, q1, imp_t, imp_f]
          refine ⟨fun z => ?_, fun z => ?_⟩
          · -- another: was it before?
            have inner : ∀ (h j : Nat), h + j = r + 1 → (∀ k, k < j → ¬ eqG S.1.1 (GT (r + 1)) (GT k)) → go 79 [some (.ref 47), some (.ref 71), some (.int (nI m)), some (.int (nI c)), some (.int (nI (r + 1))), some (.int (pkF (GT (r + 1)) S.1.1)), some (.int (nI j))] [] L E (0, 0) := by
              intro h
              induction h with
              | zero =>
                intro j hj hno
                have : j = r + 1 := by omega
                subst this
                have c3 : (nI (r + 1) ≤ nI (r + 1)) = True := eq_true (Int32.le_refl _)
                have i3 : r + 1 < 21 := by omega
                refine hgo 20 [13, 23, 79] 79 _ _ _ _ _ ?_
                simp only [ixr_of, run_s, run_0, rFo_settle, rok_i, rok_z, bx_cons, bx_nil, eBP, eC0, eC1, eCS1, eCV4, eGI, eGO, eGR, eIALD, eIAST, jICge, jICgt, jICne, eINC4, eINC5, eINC6, eLA0, eLA1, eLI2, eLI3, eLI4, eLI5, eLI6, eRI, eSI4, eSI5, eSI6, eSUB, fFo_settle_0, fFo_settle_13, fFo_settle_20, fFo_settle_23, fFo_settle_32, fFo_settle_54, fFo_settle_74, fFo_settle_76, fFo_settle_79, fFo_settle_86, fFo_settle_98, fFo_settle_100, fFo_settle_106, fFo_settle_121, bFo_settle_0, bFo_settle_13, bFo_settle_20, bFo_settle_23, bFo_settle_32, bFo_settle_54, bFo_settle_74, bFo_settle_76, bFo_settle_79, bFo_settle_86, bFo_settle_98, bFo_settle_100, bFo_settle_106, bFo_settle_121, ln_xformerGrades, rg_xforesight_0, rg_xforesight_1, rg_xforesight_2, ty_xaqueduct, ty_xforesight, ty_xformerGrades, ty_xftrial, Option.toList_some, Option.toList_none, List.cons_append, List.nil_append, List.length_cons, List.length_nil, List.mem_cons, List.not_mem_nil, or_false, false_or, or_true, true_or, ↓reduceIte, true_and, and_true, Nat.reduceEqDiff, Nat.reduceAdd, Nat.reduceLeDiff, Nat.reduceLT, dl_i, dl_r, dl_n, dl_u, eq_self, not_true_eq_false, not_false_eq_true, n10, n01, nm0, n0m, c3, i3, nI_add, imp_t, imp_f]
                refine ih (r + 1) _ _ _ (by omega) (hXL.up (Or.inl rfl)) (hL.o56 s9) ?_ ?_
                · intro s k hs hk'
                  by_cases e : s = r + 1
                  · have := hno k (by omega)
                    rw [hGT] at this
                    rw [e]
                    exact this
                  · exact hr s k (by omega) hk'
                · intro j hj'
                  by_cases e : j = r + 1
                  · rw [e, up_s]; exact ⟨rfl, p2⟩
                  · rw [up_n (by omega)]; exact hFL j (by omega)
              | succ h ih2 =>
                intro j hj hno
                have c3 : (nI (r + 1) ≤ nI j) = False := by rw [nIl (by omega) (by omega)]; exact eq_false (by omega)
                have i3 : j < 21 := by omega
                obtain ⟨w1, w2⟩ := hFL j (by omega)
                have hj2 : (pkF (GT j) S.1.1 = pkF (GT (r + 1)) S.1.1) ↔ eqG S.1.1 (GT (r + 1)) (GT j) := by rw [eq_comm]; exact pk_eq' s9 p2 w2
                refine hgo 20 [13, 23, 79] 79 _ _ _ _ _ ?_
                simp only [ixr_of, run_s, run_0, rFo_settle, rok_i, rok_z, bx_cons, bx_nil, eBP, eC0, eC1, eCS1, eCV4, eGI, eGO, eGR, eIALD, eIAST, jICge, jICgt, jICne, eINC4, eINC5, eINC6, eLA0, eLA1, eLI2, eLI3, eLI4, eLI5, eLI6, eRI, eSI4, eSI5, eSI6, eSUB, fFo_settle_0, fFo_settle_13, fFo_settle_20, fFo_settle_23, fFo_settle_32, fFo_settle_54, fFo_settle_74, fFo_settle_76, fFo_settle_79, fFo_settle_86, fFo_settle_98, fFo_settle_100, fFo_settle_106, fFo_settle_121, bFo_settle_0, bFo_settle_13, bFo_settle_20, bFo_settle_23, bFo_settle_32, bFo_settle_54, bFo_settle_74, bFo_settle_76, bFo_settle_79, bFo_settle_86, bFo_settle_98, bFo_settle_100, bFo_settle_106, bFo_settle_121, ln_xformerGrades, rg_xforesight_0, rg_xforesight_1, rg_xforesight_2, ty_xaqueduct, ty_xforesight, ty_xformerGrades, ty_xftrial, Option.toList_some, Option.toList_none, List.cons_append, List.nil_append, List.length_cons, List.length_nil, List.mem_cons, List.not_mem_nil, or_false, false_or, or_true, true_or, ↓reduceIte, true_and, and_true, Nat.reduceEqDiff, Nat.reduceAdd, Nat.reduceLeDiff, Nat.reduceLT, dl_i, dl_r, dl_n, dl_u, eq_self, not_true_eq_false, not_false_eq_true, n10, n01, nm0, n0m, c3, i3, w1, nI_add, imp_t, imp_f]
                refine ⟨fun z2 => ?_, fun z2 => ?_⟩
                · refine ih2 (j + 1) (by omega) (fun k hk' => ?_)
                  by_cases e : k = j
                  · rw [e]; exact fun c => z2 (hj2.mpr c)
                  · exact hno k (by omega)
                · refine hk 0 _ L (Or.inr (Or.inl ⟨r, j, by omega, hr, ?_, by omega, ?_, rfl, by rw [hGT]⟩)) hXL hL
                  · have := fun c => z (hne.mpr c)
                    rw [hGT] at this
                    exact this
                  · have := hj2.mp z2
                    rw [hGT] at this
                    exact this
            exact inner (r + 1) 0 (by omega) (fun k hk' => absurd hk' (by omega))
          · refine hk 1 _ L (Or.inl ⟨r, by omega, hr, ?_, rfl, by rw [hGT]⟩) hXL hL
            have := hne.mp z
            rw [hGT] at this
            exact this
        | succ g ihv =>
          intro v L x6 hg hXL hL hFL
          have v7 := hL.2.1.1.1
          have i9 : v < 9 := by omega
          have c2 : (nI S.1.1 ≤ nI v) = False := by rw [nIl (by omega) (by omega)]; exact eq_false (by omega)
          refine hgo 20 [13, 23, 79] 23 _ _ _ _ _ ?_
          simp only [ixr_of, run_s, run_0, rFo_settle, rok_i, rok_z, bx_cons, bx_nil, eBP, eC0, eC1, eCS1, eCV4, eGI, eGO, eGR, eIALD, eIAST, jICge, jICgt, jICne, eINC4, eINC5, eINC6, eLA0, eLA1, eLI2, eLI3, eLI4, eLI5, eLI6, eRI, eSI4, eSI5, eSI6, eSUB, fFo_settle_0, fFo_settle_13, fFo_settle_20, fFo_settle_23, fFo_settle_32, fFo_settle_54, fFo_settle_74, fFo_settle_76, fFo_settle_79, fFo_settle_86, fFo_settle_98, fFo_settle_100, fFo_settle_106, fFo_settle_121, bFo_settle_0, bFo_settle_13, bFo_settle_20, bFo_settle_23, bFo_settle_32, bFo_settle_54, bFo_settle_74, bFo_settle_76, bFo_settle_79, bFo_settle_86, bFo_settle_98, bFo_settle_100, bFo_settle_106, bFo_settle_121, ln_xformerGrades, rg_xforesight_0, rg_xforesight_1, rg_xforesight_2, ty_xaqueduct, ty_xforesight, ty_xformerGrades, ty_xftrial, Option.toList_some, Option.toList_none, List.cons_append, List.nil_append, List.length_cons, List.length_nil, List.mem_cons, List.not_mem_nil, or_false, false_or, or_true, true_or, ↓reduceIte, true_and, and_true, Nat.reduceEqDiff, Nat.reduceAdd, Nat.reduceLeDiff, Nat.reduceLT, dl_i, dl_r, dl_n, dl_u, eq_self, not_true_eq_false, not_false_eq_true, n10, n01, nm0, n0m, ty71, rg71, v7, c2, imp_t, imp_f]
          refine call0 (x_wishOf hG (hA.xg hXL) hL hn hm (by omega) hc (fun M hXM => ?_))
          have hM := (hL.xf s9 (Or.inl rfl) hXM).ug (v := v) (g := (wsN (sr I 500123 (wvF I S.1.1 S.1.2 m (nI c) (GT r) v)) S.1.1 S.1.2 v m (nI c) 4).1) s9 (wsN_le 4 (Nat.le_refl _))
          simp only [ixr_of, run_s, run_0, rFo_settle, rok_i, rok_z, bx_cons, bx_nil, eBP, eC0, eC1, eCS1, eCV4, eGI, eGO, eGR, eIALD, eIAST, jICge, jICgt, jICne, eINC4, eINC5, eINC6, eLA0, eLA1, eLI2, eLI3, eLI4, eLI5, eLI6, eRI, eSI4, eSI5, eSI6, eSUB, fFo_settle_0, fFo_settle_13, fFo_settle_20, fFo_settle_23, fFo_settle_32, fFo_settle_54, fFo_settle_74, fFo_settle_76, fFo_settle_79, fFo_settle_86, fFo_settle_98, fFo_settle_100, fFo_settle_106, fFo_settle_121, bFo_settle_0, bFo_settle_13, bFo_settle_20, bFo_settle_23, bFo_settle_32, bFo_settle_54, bFo_settle_74, bFo_settle_76, bFo_settle_79, bFo_settle_86, bFo_settle_98, bFo_settle_100, bFo_settle_106, bFo_settle_121, ln_xformerGrades, rg_xforesight_0, rg_xforesight_1, rg_xforesight_2, ty_xaqueduct, ty_xforesight, ty_xformerGrades, ty_xftrial, Option.toList_some, Option.toList_none, List.cons_append, List.nil_append, List.length_cons, List.length_nil, List.mem_cons, List.not_mem_nil, or_false, false_or, or_true, true_or, ↓reduceIte, true_and, and_true, Nat.reduceEqDiff, Nat.reduceAdd, Nat.reduceLeDiff, Nat.reduceLT, dl_i, dl_r, dl_n, dl_u, eq_self, not_true_eq_false, not_false_eq_true, n10, n01, nm0, n0m, ty77, ln77, i9, nI_add, imp_t, imp_f]
          refine ihv (v + 1) _ _ (by omega) ((hXL.tr hXM.g).up (Or.inr rfl)) ?_ (fun j hj => ?_)
          · rw [sr_s] at hM
            have e2 : sr (sr I 500123 (wvF I S.1.1 S.1.2 m (nI c) (GT r) v)) 500123 (ru (wvF I S.1.1 S.1.2 m (nI c) (GT r) v) v (nI (wsN (sr I 500123 (wvF I S.1.1 S.1.2 m (nI c) (GT r) v)) S.1.1 S.1.2 v m (nI c) 4).1)) = sr I 500123 (wvF I S.1.1 S.1.2 m (nI c) (GT r) (v + 1)) := by
              rw [sr_sr]
              rfl
            rw [e2] at hM
            exact hM
          · rw [up_n (by omega), hXM 56 (by decide) (by decide) (idV_n (by decide))]
            exact hFL j hj
      refine hgo 20 [13, 23, 79] 13 _ _ _ _ _ ?_
      simp only [ixr_of, run_s, run_0, rFo_settle, rok_i, rok_z, bx_cons, bx_nil, eBP, eC0, eC1, eCS1, eCV4, eGI, eGO, eGR, eIALD, eIAST, jICge, jICgt, jICne, eINC4, eINC5, eINC6, eLA0, eLA1, eLI2, eLI3, eLI4, eLI5, eLI6, eRI, eSI4, eSI5, eSI6, eSUB, fFo_settle_0, fFo_settle_13, fFo_settle_20, fFo_settle_23, fFo_settle_32, fFo_settle_54, fFo_settle_74, fFo_settle_76, fFo_settle_79, fFo_settle_86, fFo_settle_98, fFo_settle_100, fFo_settle_106, fFo_settle_121, bFo_settle_0, bFo_settle_13, bFo_settle_20, bFo_settle_23, bFo_settle_32, bFo_settle_54, bFo_settle_74, bFo_settle_76, bFo_settle_79, bFo_settle_86, bFo_settle_98, bFo_settle_100, bFo_settle_106, bFo_settle_121, ln_xformerGrades, rg_xforesight_0, rg_xforesight_1, rg_xforesight_2, ty_xaqueduct, ty_xforesight, ty_xformerGrades, ty_xftrial, Option.toList_some, Option.toList_none, List.cons_append, List.nil_append, List.length_cons, List.length_nil, List.mem_cons, List.not_mem_nil, or_false, false_or, or_true, true_or, ↓reduceIte, true_and, and_true, Nat.reduceEqDiff, Nat.reduceAdd, Nat.reduceLeDiff, Nat.reduceLT, dl_i, dl_r, dl_n, dl_u, eq_self, not_true_eq_false, not_false_eq_true, n10, n01, nm0, n0m, c1, imp_t, imp_f]
      exact vil S.1.1 0 K _ (by omega) hX hK hF
  have e0 : GT 0 = I 500123 := by rw [hGT]; rfl
  have hN0 : NwI (sr I 500123 (GT 0)) J S n := by rw [sr_same' e0.symm]; exact hN
  obtain ⟨p1, p2⟩ := pkA hN0
  refine hgo 20 [13, 23, 79] 0 _ _ _ _ _ ?_
  simp only [ixr_of, run_s, run_0, rFo_settle, rok_i, rok_z, bx_cons, bx_nil, eBP, eC0, eC1, eCS1, eCV4, eGI, eGO, eGR, eIALD, eIAST, jICge, jICgt, jICne, eINC4, eINC5, eINC6, eLA0, eLA1, eLI2, eLI3, eLI4, eLI5, eLI6, eRI, eSI4, eSI5, eSI6, eSUB, fFo_settle_0, fFo_settle_13, fFo_settle_20, fFo_settle_23, fFo_settle_32, fFo_settle_54, fFo_settle_74, fFo_settle_76, fFo_settle_79, fFo_settle_86, fFo_settle_98, fFo_settle_100, fFo_settle_106, fFo_settle_121, bFo_settle_0, bFo_settle_13, bFo_settle_20, bFo_settle_23, bFo_settle_32, bFo_settle_54, bFo_settle_74, bFo_settle_76, bFo_settle_79, bFo_settle_86, bFo_settle_98, bFo_settle_100, bFo_settle_106, bFo_settle_121, ln_xformerGrades, rg_xforesight_0, rg_xforesight_1, rg_xforesight_2, ty_xaqueduct, ty_xforesight, ty_xformerGrades, ty_xftrial, Option.toList_some, Option.toList_none, List.cons_append, List.nil_append, List.length_cons, List.length_nil, List.mem_cons, List.not_mem_nil, or_false, false_or, or_true, true_or, ↓reduceIte, true_and, and_true, Nat.reduceEqDiff, Nat.reduceAdd, Nat.reduceLeDiff, Nat.reduceLT, dl_i, dl_r, dl_n, dl_u, eq_self, not_true_eq_false, not_false_eq_true, n10, n01, nm0, n0m, imp_t, imp_f]
  refine call0 (x_gradesOf dyA_71 hN.2.1.1 ?_)
  rw [show 71 + 6 = 77 from rfl, p1]
  simp only [ixr_of, run_s, run_0, rFo_settle, rok_i, rok_z, bx_cons, bx_nil, eBP, eC0, eC1, eCS1, eCV4, eGI, eGO, eGR, eIALD, eIAST, jICge, jICgt, jICne, eINC4, eINC5, eINC6, eLA0, eLA1, eLI2, eLI3, eLI4, eLI5, eLI6, eRI, eSI4, eSI5, eSI6, eSUB, fFo_settle_0, fFo_settle_13, fFo_settle_20, fFo_settle_23, fFo_settle_32, fFo_settle_54, fFo_settle_74, fFo_settle_76, fFo_settle_79, fFo_settle_86, fFo_settle_98, fFo_settle_100, fFo_settle_106, fFo_settle_121, bFo_settle_0, bFo_settle_13, bFo_settle_20, bFo_settle_23, bFo_settle_32, bFo_settle_54, bFo_settle_74, bFo_settle_76, bFo_settle_79, bFo_settle_86, bFo_settle_98, bFo_settle_100, bFo_settle_106, bFo_settle_121, ln_xformerGrades, rg_xforesight_0, rg_xforesight_1, rg_xforesight_2, ty_xaqueduct, ty_xforesight, ty_xformerGrades, ty_xftrial, Option.toList_some, Option.toList_none, List.cons_append, List.nil_append, List.length_cons, List.length_nil, List.mem_cons, List.not_mem_nil, or_false, false_or, or_true, true_or, ↓reduceIte, true_and, and_true, Nat.reduceEqDiff, Nat.reduceAdd, Nat.reduceLeDiff, Nat.reduceLT, dl_i, dl_r, dl_n, dl_u, eq_self, not_true_eq_false, not_false_eq_true, n10, n01, nm0, n0m, imp_t, imp_f]
  refine rounds 20 0 _ _ _ (by omega) (XG.rf.up (Or.inl rfl)) (hN0.o56 s9) (fun s k h1 h2 => absurd h2 (by omega)) (fun j hj => ?_)
  have : j = 0 := by omega
  subst this
  rw [up_s]
  exact ⟨rfl, p2⟩
end XQh
