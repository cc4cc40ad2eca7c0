/-! foresight: rows of a round -/
/-- where v's part of a row begins -/
def ofR (S : Tn) : Nat → Nat
  | 0 => S.1.1 * (1 + 3 * S.1.1)
  | v + 1 => ofR S v + (1 + 4 * (vz S v 3 - 1))
theorem nVW {nV : Nat} (h : nV ≤ 9) : nV * (1 + 3 * nV) ≤ 252 := by
  have : ∀ nV, nV < 10 → nV * (1 + 3 * nV) ≤ 252 := by decide
  exact this nV (by omega)
theorem vz_5 {S : Tn} {v : Nat} (hS : TnV S) : vz S v 3 ≤ 5 := by
  unfold vz
  by_cases h : v < S.1.1
  · rw [if_pos h]; exact (hS.2.2.2.2.2.2.2 v h).2.2.1
  · rw [if_neg h]; omega
theorem ofR_m {S : Tn} {u : Nat} : ∀ v, u < v → ofR S u + (1 + 4 * (vz S u 3 - 1)) ≤ ofR S v
  | 0, h => absurd h (by omega)
  | v + 1, h => by
    show _ ≤ ofR S v + (1 + 4 * (vz S v 3 - 1))
    by_cases e : u = v
    · rw [e]; omega
    · have := ofR_m (S := S) v (show u < v by omega)
      omega
theorem ofR_0 {S : Tn} : ∀ v, S.1.1 * (1 + 3 * S.1.1) ≤ ofR S v
  | 0 => Nat.le_refl _
  | v + 1 => by
    have := ofR_0 (S := S) v
    show _ ≤ ofR S v + _
    omega
theorem ofR_b {S : Tn} (hS : TnV S) : ∀ v, ofR S v ≤ 252 + 17 * v
  | 0 => nVW hS.1
  | v + 1 => by
    have := ofR_b hS v
    have h5 := vz_5 (v := v) hS
    show ofR S v + (1 + 4 * (vz S v 3 - 1)) ≤ _
    omega
/-- a row as written: of the villages below v all, of v the days up to e -/
def RWp (A B : Nat → Int32) (ba : Nat) (J : Iv) (S : Tn) (n v : Nat) : Prop := (∀ k, k < ba → A k = B k) ∧ (∀ i, i < S.1.1 * (1 + 3 * S.1.1) → A (ba + i) = J 49 i) ∧ ∀ u, u < v → A (ba + ofR S u) = J 51 u ∧ ∀ a j, 1 ≤ a → a < vz S u 3 → j < 4 → A (ba + ofR S u + 1 + 4 * (a - 1) + j) = J 50 (pcl (n - a) u + j)
section XQk
variable {Γ : Gm} {l : Launch} {b : Bool} {d : Nat} {I J : Iv} {E : Ev} {kr : Kr} {kx : Kxx} {y t n rw' : Nat} {S : Tn} {PS : Nat → List Pt} {op : Nat → Nat}
theorem x_writeRow {k : Nat} (hA : AqS b J E S PS t op) (hV : DyV J 48 S.1.1) (hn : J 48 9 = nI n) (hn1 : n < 90000) (hr : rget (shB b) E 47 3 = .ref rw') (hrt : tyc (shB b) E rw' = 101) (hrl : len (shB b) E rw' = 81405) (hr1 : 1000000 ≤ rw') (hk2 : k ≤ 200)
    (hk : ∀ K, (∀ i, i ≠ rw' → K i = J i) → RWp (K rw') (J rw') (k * 405) J S n S.1.1 → kr (some (.int (nI (ofR S S.1.1)))) K E) : Ex Γ l (shB b) (d + 2) (0, 0) mFo_writeRow [.ref 47, .int (nI k)] J E kr kx := by
  refine ex_of (ls0 := [some (.ref 47), some (.int (nI k)), none, none, none, none, none]) tFo_writeRow (by decide +kernel) kFo_writeRow rfl (Nat.le_of_ble_eq_true rfl) rfl ?_
  intro go hgo
  obtain ⟨r3, hT, hX, hS, -⟩ := id hA
  have s9 := hS.1
  have hw := nVW s9
  obtain ⟨v7, v8, -⟩ := id hV
  have ty48 : tyc (shB b) E 48 = 3 := dyA_48.1
  obtain ⟨-, ⟨g0, g1, g2, -⟩, ⟨t1, t2, t3, -⟩, l1, l2, l3, -⟩ := (dyA_48 (b := b) (E := E))
  have tT : tyc (shB b) E t = 10 := (hT.A (b := b) (E := E)).1
  obtain ⟨q3, q3t, q3l⟩ := (hT.A (b := b) (E := E)).2 3 (by decide)
  have q3l' : len (shB b) E (t + 1 + 3) = 9 := q3l
  have htr : t + 4 < 1000000 := by unfold idT at hT; omega
  have lgv : ∀ v, v < 9 → J (t + 1 + 3) v = nI (vz S v 3) := fun v hv => (hX.2.2.2.2.2.2.1 v hv).2.2.1
  obtain ⟨ba, hba⟩ : ∃ ba, ba = k * 405 := ⟨_, rfl⟩
  rw [← hba] at hk
  have hof : ∀ v, v ≤ 9 → ofR S v ≤ 405 := fun v hv => by have := ofR_b hS v; omega
  -- the villages
  have vil : ∀ (g v : Nat) (K : Iv) (x6 : Option Value), g + v = S.1.1 → (∀ i, i ≠ rw' → K i = J i) → RWp (K rw') (J rw') ba J S n v → go 51 [some (.ref 47), some (.int (nI k)), some (.int (nI ba)), some (.int (nI (ba + ofR S v))), some (.int (nI (S.1.1 * (1 + 3 * S.1.1)))), some (.int (nI v)), x6] [] K E (0, 0) := by
    intro g
    induction g with
    | zero =>
      intro v K x6 hg hK hR
      have : v = S.1.1 := by omega
      subst this
      have e7 : K 48 7 = nI S.1.1 := by rw [hK 48 (by omega)]; exact v7
      have c1 : (nI S.1.1 ≤ nI S.1.1) = True := eq_true (Int32.le_refl _)
      have e1 : nI (ba + ofR S S.1.1) - nI ba = nI (ofR S S.1.1) := by rw [nI_sb (by omega), Nat.add_sub_cancel_left]
      refine hgo 20 [51, 85] 51 _ _ _ _ _ ?_
      simp only [ixr_of, run_s, run_0, rFo_writeRow, rok_i, rok_z, bx_cons, bx_nil, eACP, eADD, eC0, eC1, eC4, eCV2, eGI, eGO, eGR, eIALD, eIAST, jICge, eINC3, eINC5, eINC6, eLA0, eLI1, eLI2, eLI3, eLI4, eLI5, eLI6, eMUL, eRI, eSI2, eSI3, eSI4, eSI5, eSI6, eSP, eSUB, fFo_writeRow_0, fFo_writeRow_51, fFo_writeRow_63, fFo_writeRow_85, fFo_writeRow_103, fFo_writeRow_147, fFo_writeRow_153, bFo_writeRow_0, bFo_writeRow_51, bFo_writeRow_63, bFo_writeRow_85, bFo_writeRow_103, bFo_writeRow_147, bFo_writeRow_153, ln_xformerGrades, rg_xforesight_0, rg_xforesight_1, rg_xforesight_2, ty_xaqueduct, ty_xforesight, ty_xformerGrades, ty_xftrial, Option.toList_some, Option.toList_none, List.cons_append, List.nil_append, List.length_cons, List.length_nil, List.mem_cons, List.not_mem_nil, or_false, false_or, or_true, true_or, ↓reduceIte, true_and, and_true, Nat.reduceEqDiff, Nat.reduceAdd, Nat.reduceLeDiff, Nat.reduceLT, dl_i, dl_r, dl_n, dl_u, eq_self, not_true_eq_false, not_false_eq_true, n10, n01, nm0, n0m, ty48, e7, c1, e1, imp_t, imp_f]
      exact hk K hK hR
    | succ g ih =>
      intro v K x6 hg hK hR
      have i9 : v < 9 := by omega
      have h5 := vz_5 (v := v) hS
      have e7 : K 48 7 = nI S.1.1 := by rw [hK 48 (by omega)]; exact v7
      have c1 : (nI S.1.1 ≤ nI v) = False := by rw [nIl (by omega) (by omega)]; exact eq_false (by omega)
      have hofv := hof v (by omega)
      have hofm := ofR_m (S := S) (u := v) (v + 1) (by omega)
      have hof1 := hof (v + 1) (by omega)
      have i1 : ba + ofR S v < 81405 := by omega
      have ag : ∀ (h e : Nat) (L : Iv), 1 ≤ e → h + e = max 1 (vz S v 3) → (∀ i, i ≠ rw' → L i = J i) → RWp (L rw') (J rw') ba J S n v → L rw' (ba + ofR S v) = J 51 v → (∀ a j, 1 ≤ a → a < e → j < 4 → L rw' (ba + ofR S v + 1 + 4 * (a - 1) + j) = J 50 (pcl (n - a) v + j)) → go 85 [some (.ref 47), some (.int (nI k)), some (.int (nI ba)), some (.int (nI (ba + ofR S v + 1 + 4 * (e - 1)))), some (.int (nI (S.1.1 * (1 + 3 * S.1.1)))), some (.int (nI v)), some (.int (nI e))] [] L E (0, 0) := by
        intro h
        induction h with
        | zero =>
          intro e L he hh hL hRL hl hp
          have e3 : L (t + 1 + 3) v = nI (vz S v 3) := by rw [hL _ (by omega)]; exact lgv v i9
          have c2 : (nI (vz S v 3) ≤ nI e) = True := by rw [nIl (by omega) (by omega)]; exact eq_true (by omega)
          refine hgo 20 [51, 85] 85 _ _ _ _ _ ?_
          simp only [ixr_of, run_s, run_0, rFo_writeRow, rok_i, rok_z, bx_cons, bx_nil, eACP, eADD, eC0, eC1, eC4, eCV2, eGI, eGO, eGR, eIALD, eIAST, jICge, eINC3, eINC5, eINC6, eLA0, eLI1, eLI2, eLI3, eLI4, eLI5, eLI6, eMUL, eRI, eSI2, eSI3, eSI4, eSI5, eSI6, eSP, eSUB, fFo_writeRow_0, fFo_writeRow_51, fFo_writeRow_63, fFo_writeRow_85, fFo_writeRow_103, fFo_writeRow_147, fFo_writeRow_153, bFo_writeRow_0, bFo_writeRow_51, bFo_writeRow_63, bFo_writeRow_85, bFo_writeRow_103, bFo_writeRow_147, bFo_writeRow_153, ln_xformerGrades, rg_xforesight_0, rg_xforesight_1, rg_xforesight_2, ty_xaqueduct, ty_xforesight, ty_xformerGrades, ty_xftrial, Option.toList_some, Option.toList_none, List.cons_append, List.nil_append, List.length_cons, List.length_nil, List.mem_cons, List.not_mem_nil, or_false, false_or, or_true, true_or, ↓reduceIte, true_and, and_true, Nat.reduceEqDiff, Nat.reduceAdd, Nat.reduceLeDiff, Nat.reduceLT, dl_i, dl_r, dl_n, dl_u, eq_self, not_true_eq_false, not_false_eq_true, n10, n01, nm0, n0m, r3, tT, q3, q3t, q3l', e3, i9, c2, nI_add, imp_t, imp_f]
          have ee : ba + ofR S v + 1 + 4 * (e - 1) = ba + ofR S (v + 1) := by
            show _ = ba + (ofR S v + (1 + 4 * (vz S v 3 - 1)))
            omega
          rw [ee]
          refine ih (v + 1) L _ (by omega) hL ⟨hRL.1, hRL.2.1, fun u hu => ?_⟩
          by_cases z : u = v
          · rw [z]
            exact ⟨hl, fun a j h1 h2 h3 => hp a j h1 (by omega) h3⟩
          · exact hRL.2.2 u (by omega)
        | succ h ih2 =>
          intro e L he hh hL hRL hl hp
          have e3 : L (t + 1 + 3) v = nI (vz S v 3) := by rw [hL _ (by omega)]; exact lgv v i9
          have c2 : (nI (vz S v 3) ≤ nI e) = False := by rw [nIl (by omega) (by omega)]; exact eq_false (by omega)
          have e9 : L 48 9 = nI n := by rw [hL 48 (by omega)]; exact hn
          have hpl := pcl_lt (v := v) (j := 3) (n - e) i9 (by decide)
          refine hgo 20 [51, 85] 85 _ _ _ _ _ ?_
          simp only [ixr_of, run_s, run_0, rFo_writeRow, rok_i, rok_z, bx_cons, bx_nil, eACP, eADD, eC0, eC1, eC4, eCV2, eGI, eGO, eGR, eIALD, eIAST, jICge, eINC3, eINC5, eINC6, eLA0, eLI1, eLI2, eLI3, eLI4, eLI5, eLI6, eMUL, eRI, eSI2, eSI3, eSI4, eSI5, eSI6, eSP, eSUB, fFo_writeRow_0, fFo_writeRow_51, fFo_writeRow_63, fFo_writeRow_85, fFo_writeRow_103, fFo_writeRow_147, fFo_writeRow_153, bFo_writeRow_0, bFo_writeRow_51, bFo_writeRow_63, bFo_writeRow_85, bFo_writeRow_103, bFo_writeRow_147, bFo_writeRow_153, ln_xformerGrades, rg_xforesight_0, rg_xforesight_1, rg_xforesight_2, ty_xaqueduct, ty_xforesight, ty_xformerGrades, ty_xftrial, Option.toList_some, Option.toList_none, List.cons_append, List.nil_append, List.length_cons, List.length_nil, List.mem_cons, List.not_mem_nil, or_false, false_or, or_true, true_or, ↓reduceIte, true_and, and_true, Nat.reduceEqDiff, Nat.reduceAdd, Nat.reduceLeDiff, Nat.reduceLT, dl_i, dl_r, dl_n, dl_u, eq_self, not_true_eq_false, not_false_eq_true, n10, n01, nm0, n0m, r3, tT, q3, q3t, q3l', e3, i9, c2, ty48, g1, e9, imp_t, imp_f]
          refine call0 (x_pastCell (n := n - e) (mx_lag (by omega) (by omega)) (by omega) ?_)
          rw [show ((n - e) % 5 * 9 + v) * 4 = pcl (n - e) v from rfl]
          simp only [ixr_of, run_s, run_0, rFo_writeRow, rok_i, rok_z, bx_cons, bx_nil, eACP, eADD, eC0, eC1, eC4, eCV2, eGI, eGO, eGR, eIALD, eIAST, jICge, eINC3, eINC5, eINC6, eLA0, eLI1, eLI2, eLI3, eLI4, eLI5, eLI6, eMUL, eRI, eSI2, eSI3, eSI4, eSI5, eSI6, eSP, eSUB, fFo_writeRow_0, fFo_writeRow_51, fFo_writeRow_63, fFo_writeRow_85, fFo_writeRow_103, fFo_writeRow_147, fFo_writeRow_153, bFo_writeRow_0, bFo_writeRow_51, bFo_writeRow_63, bFo_writeRow_85, bFo_writeRow_103, bFo_writeRow_147, bFo_writeRow_153, ln_xformerGrades, rg_xforesight_0, rg_xforesight_1, rg_xforesight_2, ty_xaqueduct, ty_xforesight, ty_xformerGrades, ty_xftrial, Option.toList_some, Option.toList_none, List.cons_append, List.nil_append, List.length_cons, List.length_nil, List.mem_cons, List.not_mem_nil, or_false, false_or, or_true, true_or, ↓reduceIte, true_and, and_true, Nat.reduceEqDiff, Nat.reduceAdd, Nat.reduceLeDiff, Nat.reduceLT, dl_i, dl_r, dl_n, dl_u, eq_self, not_true_eq_false, not_false_eq_true, n10, n01, nm0, n0m, hr, t2, l2, hrt, hrl, nI_add, imp_t, imp_f]
          refine acr_n (by omega) (by omega) ?_
          have ee : ba + ofR S v + 1 + 4 * (e - 1) + 4 = ba + ofR S v + 1 + 4 * (e + 1 - 1) := by omega
          rw [ee]
          have ac : ∀ q, acp L 50 (pcl (n - e) v) rw' (ba + ofR S v + 1 + 4 * (e - 1)) 4 rw' q = if ba + ofR S v + 1 + 4 * (e - 1) ≤ q ∧ q < ba + ofR S v + 1 + 4 * (e - 1) + 4 then L 50 (pcl (n - e) v + (q - (ba + ofR S v + 1 + 4 * (e - 1)))) else L rw' q := fun q => by
            unfold acp
            by_cases z : ba + ofR S v + 1 + 4 * (e - 1) ≤ q ∧ q < ba + ofR S v + 1 + 4 * (e - 1) + 4
            · rw [if_pos ⟨rfl, z.1, z.2⟩, if_pos z]
            · rw [if_neg (fun c => z c.2), if_neg z]
          refine ih2 (e + 1) _ (by omega) (by omega) (fun i hi => ?_) ⟨fun q hq => ?_, fun q hq => ?_, fun u hu => ⟨?_, fun a j h1 h2 h3 => ?_⟩⟩ ?_ (fun a j h1 h2 h3 => ?_)
          · rw [← hL i hi]; funext q; exact acp_n hi
          · rw [ac, if_neg (by omega)]; exact hRL.1 q hq
          · have := ofR_0 (S := S) v
            rw [ac, if_neg (by omega)]; exact hRL.2.1 q hq
          · have := ofR_m (S := S) (u := u) v hu
            rw [ac, if_neg (by omega)]; exact (hRL.2.2 u hu).1
          · have := ofR_m (S := S) (u := u) v hu
            rw [ac, if_neg (by omega)]; exact (hRL.2.2 u hu).2 a j h1 h2 h3
          · rw [ac, if_neg (by omega)]; exact hl
          · by_cases z : a = e
            · subst z
              rw [ac, if_pos (by omega), hL 50 (by omega)]
              congr 1
              omega
            · rw [ac, if_neg (by omega)]; exact hp a j h1 (by omega) h3
      refine hgo 20 [51, 85] 51 _ _ _ _ _ ?_
      have e51 : K 51 v = J 51 v := by rw [hK 51 (by omega)]
      simp only [ixr_of, run_s, run_0, rFo_writeRow, rok_i, rok_z, bx_cons, bx_nil, eACP, eADD, eC0, eC1, eC4, eCV2, eGI, eGO, eGR, eIALD, eIAST, jICge, eINC3, eINC5, eINC6, eLA0, eLI1, eLI2, eLI3, eLI4, eLI5, eLI6, eMUL, eRI, eSI2, eSI3, eSI4, eSI5, eSI6, eSP, eSUB, fFo_writeRow_0, fFo_writeRow_51, fFo_writeRow_63, fFo_writeRow_85, fFo_writeRow_103, fFo_writeRow_147, fFo_writeRow_153, bFo_writeRow_0, bFo_writeRow_51, bFo_writeRow_63, bFo_writeRow_85, bFo_writeRow_103, bFo_writeRow_147, bFo_writeRow_153, ln_xformerGrades, rg_xforesight_0, rg_xforesight_1, rg_xforesight_2, ty_xaqueduct, ty_xforesight, ty_xformerGrades, ty_xftrial, Option.toList_some, Option.toList_none, List.cons_append, List.nil_append, List.length_cons, List.length_nil, List.mem_cons, List.not_mem_nil, or_false, false_or, or_true, true_or, ↓reduceIte, true_and, and_true, Nat.reduceEqDiff, Nat.reduceAdd, Nat.reduceLeDiff, Nat.reduceLT, dl_i, dl_r, dl_n, dl_u, eq_self, not_true_eq_false, not_false_eq_true, n10, n01, nm0, n0m, ty48, e7, c1, hr, hrt, hrl, g2, t3, l3, i9, i1, nI_add, imp_t, imp_f]
      rw [e51]
      have ue : ∀ q, up K rw' (ba + ofR S v) (J 51 v) rw' q = if q = ba + ofR S v then J 51 v else K rw' q := fun q => by
        by_cases z : q = ba + ofR S v
        · rw [if_pos z, z, up_s]
        · rw [if_neg z, up_n (by omega)]
      refine ag (max 1 (vz S v 3) - 1) 1 _ (Nat.le_refl _) (by omega) (fun i hi => ?_) ⟨fun q hq => ?_, fun q hq => ?_, fun u hu => ⟨?_, fun a j h1 h2 h3 => ?_⟩⟩ ?_ (fun a j h1 h2 h3 => absurd h2 (by omega))
      · rw [← hK i hi]; funext q; exact up_n (by omega)
      · rw [ue, if_neg (by omega)]; exact hR.1 q hq
      · have := ofR_0 (S := S) v
        rw [ue, if_neg (by omega)]; exact hR.2.1 q hq
      · have := ofR_m (S := S) (u := u) v hu
        rw [ue, if_neg (by omega)]; exact (hR.2.2 u hu).1
      · have := ofR_m (S := S) (u := u) v hu
        rw [ue, if_neg (by omega)]; exact (hR.2.2 u hu).2 a j h1 h2 h3
      · rw [ue, if_pos rfl]
  refine hgo 20 [51, 85] 0 _ _ _ _ _ ?_
  simp only [ixr_of, run_s, run_0, rFo_writeRow, rok_i, rok_z, bx_cons, bx_nil, eACP, eADD, eC0, eC1, eC4, eCV2, eGI, eGO, eGR, eIALD, eIAST, jICge, eINC3, eINC5, eINC6, eLA0, eLI1, eLI2, eLI3, eLI4, eLI5, eLI6, eMUL, eRI, eSI2, eSI3, eSI4, eSI5, eSI6, eSP, eSUB, fFo_writeRow_0, fFo_writeRow_51, fFo_writeRow_63, fFo_writeRow_85, fFo_writeRow_103, fFo_writeRow_147, fFo_writeRow_153, bFo_writeRow_0, bFo_writeRow_51, bFo_writeRow_63, bFo_writeRow_85, bFo_writeRow_103, bFo_writeRow_147, bFo_writeRow_153, ln_xformerGrades, rg_xforesight_0, rg_xforesight_1, rg_xforesight_2, ty_xaqueduct, ty_xforesight, ty_xformerGrades, ty_xftrial, Option.toList_some, Option.toList_none, List.cons_append, List.nil_append, List.length_cons, List.length_nil, List.mem_cons, List.not_mem_nil, or_false, false_or, or_true, true_or, ↓reduceIte, true_and, and_true, Nat.reduceEqDiff, Nat.reduceAdd, Nat.reduceLeDiff, Nat.reduceLT, dl_i, dl_r, dl_n, dl_u, eq_self, not_true_eq_false, not_false_eq_true, n10, n01, nm0, n0m, ty48, v7, v8, pk_mul, hr, g0, t1, l1, hrt, hrl, nI_add, imp_t, imp_f]
  rw [← hba]
  refine acr_n (by omega) (by omega) ?_
  have ac : ∀ q, acp J 49 0 rw' ba (S.1.1 * (1 + 3 * S.1.1)) rw' q = if ba ≤ q ∧ q < ba + S.1.1 * (1 + 3 * S.1.1) then J 49 (0 + (q - ba)) else J rw' q := fun q => by
    unfold acp
    by_cases z : ba ≤ q ∧ q < ba + S.1.1 * (1 + 3 * S.1.1)
    · rw [if_pos ⟨rfl, z.1, z.2⟩, if_pos z]
    · rw [if_neg (fun c => z c.2), if_neg z]
  refine vil S.1.1 0 _ _ (by omega) (fun i hi => by funext q; exact acp_n hi) ⟨fun q hq => ?_, fun i hi => ?_, fun u hu => absurd hu (by omega)⟩
  · rw [ac, if_neg (by omega)]
  · rw [ac, if_pos (by omega)]
    congr 1
    omega
end XQk
