/-! foresight: losses, droughts -/
/-- a day can always be gone -/
theorem GdC_ex {J : Iv} {y n : Nat} {S : Tn} {PS : Nat → List Pt} {pk : PvK} {op : Nat → Nat} : ∃ K, GdC J K y n S PS pk op := by
  obtain ⟨J0, hJ0⟩ : ∃ J0, J0 = up J y 9 (nI (n + 1)) := ⟨_, rfl⟩
  obtain ⟨K1, hK1⟩ : ∃ K1 : Iv, K1 = fun i => if i = y + 1 then (fun k => if k < S.1.1 * (1 + 3 * S.1.1) then J0 (y + 1) k + (flG J0 y S).1 k else J0 (y + 1) k) else if i = y + 7 then (flQ J0 y S).2.1 else if i = y + 5 then (flQ J0 y S).2.2 else if i = y then (fun k => if k = 12 then (flG J0 y S).2 else J0 y k) else J0 i := ⟨_, rfl⟩
  have hF : FlP J0 K1 y S := by
    refine ⟨fun i h16 hy h1 h5 h7 => ?_, fun k hk => ?_, ?_, ?_, ?_, fun k hk => ?_, fun k hk => ?_⟩
    · rw [hK1]; dsimp only; rw [if_neg h1, if_neg h7, if_neg h5, if_neg hy]
    · rw [hK1]; dsimp only; rw [if_neg (by omega), if_neg (by omega), if_neg (by omega), if_pos rfl, if_neg hk]
    · rw [hK1]; dsimp only; rw [if_neg (by omega), if_neg (by omega), if_neg (by omega), if_pos rfl, if_pos rfl]
    · rw [hK1]; dsimp only; rw [if_neg (by omega), if_pos rfl]
    · rw [hK1]; dsimp only; rw [if_neg (by omega), if_neg (by omega), if_pos rfl]
    · rw [hK1]; dsimp only; rw [if_pos rfl, if_pos hk]
    · rw [hK1]; dsimp only; rw [if_pos rfl, if_neg (by omega)]
  rw [hJ0] at hF
  exact ⟨_, K1, _, sr (sfK (fiK K1 y S) y S) 17 (frV (sfK (fiK K1 y S) y S) y (n + 1) S PS pk S.1.1), hF, rfl, fun i h _ _ _ => sr_n h, sr_s, rfl⟩
section Its
variable {I J : Iv} {y n : Nat} {S : Tn} {PS : Nat → List Pt} {P : Pm} {q : (Nat → Int32) × Int32}
theorem DyS.day (hM : MT I S) (hS : TnV S) (hO : MO I S.1.1 PS) (hy : 20 ≤ y) (hD : DyS S P y n q J) (hn : n ≤ 1900) : ∃ K, DyS S P y (n + 1) (st2 I S.1.1 S.1.2 P q) K := by
  obtain ⟨hD1, h16, hPm, hPv⟩ := hD
  obtain ⟨K, hK⟩ := GdC_ex (J := J) (y := y) (n := n) (S := S) (PS := PS) (pk := pkS S) (op := fun _ => y + 8)
  obtain ⟨r1, r2, r3, r4, r5⟩ := day_rel hM hS hO hD1 hn hy (fun v _ => Or.inr (Nat.le_refl _)) hPv hK
  rw [h16, hPm] at r1 r2
  have e1 : coX K y = coX J y := by funext v; unfold coX; rw [r3 11 (by decide)]
  have e2 : (fun v => !plX K y v) = fun v => !plX J y v := by funext v; unfold plX; rw [r3 10 (by decide)]
  refine ⟨K, r1, r2, ?_, ?_⟩
  · rw [← hPm]
    unfold PmD
    rw [e1, e2, r3 14 (by decide), r3 15 (by decide), r3 17 (by decide), r4]
  · unfold PmV at hPv ⊢
    rw [r3 14 (by decide), r3 15 (by decide), r3 17 (by decide), r4]
    exact hPv
theorem DyS.its (hM : MT I S) (hS : TnV S) (hO : MO I S.1.1 PS) (hy : 20 ≤ y) (hD : DyS S P y n q J) : ∀ k, n + k ≤ 1900 → ∃ K, DyS S P y (n + k) (it2 I S.1.1 S.1.2 P q k) K
  | 0, _ => ⟨J, hD⟩
  | k + 1, hk => by
    obtain ⟨K, hK⟩ := DyS.its hM hS hO hy hD k (by omega)
    have hn' : n + k ≤ 1900 := by omega
    exact hK.day hM hS hO hy hn'
/-- losses are numbers, and grow -/
theorem ls_b {v m c g : Nat} {x : Int32} (hM : MT I S) (hS : TnV S) (hO : MO I S.1.1 PS) (hy : 20 ≤ y) (hv : v < S.1.1) (hI : I 500123 v = nI g) (hg : g ≤ 3) (hc : c ≤ 99) (hm : m ≤ 30) (hn : n ≤ 1000) (hP : Pe S.1.1 P (pmN I)) (hD : DyS S P y n (I 500124, x) J) : ∃ e : Nat → Nat, ∀ k, k ≤ m → lsF I S.1.1 S.1.2 v m (nI c) k = nI (e k) ∧ e k ≤ 8910 + k * 17000000 ∧ ∀ j, j ≤ k → e j ≤ e k := by
  have h1 : ∀ k, ∃ a, k < m → a ≤ 17000000 ∧ hbS (gR I S.1.1 S.1.2 (pmN I) (I 500124) (k + 1)) v = nI a := by
    intro k
    by_cases q : k < m
    · obtain ⟨K, hK⟩ := hD.its hM hS hO hy (k + 1) (by omega)
      have h5 := hK.1
      rw [it2_pe hP, gR_of rfl] at h5
      obtain ⟨a, ha, e⟩ := (herbs_27 hS h5 hv (by omega)).2
      exact ⟨a, fun _ => ⟨by omega, e⟩⟩
    · exact ⟨0, fun z => absurd z q⟩
  obtain ⟨f, hf⟩ : ∃ f : Nat → Nat, ∀ k, k < m → f k ≤ 17000000 ∧ hbS (gR I S.1.1 S.1.2 (pmN I) (I 500124) (k + 1)) v = nI (f k) := ⟨fun k => (h1 k).choose, fun k hk => (h1 k).choose_spec hk⟩
  refine ⟨fun k => c * g * m + smN f k, fun k => ?_⟩
  have hcg : c * g ≤ 99 * 3 := Nat.mul_le_mul hc hg
  have hcm : c * g * m ≤ 297 * 30 := Nat.mul_le_mul hcg hm
  induction k with
  | zero =>
    intro _
    refine ⟨?_, ?_, fun j hj => ?_⟩
    · show nI c * I 500123 v * nI m = nI (c * g * m + 0)
      rw [hI, pk_mul, pk_mul]
      rfl
    · show c * g * m + 0 ≤ _
      omega
    · have : j = 0 := by omega
      rw [this]
      exact Nat.le_refl _
  | succ k ih =>
    intro hk
    obtain ⟨i1, i2, i3⟩ := ih (by omega)
    obtain ⟨f1, f2⟩ := hf k (by omega)
    refine ⟨?_, ?_, fun j hj => ?_⟩
    · show lsF I S.1.1 S.1.2 v m (nI c) k + hbS _ v = nI (c * g * m + (smN f k + f k))
      rw [i1, f2, nI_add, Nat.add_assoc]
    · show c * g * m + (smN f k + f k) ≤ _
      have : c * g * m + smN f k ≤ 8910 + k * 17000000 := i2
      omega
    · by_cases q : j = k + 1
      · rw [q]; exact Nat.le_refl _
      · have := i3 j (by omega)
        show _ ≤ c * g * m + (smN f k + f k)
        have h7 : c * g * m + smN f j ≤ c * g * m + smN f k := this
        show c * g * m + smN f j ≤ _
        omega
end Its
section XQf
variable {Γ : Gm} {l : Launch} {b : Bool} {d : Nat} {I J : Iv} {E : Ev} {kr : Kr} {kx : Kxx} {y t n : Nat} {S : Tn} {PS : Nat → List Pt} {op : Nat → Nat} {P : Pm} {q : (Nat → Int32) × Int32}
theorem gI_t {v g : Nat} : SayT I (gI I v g) := fun i hi => by
  funext j
  unfold gI
  exact up_n (by unfold tw at hi; omega)
theorem x_lossWith {v g m c : Nat} {en : Int32} (hG : GX Γ) (hA : TwR b J E S PS t op) (hN : NwI I J S n) (hn : n ≤ 1000) (hm : m ≤ 30) (hv : v < S.1.1) (hg : g ≤ 3) (hc : c ≤ 99)
    (hk : ∀ K a e, XF 48 J K → lsF (gI I v g) S.1.1 S.1.2 v m (nI c) m = nI e → e < 600000000 → (a = nI e ∨ (en ≤ a ∧ en ≤ nI e)) → kr (some (.int a)) K E) : Ex Γ l (shB b) (d + 6) (0, 0) mFo_lossWith [.ref 47, .ref 71, .int (nI v), .int (nI g), .int (nI m), .int (nI c), .int en] J E kr kx := by
  refine ex_of (ls0 := [some (.ref 47), some (.ref 71), some (.int (nI v)), some (.int (nI g)), some (.int (nI m)), some (.int (nI c)), some (.int en), none, none]) tFo_lossWith (by decide +kernel) kFo_lossWith rfl (Nat.le_of_ble_eq_true rfl) rfl ?_
  intro go hgo
  have hS := hA.1.2.2.2.1
  have s9 := hS.1
  have ty48 : tyc (shB b) E 48 = 3 := dyA_48.1
  have rg48 : rget (shB b) E 48 5 = .ref 54 := dyA_48.2.1.2.2.2.2.2.1
  have ty54 : tyc (shB b) E 54 = 101 := dyA_48.2.2.1.2.2.2.2.2.1
  have ln54 : len (shB b) E 54 = 9 := dyA_48.2.2.2.2.2.2.2.2.1
  have i54 : v < 9 := by omega
  obtain ⟨I', hI'⟩ : ∃ I', I' = gI I v g := ⟨_, rfl⟩
  have tI : SayT I I' := by rw [hI']; exact gI_t
  have e24 : I' 500124 = I 500124 := by rw [hI']; funext k; exact up_n (by omega)
  have e00 : ∀ k, I' 500000 k = I 500000 k := fun k => by rw [hI']; exact up_n (by omega)
  have e23 : I' 500123 v = nI g := by rw [hI']; exact up_s
  rw [← hI'] at hk
  refine hgo 20 [30] 0 _ _ _ _ _ ?_
  simp only [ixr_of, run_s, run_0, rFo_lossWith, rok_i, rok_z, bx_cons, bx_nil, eADD, eC0, eCV1, eGO, eGR, eIAST, jICge, eINC8, eLA0, eLA1, eLI2, eLI3, eLI4, eLI5, eLI6, eLI7, eLI8, eMUL, eRI, eSI7, eSI8, fFo_lossWith_0, fFo_lossWith_30, fFo_lossWith_37, fFo_lossWith_44, fFo_lossWith_74, bFo_lossWith_0, bFo_lossWith_30, bFo_lossWith_37, bFo_lossWith_44, bFo_lossWith_74, ln_xformerGrades, rg_xforesight_0, rg_xforesight_1, rg_xforesight_2, ty_xaqueduct, ty_xforesight, ty_xformerGrades, ty_xftrial, Option.toList_some, Option.toList_none, List.cons_append, List.nil_append, List.length_cons, List.length_nil, List.mem_cons, List.not_mem_nil, or_false, false_or, or_true, true_or, ↓reduceIte, true_and, and_true, Nat.reduceEqDiff, Nat.reduceAdd, Nat.reduceLeDiff, Nat.reduceLT, dl_i, dl_r, dl_n, dl_u, eq_self, not_true_eq_false, not_false_eq_true, n10, n01, nm0, n0m, imp_t, imp_f]
  refine call0 (x_copyFrom dyA_48 dyA_71 (by decide) (fun L hL => ?_))
  have hQ := (hN.2.cp s9 hL).ugr (v := v) (g := g) s9 hg
  simp only [ixr_of, run_s, run_0, rFo_lossWith, rok_i, rok_z, bx_cons, bx_nil, eADD, eC0, eCV1, eGO, eGR, eIAST, jICge, eINC8, eLA0, eLA1, eLI2, eLI3, eLI4, eLI5, eLI6, eLI7, eLI8, eMUL, eRI, eSI7, eSI8, fFo_lossWith_0, fFo_lossWith_30, fFo_lossWith_37, fFo_lossWith_44, fFo_lossWith_74, bFo_lossWith_0, bFo_lossWith_30, bFo_lossWith_37, bFo_lossWith_44, bFo_lossWith_74, ln_xformerGrades, rg_xforesight_0, rg_xforesight_1, rg_xforesight_2, ty_xaqueduct, ty_xforesight, ty_xformerGrades, ty_xftrial, Option.toList_some, Option.toList_none, List.cons_append, List.nil_append, List.length_cons, List.length_nil, List.mem_cons, List.not_mem_nil, or_false, false_or, or_true, true_or, ↓reduceIte, true_and, and_true, Nat.reduceEqDiff, Nat.reduceAdd, Nat.reduceLeDiff, Nat.reduceLT, dl_i, dl_r, dl_n, dl_u, eq_self, not_true_eq_false, not_false_eq_true, n10, n01, nm0, n0m, ty48, rg48, ty54, ln54, i54, pk_mul, imp_t, imp_f]
  obtain ⟨L2, hL2⟩ : ∃ L2, L2 = up L 54 v (nI g) := ⟨_, rfl⟩
  rw [show 48 + 6 = 54 from rfl, ← hL2] at hQ
  rw [← hL2]
  have hX2 : XF 48 J L2 := by rw [hL2]; exact hL.xf.up (by decide) (by decide)
  have hMI : MT I' S := hA.2.1.t hS (hN.1.sm.tr tI)
  have hOI : MO I' S.1.1 PS := hA.2.2.2.t s9 (hN.1.sm.tr tI)
  have hP : Pe S.1.1 (PmD L2 48 S) (pmN I') := by
    have := hQ.pe (I := I') hS hMI (fun u hu => by
      by_cases z : u = v
      · rw [z, ru_s, e23]
      · rw [ru_n z, hI']
        exact (up_n (by omega)).symm)
    unfold pmN
    rw [e00, e00]
    exact this
  have hD0 : DyS S (PmD L2 48 S) 48 n (I' 500124, L2 48 16) L2 := by rw [e24]; exact hQ.s hS
  obtain ⟨ef, hef⟩ := ls_b (c := c) (m := m) hMI hS hOI (by decide) hv e23 hg hc hm hn hP hD0
  have hkm := hef m (Nat.le_refl _)
  have loop : ∀ (f k : Nat) (K : Iv), f + k = m → XF 48 J K → TwR b K E S PS t op → SayT I' K → DyS S (PmD L2 48 S) 48 (n + k) (it2 I' S.1.1 S.1.2 (PmD L2 48 S) (I' 500124, L2 48 16) k) K → go 30 [some (.ref 47), some (.ref 71), some (.int (nI v)), some (.int (nI g)), some (.int (nI m)), some (.int (nI c)), some (.int en), some (.int (nI (ef k))), some (.int (nI k))] [] K E (0, 0) := by
    intro f
    induction f with
    | zero =>
      intro k K hf hX hA' hI'' hD'
      have : k = m := by omega
      subst this
      have c1 : (nI k ≤ nI k) = True := eq_true (Int32.le_refl _)
      refine hgo 20 [30] 30 _ _ _ _ _ ?_
      simp only [ixr_of, run_s, run_0, rFo_lossWith, rok_i, rok_z, bx_cons, bx_nil, eADD, eC0, eCV1, eGO, eGR, eIAST, jICge, eINC8, eLA0, eLA1, eLI2, eLI3, eLI4, eLI5, eLI6, eLI7, eLI8, eMUL, eRI, eSI7, eSI8, fFo_lossWith_0, fFo_lossWith_30, fFo_lossWith_37, fFo_lossWith_44, fFo_lossWith_74, bFo_lossWith_0, bFo_lossWith_30, bFo_lossWith_37, bFo_lossWith_44, bFo_lossWith_74, ln_xformerGrades, rg_xforesight_0, rg_xforesight_1, rg_xforesight_2, ty_xaqueduct, ty_xforesight, ty_xformerGrades, ty_xftrial, Option.toList_some, Option.toList_none, List.cons_append, List.nil_append, List.length_cons, List.length_nil, List.mem_cons, List.not_mem_nil, or_false, false_or, or_true, true_or, ↓reduceIte, true_and, and_true, Nat.reduceEqDiff, Nat.reduceAdd, Nat.reduceLeDiff, Nat.reduceLT, dl_i, dl_r, dl_n, dl_u, eq_self, not_true_eq_false, not_false_eq_true, n10, n01, nm0, n0m, c1, imp_t, imp_f]
      exact hk K _ (ef k) hX hkm.1 (by omega) (Or.inl rfl)
    | succ f ih =>
      intro k K hf hX hA' hI'' hD'
      have c1 : (nI m ≤ nI k) = False := by rw [nIl (by omega) (by omega)]; exact eq_false (by omega)
      obtain ⟨l1, l2, l3⟩ := hef k (by omega)
      obtain ⟨m1, m2, m3⟩ := hef (k + 1) (by omega)
      refine hgo 20 [30] 30 _ _ _ _ _ ?_
      simp only [ixr_of, run_s, run_0, rFo_lossWith, rok_i, rok_z, bx_cons, bx_nil, eADD, eC0, eCV1, eGO, eGR, eIAST, jICge, eINC8, eLA0, eLA1, eLI2, eLI3, eLI4, eLI5, eLI6, eLI7, eLI8, eMUL, eRI, eSI7, eSI8, fFo_lossWith_0, fFo_lossWith_30, fFo_lossWith_37, fFo_lossWith_44, fFo_lossWith_74, bFo_lossWith_0, bFo_lossWith_30, bFo_lossWith_37, bFo_lossWith_44, bFo_lossWith_74, ln_xformerGrades, rg_xforesight_0, rg_xforesight_1, rg_xforesight_2, ty_xaqueduct, ty_xforesight, ty_xformerGrades, ty_xftrial, Option.toList_some, Option.toList_none, List.cons_append, List.nil_append, List.length_cons, List.length_nil, List.mem_cons, List.not_mem_nil, or_false, false_or, or_true, true_or, ↓reduceIte, true_and, and_true, Nat.reduceEqDiff, Nat.reduceAdd, Nat.reduceLeDiff, Nat.reduceLT, dl_i, dl_r, dl_n, dl_u, eq_self, not_true_eq_false, not_false_eq_true, n10, n01, nm0, n0m, c1, imp_t, imp_f]
      refine ⟨fun z => ?_, fun z => ?_⟩
      · refine hk K _ (ef m) hX hkm.1 (by omega) (Or.inr ⟨z, Int32.le_trans z (nI_le (hkm.2.2 k (by omega)) (by omega))⟩)
      · refine call0 (x_day hG hA' (Or.inl rfl) hD' (by omega) hI'' (fun M g1 g2 g3 g4 => ?_))
        simp only [ixr_of, run_s, run_0, rFo_lossWith, rok_i, rok_z, bx_cons, bx_nil, eADD, eC0, eCV1, eGO, eGR, eIAST, jICge, eINC8, eLA0, eLA1, eLI2, eLI3, eLI4, eLI5, eLI6, eLI7, eLI8, eMUL, eRI, eSI7, eSI8, fFo_lossWith_0, fFo_lossWith_30, fFo_lossWith_37, fFo_lossWith_44, fFo_lossWith_74, bFo_lossWith_0, bFo_lossWith_30, bFo_lossWith_37, bFo_lossWith_44, bFo_lossWith_74, ln_xformerGrades, rg_xforesight_0, rg_xforesight_1, rg_xforesight_2, ty_xaqueduct, ty_xforesight, ty_xformerGrades, ty_xftrial, Option.toList_some, Option.toList_none, List.cons_append, List.nil_append, List.length_cons, List.length_nil, List.mem_cons, List.not_mem_nil, or_false, false_or, or_true, true_or, ↓reduceIte, true_and, and_true, Nat.reduceEqDiff, Nat.reduceAdd, Nat.reduceLeDiff, Nat.reduceLT, dl_i, dl_r, dl_n, dl_u, eq_self, not_true_eq_false, not_false_eq_true, n10, n01, nm0, n0m, ty48, imp_t, imp_f]
        refine call0 (x_herbsIn dyA_48 g4.1.1 hv ?_)
        have hb := (herbs_27 hS g4.1 hv (by omega)).1
        have h5 : DyS S (PmD L2 48 S) 48 (n + (k + 1)) (it2 I' S.1.1 S.1.2 (PmD L2 48 S) (I' 500124, L2 48 16) (k + 1)) M := g4
        have e5 : (st2 I' S.1.1 S.1.2 (PmD L2 48 S) (it2 I' S.1.1 S.1.2 (PmD L2 48 S) (I' 500124, L2 48 16) k)).1 = gR I' S.1.1 S.1.2 (pmN I') (I' 500124) (k + 1) := by
          show (it2 I' S.1.1 S.1.2 (PmD L2 48 S) (I' 500124, L2 48 16) (k + 1)).1 = _
          rw [it2_pe hP, gR_of rfl]
        rw [e5] at hb
        have e6 : nI (ef k) + hbS (gR I' S.1.1 S.1.2 (pmN I') (I' 500124) (k + 1)) v = nI (ef (k + 1)) := by
          rw [← l1, ← m1]
          rfl
        rw [hb]
        simp only [ixr_of, run_s, run_0, rFo_lossWith, rok_i, rok_z, bx_cons, bx_nil, eADD, eC0, eCV1, eGO, eGR, eIAST, jICge, eINC8, eLA0, eLA1, eLI2, eLI3, eLI4, eLI5, eLI6, eLI7, eLI8, eMUL, eRI, eSI7, eSI8, fFo_lossWith_0, fFo_lossWith_30, fFo_lossWith_37, fFo_lossWith_44, fFo_lossWith_74, bFo_lossWith_0, bFo_lossWith_30, bFo_lossWith_37, bFo_lossWith_44, bFo_lossWith_74, ln_xformerGrades, rg_xforesight_0, rg_xforesight_1, rg_xforesight_2, ty_xaqueduct, ty_xforesight, ty_xformerGrades, ty_xftrial, Option.toList_some, Option.toList_none, List.cons_append, List.nil_append, List.length_cons, List.length_nil, List.mem_cons, List.not_mem_nil, or_false, false_or, or_true, true_or, ↓reduceIte, true_and, and_true, Nat.reduceEqDiff, Nat.reduceAdd, Nat.reduceLeDiff, Nat.reduceLT, dl_i, dl_r, dl_n, dl_u, eq_self, not_true_eq_false, not_false_eq_true, n10, n01, nm0, n0m, nI_add, e6, imp_t, imp_f]
        exact ih (k + 1) M (by omega) (hX.tr g1) g2 g3 h5
  have e0 : nI (c * g * m) = nI (ef 0) := by
    rw [← (hef 0 (Nat.zero_le _)).1]
    show _ = nI c * I' 500123 v * nI m
    rw [e23, pk_mul, pk_mul]
  rw [e0]
  exact loop m 0 L2 (by omega) hX2 (hA.xf (Or.inl rfl) hX2) ((hN.1.sm.tr tI).sm.tr (hX2.t (Or.inl rfl))) hD0
end XQf
