/-! contracts of the class, 24: days kept in the past -/
def waD (J : Iv) (y nV v : Nat) : Int32 := J (y + 1) (v * (1 + 3 * nV))
def hbD (J : Iv) (y nV v h : Nat) : Int32 := smI (fun w => J (y + 1) (cl nV v h w)) nV
def pcl (n v : Nat) : Nat := (n % 5 * 9 + v) * 4
def rmR (J : Iv) (y nV n : Nat) (lg : Nat → Nat) : Nat → Nat → Int32
  | 0 => J (y + 2)
  | v + 1 => if 0 < lg v then ru (ru (ru (ru (rmR J y nV n lg v) (pcl n v) (waD J y nV v)) (pcl n v + 1 + 0) (hbD J y nV v 0)) (pcl n v + 1 + 1) (hbD J y nV v 1)) (pcl n v + 1 + 2) (hbD J y nV v 2) else rmR J y nV n lg v
theorem rmR_n {J : Iv} {y nV n : Nat} {lg : Nat → Nat} {k : Nat} : ∀ m, (∀ v, v < m → 0 < lg v → ¬ (pcl n v ≤ k ∧ k < pcl n v + 4)) → rmR J y nV n lg m k = J (y + 2) k
  | 0, _ => rfl
  | m + 1, h => by
    have ih := rmR_n (J := J) (y := y) (nV := nV) m (fun v hv => h v (by omega))
    unfold rmR
    by_cases q : 0 < lg m
    · have := h m (by omega) q
      rw [if_pos q]
      unfold ru
      rw [if_neg (by omega), if_neg (by omega), if_neg (by omega), if_neg (by omega)]
      exact ih
    · rw [if_neg q]; exact ih
theorem rmR_s {J : Iv} {y nV n v : Nat} {lg : Nat → Nat} (hl : 0 < lg v) : ∀ m, v < m → m ≤ 9 → rmR J y nV n lg m (pcl n v) = waD J y nV v ∧ ∀ h, h < 3 → rmR J y nV n lg m (pcl n v + 1 + h) = hbD J y nV v h
  | 0, h, _ => by omega
  | m + 1, h, h9 => by
    by_cases q : v = m
    · subst q
      unfold rmR
      rw [if_pos hl]
      unfold ru
      refine ⟨?_, fun h hh => ?_⟩
      · rw [if_neg (by omega), if_neg (by omega), if_neg (by omega), if_pos rfl]
      · rcases (show h = 0 ∨ h = 1 ∨ h = 2 by omega) with rfl | rfl | rfl
        · rw [if_neg (by omega), if_neg (by omega), if_pos rfl]
        · rw [if_neg (by omega), if_pos rfl]
        · rw [if_pos rfl]
    · have ih := rmR_s (J := J) (y := y) (nV := nV) (n := n) (v := v) (lg := lg) hl m (by omega) (by omega)
      have hd : pcl n v + 4 ≤ pcl n m := by unfold pcl; omega
      unfold rmR
      by_cases q2 : 0 < lg m
      · rw [if_pos q2]
        unfold ru
        refine ⟨?_, fun h hh => ?_⟩
        · rw [if_neg (by omega), if_neg (by omega), if_neg (by omega), if_neg (by omega)]
          exact ih.1
        · rw [if_neg (by omega), if_neg (by omega), if_neg (by omega), if_neg (by omega)]
          exact ih.2 h hh
      · rw [if_neg q2]
        exact ih
section XDr
variable {Γ : Gm} {l : Launch} {sh : Sh} {d : Nat} {J : Iv} {E : Ev} {kr : Kr} {kx : Kxx} {y nV : Nat}
theorem x_remember {t n : Nat} {lg : Nat → Nat} (hA : DyA sh E y) (hV : DyV J y nV) (hT : TnA sh E t) (hn : J y 9 = nI n) (hn1 : n < 100000) (hlg : ∀ v, v < nV → lg v ≤ 5 ∧ J (t + 4) v = nI (lg v)) (hty : ¬ (y ≤ t + 4 ∧ t + 4 < y + 8)) (hk : kr none (sr J (y + 2) (rmR J y nV n lg nV)) E) : Ex Γ l sh (d + 3) (0, 0) mDy_remember [.ref y, .ref t] J E kr kx := by
  refine ex_of (ls0 := [some (.ref y), some (.ref t), none, none, none]) tDy_remember (by decide +kernel) kDy_remember rfl (Nat.le_of_ble_eq_true rfl) rfl ?_
  intro go hgo
  have hA0 := hA
  obtain ⟨ht, ⟨-, q1, -⟩, ⟨-, t2, -⟩, -, l2, -⟩ := hA
  obtain ⟨v7, v8, v9⟩ := id hV
  obtain ⟨ty, tn⟩ := hT
  obtain ⟨g3, g3t, g3l⟩ := tn 3 (by decide)
  have hN : tnN 3 = 9 := rfl
  rw [hN] at g3l
  have g3' : rget sh E t 3 = .ref (t + 4) := g3
  have g3t' : tyc sh E (t + 4) = 101 := g3t
  have g3l' : len sh E (t + 4) = 9 := g3l
  have e7 : ∀ r, sr J (y + 2) r y 7 = nI nV := fun r => by rw [sr_n (by omega)]; exact v7
  have e9 : ∀ r, sr J (y + 2) r y 9 = nI n := fun r => by rw [sr_n (by omega)]; exact hn
  have e4 : ∀ r, sr J (y + 2) r (t + 4) = J (t + 4) := fun r => sr_n (by omega)
  have hVr : ∀ r, DyV (sr J (y + 2) r) y nV := fun r => ⟨e7 r, by rw [sr_n (by omega)]; exact v8, v9⟩
  have eb : ∀ r, sr J (y + 2) r (y + 1) = J (y + 1) := fun r => sr_n (by omega)
  have loop : ∀ (g v : Nat) (x3 x4 : Option Value), g + v = nV → go 2 [some (.ref y), some (.ref t), some (.int (nI v)), x3, x4] [] (sr J (y + 2) (rmR J y nV n lg v)) E (0, 0) := by
    intro g
    induction g with
    | zero =>
      intro v x3 x4 hg
      have : v = nV := by omega
      subst this
      have c1 : (nI v ≤ nI v) = True := eq_true (Int32.le_refl _)
      refine hgo 20 [2] 2 _ _ _ _ _ ?_
      simp only [ixr_of, run_s, run_0, rDy_remember, rok_i, rok_z, bx_cons, bx_nil, eADD, eC0, eC1, eC3, eCV1, eCV2, eGI, eGO, eGR, eIALD, eIAST, jICge, jIFle, eINC2, eINC4, eLA0, eLA1, eLI2, eLI3, eLI4, eRV, eSI2, eSI3, eSI4, fDy_remember_0, fDy_remember_2, fDy_remember_10, fDy_remember_19, fDy_remember_43, fDy_remember_49, fDy_remember_73, fDy_remember_79, bDy_remember_0, bDy_remember_2, bDy_remember_10, bDy_remember_19, bDy_remember_43, bDy_remember_49, bDy_remember_73, bDy_remember_79, Option.toList_some, Option.toList_none, List.cons_append, List.nil_append, List.length_cons, List.length_nil, List.mem_cons, List.not_mem_nil, or_false, false_or, or_true, true_or, ↓reduceIte, true_and, and_true, Nat.reduceEqDiff, Nat.reduceAdd, Nat.reduceLeDiff, Nat.reduceLT, dl_i, dl_r, dl_n, dl_u, eq_self, not_true_eq_false, not_false_eq_true, n10, n01, nm0, n0m, ht, e7, c1, imp_t, imp_f]
      exact hk
    | succ g ih =>
      intro v x3 x4 hg
      have hv : v < nV := by omega
      obtain ⟨h5, hl⟩ := hlg v hv
      have c1 : (nI nV ≤ nI v) = False := by rw [nIl (by omega) (by omega)]; exact eq_false (by omega)
      have i9 : v < 9 := by omega
      have hp : pcl n v + 4 ≤ 180 := by unfold pcl; omega
      have nxt : ∀ x3 x4, go 73 [some (.ref y), some (.ref t), some (.int (nI v)), x3, x4] [] (sr J (y + 2) (rmR J y nV n lg (v + 1))) E (0, 0) := by
        intro x3 x4
        refine hgo 20 [2] 73 _ _ _ _ _ ?_
        simp only [ixr_of, run_s, run_0, rDy_remember, rok_i, rok_z, bx_cons, bx_nil, eADD, eC0, eC1, eC3, eCV1, eCV2, eGI, eGO, eGR, eIALD, eIAST, jICge, jIFle, eINC2, eINC4, eLA0, eLA1, eLI2, eLI3, eLI4, eRV, eSI2, eSI3, eSI4, fDy_remember_0, fDy_remember_2, fDy_remember_10, fDy_remember_19, fDy_remember_43, fDy_remember_49, fDy_remember_73, fDy_remember_79, bDy_remember_0, bDy_remember_2, bDy_remember_10, bDy_remember_19, bDy_remember_43, bDy_remember_49, bDy_remember_73, bDy_remember_79, Option.toList_some, Option.toList_none, List.cons_append, List.nil_append, List.length_cons, List.length_nil, List.mem_cons, List.not_mem_nil, or_false, false_or, or_true, true_or, ↓reduceIte, true_and, and_true, Nat.reduceEqDiff, Nat.reduceAdd, Nat.reduceLeDiff, Nat.reduceLT, dl_i, dl_r, dl_n, dl_u, eq_self, not_true_eq_false, not_false_eq_true, n10, n01, nm0, n0m, nI_add, imp_t, imp_f]
        exact ih (v + 1) x3 x4 (by omega)
      refine hgo 20 [2, 43, 73] 2 _ _ _ _ _ ?_
      simp only [ixr_of, run_s, run_0, rDy_remember, rok_i, rok_z, bx_cons, bx_nil, eADD, eC0, eC1, eC3, eCV1, eCV2, eGI, eGO, eGR, eIALD, eIAST, jICge, jIFle, eINC2, eINC4, eLA0, eLA1, eLI2, eLI3, eLI4, eRV, eSI2, eSI3, eSI4, fDy_remember_0, fDy_remember_2, fDy_remember_10, fDy_remember_19, fDy_remember_43, fDy_remember_49, fDy_remember_73, fDy_remember_79, bDy_remember_0, bDy_remember_2, bDy_remember_10, bDy_remember_19, bDy_remember_43, bDy_remember_49, bDy_remember_73, bDy_remember_79, Option.toList_some, Option.toList_none, List.cons_append, List.nil_append, List.length_cons, List.length_nil, List.mem_cons, List.not_mem_nil, or_false, false_or, or_true, true_or, ↓reduceIte, true_and, and_true, Nat.reduceEqDiff, Nat.reduceAdd, Nat.reduceLeDiff, Nat.reduceLT, dl_i, dl_r, dl_n, dl_u, eq_self, not_true_eq_false, not_false_eq_true, n10, n01, nm0, n0m, ht, ty, e7, c1, g3', g3t', g3l', i9, e4, hl, imp_t, imp_f]
      by_cases q : 0 < lg v
      · have c2 : (nI (lg v) ≤ nI 0) = False := by rw [nIl (by omega) (by omega)]; exact eq_false (by omega)
        have st : ∀ (h : Nat) (r : Nat → Int32), h < 3 → go 43 [some (.ref y), some (.ref t), some (.int (nI v)), some (.int (nI (pcl n v))), some (.int (nI (h + 1)))] [] (sr J (y + 2) (ru r (pcl n v + 1 + h) (hbD J y nV v h))) E (0, 0) → go 43 [some (.ref y), some (.ref t), some (.int (nI v)), some (.int (nI (pcl n v))), some (.int (nI h))] [] (sr J (y + 2) r) E (0, 0) := by
          intro h r hh hg
          have c3 : (nI 3 ≤ nI h) = False := by rw [nIl (by omega) (by omega)]; exact eq_false (by omega)
          have i1 : pcl n v + 1 + h < 180 := by omega
          refine hgo 20 [43, 73] 43 _ _ _ _ _ ?_
          simp only [ixr_of, run_s, run_0, rDy_remember, rok_i, rok_z, bx_cons, bx_nil, eADD, eC0, eC1, eC3, eCV1, eCV2, eGI, eGO, eGR, eIALD, eIAST, jICge, jIFle, eINC2, eINC4, eLA0, eLA1, eLI2, eLI3, eLI4, eRV, eSI2, eSI3, eSI4, fDy_remember_0, fDy_remember_2, fDy_remember_10, fDy_remember_19, fDy_remember_43, fDy_remember_49, fDy_remember_73, fDy_remember_79, bDy_remember_0, bDy_remember_2, bDy_remember_10, bDy_remember_19, bDy_remember_43, bDy_remember_49, bDy_remember_73, bDy_remember_79, Option.toList_some, Option.toList_none, List.cons_append, List.nil_append, List.length_cons, List.length_nil, List.mem_cons, List.not_mem_nil, or_false, false_or, or_true, true_or, ↓reduceIte, true_and, and_true, Nat.reduceEqDiff, Nat.reduceAdd, Nat.reduceLeDiff, Nat.reduceLT, dl_i, dl_r, dl_n, dl_u, eq_self, not_true_eq_false, not_false_eq_true, n10, n01, nm0, n0m, ht, q1, c3, nI_add, imp_t, imp_f]
          refine call0 (x_herbIn hA0 (hVr r) hv hh ?_)
          rw [eb]
          simp only [ixr_of, run_s, run_0, rDy_remember, rok_i, rok_z, bx_cons, bx_nil, eADD, eC0, eC1, eC3, eCV1, eCV2, eGI, eGO, eGR, eIALD, eIAST, jICge, jIFle, eINC2, eINC4, eLA0, eLA1, eLI2, eLI3, eLI4, eRV, eSI2, eSI3, eSI4, fDy_remember_0, fDy_remember_2, fDy_remember_10, fDy_remember_19, fDy_remember_43, fDy_remember_49, fDy_remember_73, fDy_remember_79, bDy_remember_0, bDy_remember_2, bDy_remember_10, bDy_remember_19, bDy_remember_43, bDy_remember_49, bDy_remember_73, bDy_remember_79, Option.toList_some, Option.toList_none, List.cons_append, List.nil_append, List.length_cons, List.length_nil, List.mem_cons, List.not_mem_nil, or_false, false_or, or_true, true_or, ↓reduceIte, true_and, and_true, Nat.reduceEqDiff, Nat.reduceAdd, Nat.reduceLeDiff, Nat.reduceLT, dl_i, dl_r, dl_n, dl_u, eq_self, not_true_eq_false, not_false_eq_true, n10, n01, nm0, n0m, t2, l2, i1, nI_add, up_sr, imp_t, imp_f]
          exact hg
        simp only [ixr_of, run_s, run_0, rDy_remember, rok_i, rok_z, bx_cons, bx_nil, eADD, eC0, eC1, eC3, eCV1, eCV2, eGI, eGO, eGR, eIALD, eIAST, jICge, jIFle, eINC2, eINC4, eLA0, eLA1, eLI2, eLI3, eLI4, eRV, eSI2, eSI3, eSI4, fDy_remember_0, fDy_remember_2, fDy_remember_10, fDy_remember_19, fDy_remember_43, fDy_remember_49, fDy_remember_73, fDy_remember_79, bDy_remember_0, bDy_remember_2, bDy_remember_10, bDy_remember_19, bDy_remember_43, bDy_remember_49, bDy_remember_73, bDy_remember_79, Option.toList_some, Option.toList_none, List.cons_append, List.nil_append, List.length_cons, List.length_nil, List.mem_cons, List.not_mem_nil, or_false, false_or, or_true, true_or, ↓reduceIte, true_and, and_true, Nat.reduceEqDiff, Nat.reduceAdd, Nat.reduceLeDiff, Nat.reduceLT, dl_i, dl_r, dl_n, dl_u, eq_self, not_true_eq_false, not_false_eq_true, n10, n01, nm0, n0m, ht, e7, e9, c2, q1, imp_t, imp_f]
        refine call0 (x_pastCell (n := n) (by unfold mxI; by_cases z : nI 0 < nI n; rw [if_pos z]; rw [if_neg z]; exact Int32.le_antisymm (nI_le (by omega) (by omega)) (Int32.not_lt.mp z)) (by omega) ?_)
        have hpe : (n % 5 * 9 + v) * 4 = pcl n v := rfl
        simp only [ixr_of, run_s, run_0, rDy_remember, rok_i, rok_z, bx_cons, bx_nil, eADD, eC0, eC1, eC3, eCV1, eCV2, eGI, eGO, eGR, eIALD, eIAST, jICge, jIFle, eINC2, eINC4, eLA0, eLA1, eLI2, eLI3, eLI4, eRV, eSI2, eSI3, eSI4, fDy_remember_0, fDy_remember_2, fDy_remember_10, fDy_remember_19, fDy_remember_43, fDy_remember_49, fDy_remember_73, fDy_remember_79, bDy_remember_0, bDy_remember_2, bDy_remember_10, bDy_remember_19, bDy_remember_43, bDy_remember_49, bDy_remember_73, bDy_remember_79, Option.toList_some, Option.toList_none, List.cons_append, List.nil_append, List.length_cons, List.length_nil, List.mem_cons, List.not_mem_nil, or_false, false_or, or_true, true_or, ↓reduceIte, true_and, and_true, Nat.reduceEqDiff, Nat.reduceAdd, Nat.reduceLeDiff, Nat.reduceLT, dl_i, dl_r, dl_n, dl_u, eq_self, not_true_eq_false, not_false_eq_true, n10, n01, nm0, n0m, ht, q1, hpe, imp_t, imp_f]
        refine call0 (x_waterIn hA0 (hVr _) hv ?_)
        rw [eb]
        have i2 : pcl n v < 180 := by omega
        simp only [ixr_of, run_s, run_0, rDy_remember, rok_i, rok_z, bx_cons, bx_nil, eADD, eC0, eC1, eC3, eCV1, eCV2, eGI, eGO, eGR, eIALD, eIAST, jICge, jIFle, eINC2, eINC4, eLA0, eLA1, eLI2, eLI3, eLI4, eRV, eSI2, eSI3, eSI4, fDy_remember_0, fDy_remember_2, fDy_remember_10, fDy_remember_19, fDy_remember_43, fDy_remember_49, fDy_remember_73, fDy_remember_79, bDy_remember_0, bDy_remember_2, bDy_remember_10, bDy_remember_19, bDy_remember_43, bDy_remember_49, bDy_remember_73, bDy_remember_79, Option.toList_some, Option.toList_none, List.cons_append, List.nil_append, List.length_cons, List.length_nil, List.mem_cons, List.not_mem_nil, or_false, false_or, or_true, true_or, ↓reduceIte, true_and, and_true, Nat.reduceEqDiff, Nat.reduceAdd, Nat.reduceLeDiff, Nat.reduceLT, dl_i, dl_r, dl_n, dl_u, eq_self, not_true_eq_false, not_false_eq_true, n10, n01, nm0, n0m, ht, t2, l2, i2, up_sr, imp_t, imp_f]
        refine st 0 _ (by decide) (st 1 _ (by decide) (st 2 _ (by decide) ?_))
        refine hgo 20 [43, 73] 43 _ _ _ _ _ ?_
        simp only [ixr_of, run_s, run_0, rDy_remember, rok_i, rok_z, bx_cons, bx_nil, eADD, eC0, eC1, eC3, eCV1, eCV2, eGI, eGO, eGR, eIALD, eIAST, jICge, jIFle, eINC2, eINC4, eLA0, eLA1, eLI2, eLI3, eLI4, eRV, eSI2, eSI3, eSI4, fDy_remember_0, fDy_remember_2, fDy_remember_10, fDy_remember_19, fDy_remember_43, fDy_remember_49, fDy_remember_73, fDy_remember_79, bDy_remember_0, bDy_remember_2, bDy_remember_10, bDy_remember_19, bDy_remember_43, bDy_remember_49, bDy_remember_73, bDy_remember_79, Option.toList_some, Option.toList_none, List.cons_append, List.nil_append, List.length_cons, List.length_nil, List.mem_cons, List.not_mem_nil, or_false, false_or, or_true, true_or, ↓reduceIte, true_and, and_true, Nat.reduceEqDiff, Nat.reduceAdd, Nat.reduceLeDiff, Nat.reduceLT, dl_i, dl_r, dl_n, dl_u, eq_self, not_true_eq_false, not_false_eq_true, n10, n01, nm0, n0m, imp_t, imp_f]
        refine ⟨fun _ => ?_, fun z => absurd (Int32.le_refl _) z⟩
        have := nxt (some (.int (nI (pcl n v)))) (some (.int (nI 3)))
        rw [show rmR J y nV n lg (v + 1) = _ from if_pos q] at this
        exact this
      · have hz : lg v = 0 := by omega
        rw [hz]
        refine ⟨fun _ => ?_, fun z => absurd (Int32.le_refl _) z⟩
        have := nxt x3 x4
        rw [show rmR J y nV n lg (v + 1) = _ from if_neg q] at this
        exact this
  refine hgo 20 [2] 0 _ _ _ _ _ ?_
  simp only [ixr_of, run_s, run_0, rDy_remember, rok_i, rok_z, bx_cons, bx_nil, eADD, eC0, eC1, eC3, eCV1, eCV2, eGI, eGO, eGR, eIALD, eIAST, jICge, jIFle, eINC2, eINC4, eLA0, eLA1, eLI2, eLI3, eLI4, eRV, eSI2, eSI3, eSI4, fDy_remember_0, fDy_remember_2, fDy_remember_10, fDy_remember_19, fDy_remember_43, fDy_remember_49, fDy_remember_73, fDy_remember_79, bDy_remember_0, bDy_remember_2, bDy_remember_10, bDy_remember_19, bDy_remember_43, bDy_remember_49, bDy_remember_73, bDy_remember_79, Option.toList_some, Option.toList_none, List.cons_append, List.nil_append, List.length_cons, List.length_nil, List.mem_cons, List.not_mem_nil, or_false, false_or, or_true, true_or, ↓reduceIte, true_and, and_true, Nat.reduceEqDiff, Nat.reduceAdd, Nat.reduceLeDiff, Nat.reduceLT, dl_i, dl_r, dl_n, dl_u, eq_self, not_true_eq_false, not_false_eq_true, n10, n01, nm0, n0m, imp_t, imp_f]
  have := loop nV 0 none none (by omega)
  rw [show rmR J y nV n lg 0 = J (y + 2) from rfl, sr_id] at this
  exact this
end XDr
