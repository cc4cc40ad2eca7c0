/-! contracts of HerbWatersModel, 27: opinions -/
/-- a part: its herb, the codes of its sum, of its condition -/
abbrev Pt : Type := Nat × List Cd × List Cd
abbrev Rx (α : Type) : Type := Except (Nat × Nat) α
def ptS (T : Nat → Int32) (n np a : Nat) : Rx (Nat × Pt) :=
  if ¬ wcode T n (sk T n a) = w_put then .error (1, sk T n a)
  else if np = 6 then .error (3, sk T n a)
  else if ¬ hbW (wcode T n (sk T n (wEnd T n (sk T n a)))) < 3 then .error (1, sk T n (wEnd T n (sk T n a)))
  else match sumD T n 6 (wEnd T n (sk T n (wEnd T n (sk T n a)))) with
    | .error e => .error e
    | .ok (x, M1) => if wcode T n (sk T n x) = w_if then (match anyW T n (oneD T n 6) (wEnd T n (sk T n x)) with
        | .error e => .error e
        | .ok (y, M2) => match sgS T n (nI 59) y with
          | .error e => .error e
          | .ok (z, _) => .ok (z, hbW (wcode T n (sk T n (wEnd T n (sk T n a)))), M1, M2))
      else match sgS T n (nI 59) (sk T n x) with
        | .error e => .error e
        | .ok (z, _) => .ok (z, hbW (wcode T n (sk T n (wEnd T n (sk T n a)))), M1, [])
def opL (T : Nat → Int32) (n : Nat) : Nat → Nat → Nat → Rx (List Pt)
  | 0, _, _ => .ok []
  | g + 1, np, a => if n ≤ sk T n a then .ok [] else match ptS T n np a with
    | .error e => .error e
    | .ok (b, p) => match opL T n g (np + 1) b with
      | .error e => .error e
      | .ok ps => .ok (p :: ps)
/-- all codes of the parts -/
def cdA : List Pt → List Cd
  | [] => []
  | p :: ps => p.2.1 ++ p.2.2 ++ cdA ps
theorem cdA_app : ∀ ps qs, cdA (ps ++ qs) = cdA ps ++ cdA qs
  | [], _ => rfl
  | p :: ps, qs => by
    show p.2.1 ++ p.2.2 ++ cdA (ps ++ qs) = _
    rw [cdA_app ps qs, ← List.append_assoc]
    rfl
/-- the row of parts -/
def PRt (r : Nat → Int32) (ps : List Pt) : Prop := ∀ p x, ps[p]? = some x → r (4 * p) = nI x.1 ∧ r (4 * p + 1) = nI (cdA (ps.take p)).length ∧ r (4 * p + 2) = nI ((cdA (ps.take p)).length + x.2.1.length) ∧ r (4 * p + 3) = nI ((cdA (ps.take p)).length + x.2.1.length + x.2.2.length)
def Fp (I J : Iv) : Prop := (∀ i, i ≠ 500000 → i ≠ 500090 → i ≠ 500089 → J i = I i) ∧ ∀ j, j ≠ 4 → j ≠ 5 → j ≠ 6 → j ≠ 8 → j ≠ 26 → j ≠ 27 → j ≠ 25 → J 500000 j = I 500000 j
theorem Fp.rf {I : Iv} : Fp I I := ⟨fun _ _ _ _ => rfl, fun _ _ _ _ _ _ _ _ => rfl⟩
theorem Fp.tr {I J K : Iv} (h : Fp I J) (h2 : Fp J K) : Fp I K := ⟨fun i a b c => (h2.1 i a b c).trans (h.1 i a b c), fun j a b c d e f g => (h2.2 j a b c d e f g).trans (h.2 j a b c d e f g)⟩
theorem Fo.fp {I J : Iv} (h : Fo I J) : Fp I J := ⟨fun i a b _ => h.1 i a b, fun j a b c d e f _ => h.2 j a b c d e f⟩
theorem Fp.fl {I : Iv} {x : Int32} : Fp I (up I 500000 25 x) := ⟨fun i a _ _ => by funext q; exact up_n (by omega), fun q _ _ _ _ _ _ g => up_n (by omega)⟩
theorem Fp.el {I : Iv} {k : Nat} {x : Int32} : Fp I (up I 500089 k x) := ⟨fun i _ _ c => by funext q; exact up_n (by omega), fun q _ _ _ _ _ _ _ => up_n (by omega)⟩
theorem OSt.pl {T : Nat → Int32} {n : Nat} {I : Iv} {a o j : Nat} {L : List Cd} {x : Int32} (h : OSt T n I a o L) (hj : j = 25) : OSt T n (up I 500000 j x) a o L := by
  subst hj
  obtain ⟨h1, h2, h3, h4, h5, h6, h7, h8, h9, h10, h11, h12⟩ := h
  refine ⟨by rw [tx_fl, h1], by rw [up_n (by decide), h2], ⟨h3.1, by rw [up_n (by decide), h3.2]⟩, by rw [up_n (by decide), h4], h5, by rw [up_n (by decide), h6], by rw [up_n (by decide), h7], h8, by rw [up_n (by decide), h9], h10, fun k c hk => ?_, by rw [up_n (by decide), h12]⟩
  rw [up_n (by omega), up_n (by omega)]
  exact h11 k c hk
theorem OSt.pe {T : Nat → Int32} {n : Nat} {I : Iv} {a o k : Nat} {L : List Cd} {x : Int32} (h : OSt T n I a o L) : OSt T n (up I 500089 k x) a o L := by
  obtain ⟨h1, h2, h3, h4, h5, h6, h7, h8, h9, h10, h11, h12⟩ := h
  refine ⟨by rw [tx_up (by decide), h1], by rw [up_n (by omega), h2], ⟨h3.1, by rw [up_n (by omega), h3.2]⟩, by rw [up_n (by omega), h4], h5, by rw [up_n (by omega), h6], by rw [up_n (by omega), h7], h8, by rw [up_n (by omega), h9], h10, fun k c hk => ?_, by rw [up_n (by omega), h12]⟩
  rw [up_n (by omega), up_n (by omega)]
  exact h11 k c hk
theorem OEr.pe {n : Nat} {J : Iv} {e : Nat × Nat} {k : Nat} {x : Int32} (h : OEr n J e) : OEr n (up J 500089 k x) e := ⟨by rw [up_n (by omega)]; exact h.1, by rw [up_n (by omega)]; exact h.2.1, h.2.2.1, h.2.2.2.1, by rw [up_n (by omega)]; exact h.2.2.2.2⟩
section CM28
variable {Γ : Gm} {l : Launch} {d : Nat} {I : Iv} {E : Ev} {kr : Kr} {kx : Kxx} {T : Nat → Int32} {n a : Nat}
theorem c_partHere {ps : List Pt} (hT : Tx T n) (hO : OSt T n I a 0 (cdA ps)) (hp : I 500000 25 = nI ps.length) (hp6 : ps.length ≤ 6) (hr : PRt (I 500089) ps)
    (ho : ∀ b p J, ptS T n ps.length a = .ok (b, p) → Fp I J → OSt T n J b 0 (cdA (ps ++ [p])) → J 500000 25 = nI (ps.length + 1) → PRt (J 500089) (ps ++ [p]) → kr none J E)
    (he : ∀ e J, ptS T n ps.length a = .error e → Fp I J → OEr n J e → kr none J E) : Ex Γ l shN (d + 32) (0, 0) mM_partHere [.ref 500000] I E kr kx := by
  have hf : I 500000 5 = nI 0 := hO.2.2.2.2.2.1
  have ha : a ≤ n := hO.2.2.2.2.1
  have hs := sk_b (t := T) ha
  have hLa := hO.2.2.2.2.2.2.2.2.2.1
  have skk : sk T n (sk T n a) = sk T n a := sk_sk ha
  refine ex_of (ls0 := [some (.ref 500000), none, none]) tM_partHere (by decide +kernel) kM_partHere rfl (Nat.le_of_ble_eq_true rfl) rfl ?_
  intro go hgo
  refine hgo 20 [47] 0 _ _ _ _ _ ?_
  simp only [ixr_of, run_s, run_0, rM_partHere, rok_i, rok_z, bx_cons, bx_nil, eADD, eBP, eC0, eC1, eC2, eC3, eC4, eCV0, eCV1, eCV2, eCV7, eCm1, eDUPr, eGI, eGO, eGR, eIAST, jICne, jIFeq, jIFne, eLA0, eLI1, eLI2, eMUL, ePI, eRV, eSI1, eSI2, fM_partHere_0, fM_partHere_17, fM_partHere_29, fM_partHere_38, fM_partHere_47, fM_partHere_54, fM_partHere_55, fM_partHere_76, fM_partHere_85, fM_partHere_92, fM_partHere_93, fM_partHere_154, fM_partHere_158, bM_partHere_0, bM_partHere_17, bM_partHere_29, bM_partHere_38, bM_partHere_47, bM_partHere_54, bM_partHere_55, bM_partHere_76, bM_partHere_85, bM_partHere_92, bM_partHere_93, bM_partHere_154, bM_partHere_158, ln_mreadPart, rg_m_21, ty_m, ty_mreadPart, Option.toList_some, Option.toList_none, List.cons_append, List.nil_append, List.length_cons, List.length_nil, List.mem_cons, List.not_mem_nil, or_false, false_or, or_true, true_or, ↓reduceIte, true_and, and_true, Nat.reduceEqDiff, Nat.reduceAdd, Nat.reduceLeDiff, Nat.reduceLT, dl_i, dl_r, dl_n, dl_u, eq_self, not_true_eq_false, not_false_eq_true, n10, n01, nm0, n0m, imp_t, imp_f]
  refine call0 (o_isWord hO ?_)
  intro J hJ hO1
  have hFJ : Fo I J := by rw [hJ]; exact Fo.fl (by decide)
  have hpJ : J 500000 25 = nI ps.length := by rw [hFJ.2 _ (by decide) (by decide) (by decide) (by decide) (by decide) (by decide), hp]
  have er : ∀ (K : Iv) (e : Nat × Nat), ptS T n ps.length a = .error e → Fp I K → OEr n K e → go 47 [some (.ref 500000), none, none] [] K E (0, 0) := by
    intro K e hv hK hE
    refine hgo 20 [55] 47 _ _ _ _ _ ?_
    simp only [ixr_of, run_s, run_0, rM_partHere, rok_i, rok_z, bx_cons, bx_nil, eADD, eBP, eC0, eC1, eC2, eC3, eC4, eCV0, eCV1, eCV2, eCV7, eCm1, eDUPr, eGI, eGO, eGR, eIAST, jICne, jIFeq, jIFne, eLA0, eLI1, eLI2, eMUL, ePI, eRV, eSI1, eSI2, fM_partHere_0, fM_partHere_17, fM_partHere_29, fM_partHere_38, fM_partHere_47, fM_partHere_54, fM_partHere_55, fM_partHere_76, fM_partHere_85, fM_partHere_92, fM_partHere_93, fM_partHere_154, fM_partHere_158, bM_partHere_0, bM_partHere_17, bM_partHere_29, bM_partHere_38, bM_partHere_47, bM_partHere_54, bM_partHere_55, bM_partHere_76, bM_partHere_85, bM_partHere_92, bM_partHere_93, bM_partHere_154, bM_partHere_158, ln_mreadPart, rg_m_21, ty_m, ty_mreadPart, Option.toList_some, Option.toList_none, List.cons_append, List.nil_append, List.length_cons, List.length_nil, List.mem_cons, List.not_mem_nil, or_false, false_or, or_true, true_or, ↓reduceIte, true_and, and_true, Nat.reduceEqDiff, Nat.reduceAdd, Nat.reduceLeDiff, Nat.reduceLT, dl_i, dl_r, dl_n, dl_u, eq_self, not_true_eq_false, not_false_eq_true, n10, n01, nm0, n0m, imp_t, imp_f]
    exact ⟨fun q => absurd q hE.nz, fun _ => he e K hv hK hE⟩
  simp only [ixr_of, run_s, run_0, rM_partHere, rok_i, rok_z, bx_cons, bx_nil, eADD, eBP, eC0, eC1, eC2, eC3, eC4, eCV0, eCV1, eCV2, eCV7, eCm1, eDUPr, eGI, eGO, eGR, eIAST, jICne, jIFeq, jIFne, eLA0, eLI1, eLI2, eMUL, ePI, eRV, eSI1, eSI2, fM_partHere_0, fM_partHere_17, fM_partHere_29, fM_partHere_38, fM_partHere_47, fM_partHere_54, fM_partHere_55, fM_partHere_76, fM_partHere_85, fM_partHere_92, fM_partHere_93, fM_partHere_154, fM_partHere_158, bM_partHere_0, bM_partHere_17, bM_partHere_29, bM_partHere_38, bM_partHere_47, bM_partHere_54, bM_partHere_55, bM_partHere_76, bM_partHere_85, bM_partHere_92, bM_partHere_93, bM_partHere_154, bM_partHere_158, ln_mreadPart, rg_m_21, ty_m, ty_mreadPart, Option.toList_some, Option.toList_none, List.cons_append, List.nil_append, List.length_cons, List.length_nil, List.mem_cons, List.not_mem_nil, or_false, false_or, or_true, true_or, ↓reduceIte, true_and, and_true, Nat.reduceEqDiff, Nat.reduceAdd, Nat.reduceLeDiff, Nat.reduceLT, dl_i, dl_r, dl_n, dl_u, eq_self, not_true_eq_false, not_false_eq_true, n10, n01, nm0, n0m, hpJ, imp_t, imp_f]
  rw [hO1.atq, nIe (by omega) (by decide), bi_0]
  refine ⟨fun q => ⟨fun q6 => ?_, fun q6 => ?_⟩, fun q => ?_⟩
  · have q : wcode T n (sk T n a) = w_put := Decidable.not_not.mp q
    have hw := wEnd_lt hs.2 q (by decide)
    obtain ⟨b1, hb1⟩ : ∃ b1, b1 = wEnd T n (sk T n a) := ⟨_, rfl⟩
    rw [← hb1] at hw
    have hs1 := sk_b (t := T) hw.2
    have skk1 : sk T n (sk T n b1) = sk T n b1 := sk_sk hw.2
    have hfJ : J 500000 5 = nI 0 := hO1.2.2.2.2.2.1
    refine hgo 20 [85, 158] 47 _ _ _ _ _ ?_
    simp only [ixr_of, run_s, run_0, rM_partHere, rok_i, rok_z, bx_cons, bx_nil, eADD, eBP, eC0, eC1, eC2, eC3, eC4, eCV0, eCV1, eCV2, eCV7, eCm1, eDUPr, eGI, eGO, eGR, eIAST, jICne, jIFeq, jIFne, eLA0, eLI1, eLI2, eMUL, ePI, eRV, eSI1, eSI2, fM_partHere_0, fM_partHere_17, fM_partHere_29, fM_partHere_38, fM_partHere_47, fM_partHere_54, fM_partHere_55, fM_partHere_76, fM_partHere_85, fM_partHere_92, fM_partHere_93, fM_partHere_154, fM_partHere_158, bM_partHere_0, bM_partHere_17, bM_partHere_29, bM_partHere_38, bM_partHere_47, bM_partHere_54, bM_partHere_55, bM_partHere_76, bM_partHere_85, bM_partHere_92, bM_partHere_93, bM_partHere_154, bM_partHere_158, ln_mreadPart, rg_m_21, ty_m, ty_mreadPart, Option.toList_some, Option.toList_none, List.cons_append, List.nil_append, List.length_cons, List.length_nil, List.mem_cons, List.not_mem_nil, or_false, false_or, or_true, true_or, ↓reduceIte, true_and, and_true, Nat.reduceEqDiff, Nat.reduceAdd, Nat.reduceLeDiff, Nat.reduceLT, dl_i, dl_r, dl_n, dl_u, eq_self, not_true_eq_false, not_false_eq_true, n10, n01, nm0, n0m, hfJ, imp_t, imp_f]
    refine call0 (o_skipWord hO1 ?_)
    intro K hK hO2
    rw [← hb1] at hO2
    have hFK := hFJ.tr hK
    simp only [ixr_of, run_s, run_0, rM_partHere, rok_i, rok_z, bx_cons, bx_nil, eADD, eBP, eC0, eC1, eC2, eC3, eC4, eCV0, eCV1, eCV2, eCV7, eCm1, eDUPr, eGI, eGO, eGR, eIAST, jICne, jIFeq, jIFne, eLA0, eLI1, eLI2, eMUL, ePI, eRV, eSI1, eSI2, fM_partHere_0, fM_partHere_17, fM_partHere_29, fM_partHere_38, fM_partHere_47, fM_partHere_54, fM_partHere_55, fM_partHere_76, fM_partHere_85, fM_partHere_92, fM_partHere_93, fM_partHere_154, fM_partHere_158, bM_partHere_0, bM_partHere_17, bM_partHere_29, bM_partHere_38, bM_partHere_47, bM_partHere_54, bM_partHere_55, bM_partHere_76, bM_partHere_85, bM_partHere_92, bM_partHere_93, bM_partHere_154, bM_partHere_158, ln_mreadPart, rg_m_21, ty_m, ty_mreadPart, Option.toList_some, Option.toList_none, List.cons_append, List.nil_append, List.length_cons, List.length_nil, List.mem_cons, List.not_mem_nil, or_false, false_or, or_true, true_or, ↓reduceIte, true_and, and_true, Nat.reduceEqDiff, Nat.reduceAdd, Nat.reduceLeDiff, Nat.reduceLT, dl_i, dl_r, dl_n, dl_u, eq_self, not_true_eq_false, not_false_eq_true, n10, n01, nm0, n0m, imp_t, imp_f]
    refine call0 (o_herbHere hO2 (fun hb hhb hb3 P hP hOP => ?_) (fun hhb P hP hOP => ?_))
    · have hFP := hFK.tr hP
      have hpP : P 500000 25 = nI ps.length := by rw [hFP.2 _ (by decide) (by decide) (by decide) (by decide) (by decide) (by decide), hp]
      simp only [ixr_of, run_s, run_0, rM_partHere, rok_i, rok_z, bx_cons, bx_nil, eADD, eBP, eC0, eC1, eC2, eC3, eC4, eCV0, eCV1, eCV2, eCV7, eCm1, eDUPr, eGI, eGO, eGR, eIAST, jICne, jIFeq, jIFne, eLA0, eLI1, eLI2, eMUL, ePI, eRV, eSI1, eSI2, fM_partHere_0, fM_partHere_17, fM_partHere_29, fM_partHere_38, fM_partHere_47, fM_partHere_54, fM_partHere_55, fM_partHere_76, fM_partHere_85, fM_partHere_92, fM_partHere_93, fM_partHere_154, fM_partHere_158, bM_partHere_0, bM_partHere_17, bM_partHere_29, bM_partHere_38, bM_partHere_47, bM_partHere_54, bM_partHere_55, bM_partHere_76, bM_partHere_85, bM_partHere_92, bM_partHere_93, bM_partHere_154, bM_partHere_158, ln_mreadPart, rg_m_21, ty_m, ty_mreadPart, Option.toList_some, Option.toList_none, List.cons_append, List.nil_append, List.length_cons, List.length_nil, List.mem_cons, List.not_mem_nil, or_false, false_or, or_true, true_or, ↓reduceIte, true_and, and_true, Nat.reduceEqDiff, Nat.reduceAdd, Nat.reduceLeDiff, Nat.reduceLT, dl_i, dl_r, dl_n, dl_u, eq_self, not_true_eq_false, not_false_eq_true, n10, n01, nm0, n0m, hpP, pk_mul, imp_t, imp_f]
      refine ⟨fun _ => ?_, fun c => absurd c (fun c => nIm hb (by omega) c.symm)⟩
      have hfP : P 500000 5 = nI 0 := hOP.2.2.2.2.2.1
      have hcP : P 500000 26 = nI (cdA ps).length := hOP.2.2.2.2.2.2.2.2.1
      have hl : ps.length < 6 := by omega
      have i0 : 4 * ps.length < 24 := by omega
      have i1 : 4 * ps.length + 1 < 24 := by omega
      have i2 : 4 * ps.length + 2 < 24 := by omega
      have i3 : 4 * ps.length + 3 < 24 := by omega
      obtain ⟨c1, hc1⟩ : ∃ c1, c1 = wEnd T n (sk T n b1) := ⟨_, rfl⟩
      have hw1 : sk T n b1 < c1 ∧ c1 ≤ n := by
        rw [hc1]
        refine wEnd_lt hs1.2 rfl (fun c => ?_)
        rw [c] at hhb
        have : hbW (lN 0) = 3 := by decide
        omega
      rw [← hc1] at hOP
      have hval : ptS T n ps.length a = (match sumD T n 6 c1 with
        | .error e => .error e
        | .ok (x, M1) => if wcode T n (sk T n x) = w_if then (match anyW T n (oneD T n 6) (wEnd T n (sk T n x)) with
            | .error e => .error e
            | .ok (y, M2) => match sgS T n (nI 59) y with
              | .error e => .error e
              | .ok (z, _) => .ok (z, hb, M1, M2))
          else match sgS T n (nI 59) (sk T n x) with
            | .error e => .error e
            | .ok (z, _) => .ok (z, hb, M1, [])) := by
        unfold ptS
        rw [if_neg (fun c => c q), if_neg q6, ← hb1, hhb, if_neg (fun c => c hb3), ← hc1]
      -- the sum
      refine hgo 20 [158] 85 _ _ _ _ _ ?_
      simp only [ixr_of, run_s, run_0, rM_partHere, rok_i, rok_z, bx_cons, bx_nil, eADD, eBP, eC0, eC1, eC2, eC3, eC4, eCV0, eCV1, eCV2, eCV7, eCm1, eDUPr, eGI, eGO, eGR, eIAST, jICne, jIFeq, jIFne, eLA0, eLI1, eLI2, eMUL, ePI, eRV, eSI1, eSI2, fM_partHere_0, fM_partHere_17, fM_partHere_29, fM_partHere_38, fM_partHere_47, fM_partHere_54, fM_partHere_55, fM_partHere_76, fM_partHere_85, fM_partHere_92, fM_partHere_93, fM_partHere_154, fM_partHere_158, bM_partHere_0, bM_partHere_17, bM_partHere_29, bM_partHere_38, bM_partHere_47, bM_partHere_54, bM_partHere_55, bM_partHere_76, bM_partHere_85, bM_partHere_92, bM_partHere_93, bM_partHere_154, bM_partHere_158, ln_mreadPart, rg_m_21, ty_m, ty_mreadPart, Option.toList_some, Option.toList_none, List.cons_append, List.nil_append, List.length_cons, List.length_nil, List.mem_cons, List.not_mem_nil, or_false, false_or, or_true, true_or, ↓reduceIte, true_and, and_true, Nat.reduceEqDiff, Nat.reduceAdd, Nat.reduceLeDiff, Nat.reduceLT, dl_i, dl_r, dl_n, dl_u, eq_self, not_true_eq_false, not_false_eq_true, n10, n01, nm0, n0m, hfP, hpP, nI_add, i0, i1, up_n (show ¬ ((500000:Nat) = 500000 ∧ (26:Nat) = 25) by decide), hcP, imp_t, imp_f]
      obtain ⟨S0, hS0⟩ : ∃ S0, S0 = up (up (up P 500000 25 (nI (ps.length + 1))) 500089 (4 * ps.length) (nI hb)) 500089 (4 * ps.length + 1) (nI (cdA ps).length) := ⟨_, rfl⟩
      have hO0 : OSt T n S0 c1 0 (cdA ps) := by rw [hS0]; exact ((hOP.pl rfl).pe).pe
      have hF0 : Fp I S0 := by rw [hS0]; exact ((hFP.fp.tr Fp.fl).tr Fp.el).tr Fp.el
      have r0 : S0 500089 (4 * ps.length) = nI hb := by rw [hS0, up_n (by omega), up_s]
      have r1 : S0 500089 (4 * ps.length + 1) = nI (cdA ps).length := by rw [hS0, up_s]
      have rp : ∀ k, k < 4 * ps.length → S0 500089 k = I 500089 k := fun k hk => by rw [hS0, up_n (by omega), up_n (by omega), up_n (by omega), hFP.1 500089 (by decide) (by decide)]
      have hpp : S0 500000 25 = nI (ps.length + 1) := by rw [hS0, up_n (by omega), up_n (by omega), up_s]
      have er158 : ∀ (K : Iv) (e : Nat × Nat), ptS T n ps.length a = .error e → Fp I K → OEr n K e → go 158 [some (.ref 500000), some (.int (nI hb)), some (.int (nI (4 * ps.length)))] [] K E (0, 0) := by
        intro K e hv hK hE
        refine hgo 20 [] 158 _ _ _ _ _ ?_
        simp only [ixr_of, run_s, run_0, rM_partHere, rok_i, rok_z, bx_cons, bx_nil, eADD, eBP, eC0, eC1, eC2, eC3, eC4, eCV0, eCV1, eCV2, eCV7, eCm1, eDUPr, eGI, eGO, eGR, eIAST, jICne, jIFeq, jIFne, eLA0, eLI1, eLI2, eMUL, ePI, eRV, eSI1, eSI2, fM_partHere_0, fM_partHere_17, fM_partHere_29, fM_partHere_38, fM_partHere_47, fM_partHere_54, fM_partHere_55, fM_partHere_76, fM_partHere_85, fM_partHere_92, fM_partHere_93, fM_partHere_154, fM_partHere_158, bM_partHere_0, bM_partHere_17, bM_partHere_29, bM_partHere_38, bM_partHere_47, bM_partHere_54, bM_partHere_55, bM_partHere_76, bM_partHere_85, bM_partHere_92, bM_partHere_93, bM_partHere_154, bM_partHere_158, ln_mreadPart, rg_m_21, ty_m, ty_mreadPart, Option.toList_some, Option.toList_none, List.cons_append, List.nil_append, List.length_cons, List.length_nil, List.mem_cons, List.not_mem_nil, or_false, false_or, or_true, true_or, ↓reduceIte, true_and, and_true, Nat.reduceEqDiff, Nat.reduceAdd, Nat.reduceLeDiff, Nat.reduceLT, dl_i, dl_r, dl_n, dl_u, eq_self, not_true_eq_false, not_false_eq_true, n10, n01, nm0, n0m, nI_add, i3, imp_t, imp_f]
        refine call0 (f_sign hE.pe.nz ?_)
        simp only [ixr_of, run_s, run_0, rM_partHere, rok_i, rok_z, bx_cons, bx_nil, eADD, eBP, eC0, eC1, eC2, eC3, eC4, eCV0, eCV1, eCV2, eCV7, eCm1, eDUPr, eGI, eGO, eGR, eIAST, jICne, jIFeq, jIFne, eLA0, eLI1, eLI2, eMUL, ePI, eRV, eSI1, eSI2, fM_partHere_0, fM_partHere_17, fM_partHere_29, fM_partHere_38, fM_partHere_47, fM_partHere_54, fM_partHere_55, fM_partHere_76, fM_partHere_85, fM_partHere_92, fM_partHere_93, fM_partHere_154, fM_partHere_158, bM_partHere_0, bM_partHere_17, bM_partHere_29, bM_partHere_38, bM_partHere_47, bM_partHere_54, bM_partHere_55, bM_partHere_76, bM_partHere_85, bM_partHere_92, bM_partHere_93, bM_partHere_154, bM_partHere_158, ln_mreadPart, rg_m_21, ty_m, ty_mreadPart, Option.toList_some, Option.toList_none, List.cons_append, List.nil_append, List.length_cons, List.length_nil, List.mem_cons, List.not_mem_nil, or_false, false_or, or_true, true_or, ↓reduceIte, true_and, and_true, Nat.reduceEqDiff, Nat.reduceAdd, Nat.reduceLeDiff, Nat.reduceLT, dl_i, dl_r, dl_n, dl_u, eq_self, not_true_eq_false, not_false_eq_true, n10, n01, nm0, n0m, imp_t, imp_f]
        exact he e _ hv (hK.tr Fp.el) hE.pe
      have at158 : ∀ (K : Iv) (M1 M2 : List Cd) (y : Nat), OSt T n K y 0 (cdA ps ++ M1 ++ M2) → Fp I K → K 500000 25 = nI (ps.length + 1) → (∀ k, k < 4 * ps.length → K 500089 k = I 500089 k) → K 500089 (4 * ps.length) = nI hb → K 500089 (4 * ps.length + 1) = nI (cdA ps).length → K 500089 (4 * ps.length + 2) = nI ((cdA ps).length + M1.length) →
          (∀ z, sgS T n (nI 59) y = .ok (z, []) → ptS T n ps.length a = .ok (z, hb, M1, M2)) → (∀ e, sgS T n (nI 59) y = .error e → ptS T n ps.length a = .error e) → go 158 [some (.ref 500000), some (.int (nI hb)), some (.int (nI (4 * ps.length)))] [] K E (0, 0) := by
        intro K M1 M2 y hOK hFK hKp hKr hK0 hK1 hK2 hvo hve
        have hcK : K 500000 26 = nI (cdA ps ++ M1 ++ M2).length := hOK.2.2.2.2.2.2.2.2.1
        refine hgo 20 [] 158 _ _ _ _ _ ?_
        simp only [ixr_of, run_s, run_0, rM_partHere, rok_i, rok_z, bx_cons, bx_nil, eADD, eBP, eC0, eC1, eC2, eC3, eC4, eCV0, eCV1, eCV2, eCV7, eCm1, eDUPr, eGI, eGO, eGR, eIAST, jICne, jIFeq, jIFne, eLA0, eLI1, eLI2, eMUL, ePI, eRV, eSI1, eSI2, fM_partHere_0, fM_partHere_17, fM_partHere_29, fM_partHere_38, fM_partHere_47, fM_partHere_54, fM_partHere_55, fM_partHere_76, fM_partHere_85, fM_partHere_92, fM_partHere_93, fM_partHere_154, fM_partHere_158, bM_partHere_0, bM_partHere_17, bM_partHere_29, bM_partHere_38, bM_partHere_47, bM_partHere_54, bM_partHere_55, bM_partHere_76, bM_partHere_85, bM_partHere_92, bM_partHere_93, bM_partHere_154, bM_partHere_158, ln_mreadPart, rg_m_21, ty_m, ty_mreadPart, Option.toList_some, Option.toList_none, List.cons_append, List.nil_append, List.length_cons, List.length_nil, List.mem_cons, List.not_mem_nil, or_false, false_or, or_true, true_or, ↓reduceIte, true_and, and_true, Nat.reduceEqDiff, Nat.reduceAdd, Nat.reduceLeDiff, Nat.reduceLT, dl_i, dl_r, dl_n, dl_u, eq_self, not_true_eq_false, not_false_eq_true, n10, n01, nm0, n0m, nI_add, i3, imp_t, imp_f]
        rw [hcK]
        refine call0 (o_sign hT hOK.pe (by decide) (fun z Q hS hQ hOQ => ?_) (fun e Q hS hQ hE => ?_))
        · simp only [ixr_of, run_s, run_0, rM_partHere, rok_i, rok_z, bx_cons, bx_nil, eADD, eBP, eC0, eC1, eC2, eC3, eC4, eCV0, eCV1, eCV2, eCV7, eCm1, eDUPr, eGI, eGO, eGR, eIAST, jICne, jIFeq, jIFne, eLA0, eLI1, eLI2, eMUL, ePI, eRV, eSI1, eSI2, fM_partHere_0, fM_partHere_17, fM_partHere_29, fM_partHere_38, fM_partHere_47, fM_partHere_54, fM_partHere_55, fM_partHere_76, fM_partHere_85, fM_partHere_92, fM_partHere_93, fM_partHere_154, fM_partHere_158, bM_partHere_0, bM_partHere_17, bM_partHere_29, bM_partHere_38, bM_partHere_47, bM_partHere_54, bM_partHere_55, bM_partHere_76, bM_partHere_85, bM_partHere_92, bM_partHere_93, bM_partHere_154, bM_partHere_158, ln_mreadPart, rg_m_21, ty_m, ty_mreadPart, Option.toList_some, Option.toList_none, List.cons_append, List.nil_append, List.length_cons, List.length_nil, List.mem_cons, List.not_mem_nil, or_false, false_or, or_true, true_or, ↓reduceIte, true_and, and_true, Nat.reduceEqDiff, Nat.reduceAdd, Nat.reduceLeDiff, Nat.reduceLT, dl_i, dl_r, dl_n, dl_u, eq_self, not_true_eq_false, not_false_eq_true, n10, n01, nm0, n0m, imp_t, imp_f]
          have er : Q 500089 = up K 500089 (4 * ps.length + 3) (nI (cdA ps ++ M1 ++ M2).length) 500089 := hQ.1 500089 (by decide) (by decide)
          have hcd : cdA (ps ++ [(hb, M1, M2)]) = cdA ps ++ M1 ++ M2 := by
            rw [cdA_app]
            show cdA ps ++ (M1 ++ M2 ++ []) = _
            rw [List.append_nil, List.append_assoc]
          refine ho z (hb, M1, M2) Q (hvo z hS) ((hFK.tr Fp.el).tr hQ.fp) (by rw [hcd]; exact hOQ) ?_ ?_
          · rw [hQ.2 _ (by decide) (by decide) (by decide) (by decide) (by decide) (by decide), up_n (by omega), hKp]
          · intro p x hx
            rw [er]
            by_cases e : p < ps.length
            · rw [List.getElem?_append_left e] at hx
              have := hr p x hx
              rw [List.take_append_of_le_length (by omega)]
              refine ⟨?_, ?_, ?_, ?_⟩
              · rw [up_n (by omega), hKr _ (by omega)]; exact this.1
              · rw [up_n (by omega), hKr _ (by omega)]; exact this.2.1
              · rw [up_n (by omega), hKr _ (by omega)]; exact this.2.2.1
              · rw [up_n (by omega), hKr _ (by omega)]; exact this.2.2.2
            · rw [List.getElem?_append_right (by omega)] at hx
              have e2 : p = ps.length := by
                by_cases e3 : p - ps.length = 0
                · omega
                · rw [List.getElem?_eq_none (by simp; omega)] at hx
                  cases hx
              subst e2
              rw [Nat.sub_self] at hx
              cases hx
              rw [List.take_append_of_le_length (Nat.le_refl _), List.take_length]
              refine ⟨?_, ?_, ?_, ?_⟩
              · rw [up_n (by omega)]; exact hK0
              · rw [up_n (by omega)]; exact hK1
              · rw [up_n (by omega)]; exact hK2
              · rw [up_s, List.length_append, List.length_append]
        · simp only [ixr_of, run_s, run_0, rM_partHere, rok_i, rok_z, bx_cons, bx_nil, eADD, eBP, eC0, eC1, eC2, eC3, eC4, eCV0, eCV1, eCV2, eCV7, eCm1, eDUPr, eGI, eGO, eGR, eIAST, jICne, jIFeq, jIFne, eLA0, eLI1, eLI2, eMUL, ePI, eRV, eSI1, eSI2, fM_partHere_0, fM_partHere_17, fM_partHere_29, fM_partHere_38, fM_partHere_47, fM_partHere_54, fM_partHere_55, fM_partHere_76, fM_partHere_85, fM_partHere_92, fM_partHere_93, fM_partHere_154, fM_partHere_158, bM_partHere_0, bM_partHere_17, bM_partHere_29, bM_partHere_38, bM_partHere_47, bM_partHere_54, bM_partHere_55, bM_partHere_76, bM_partHere_85, bM_partHere_92, bM_partHere_93, bM_partHere_154, bM_partHere_158, ln_mreadPart, rg_m_21, ty_m, ty_mreadPart, Option.toList_some, Option.toList_none, List.cons_append, List.nil_append, List.length_cons, List.length_nil, List.mem_cons, List.not_mem_nil, or_false, false_or, or_true, true_or, ↓reduceIte, true_and, and_true, Nat.reduceEqDiff, Nat.reduceAdd, Nat.reduceLeDiff, Nat.reduceLT, dl_i, dl_r, dl_n, dl_u, eq_self, not_true_eq_false, not_false_eq_true, n10, n01, nm0, n0m, imp_t, imp_f]
          exact he e Q (hve e hS) ((hFK.tr Fp.el).tr hQ.fp) hE
      rw [show up (up P 500000 25 (nI (ps.length + 1))) 500089 (4 * ps.length) (nI hb) 500000 26 = nI (cdA ps).length by rw [up_n (by omega), up_n (by omega), hcP], ← hS0, show d + 31 = (d + 3) + 3 * 6 + 10 by omega]
      refine call0 (c_sumD hT 6 (by decide) _ _ _ _ _ _ _ _ _ hO0 (fun x M1 K hR hK hOK => ?_) (fun e K hR hK hE => ?_))
      · have hcK : K 500000 26 = nI (cdA ps ++ M1).length := hOK.2.2.2.2.2.2.2.2.1
        have hx : x ≤ n := hOK.2.2.2.2.1
        have hsx := sk_b (t := T) hx
        have kr5 : K 500089 = S0 500089 := hK.1 500089 (by decide) (by decide)
        simp only [ixr_of, run_s, run_0, rM_partHere, rok_i, rok_z, bx_cons, bx_nil, eADD, eBP, eC0, eC1, eC2, eC3, eC4, eCV0, eCV1, eCV2, eCV7, eCm1, eDUPr, eGI, eGO, eGR, eIAST, jICne, jIFeq, jIFne, eLA0, eLI1, eLI2, eMUL, ePI, eRV, eSI1, eSI2, fM_partHere_0, fM_partHere_17, fM_partHere_29, fM_partHere_38, fM_partHere_47, fM_partHere_54, fM_partHere_55, fM_partHere_76, fM_partHere_85, fM_partHere_92, fM_partHere_93, fM_partHere_154, fM_partHere_158, bM_partHere_0, bM_partHere_17, bM_partHere_29, bM_partHere_38, bM_partHere_47, bM_partHere_54, bM_partHere_55, bM_partHere_76, bM_partHere_85, bM_partHere_92, bM_partHere_93, bM_partHere_154, bM_partHere_158, ln_mreadPart, rg_m_21, ty_m, ty_mreadPart, Option.toList_some, Option.toList_none, List.cons_append, List.nil_append, List.length_cons, List.length_nil, List.mem_cons, List.not_mem_nil, or_false, false_or, or_true, true_or, ↓reduceIte, true_and, and_true, Nat.reduceEqDiff, Nat.reduceAdd, Nat.reduceLeDiff, Nat.reduceLT, dl_i, dl_r, dl_n, dl_u, eq_self, not_true_eq_false, not_false_eq_true, n10, n01, nm0, n0m, i2, imp_t, imp_f]
        rw [hcK]
        refine call0 (o_takes (hOK.pe) (fun q2 Q hQ hOQ => ?_) (fun q2 Q hQ hOQ => ?_))
        · have q2 : wcode T n (sk T n x) = w_if := q2
          have hFQ : Fo (up K 500089 (4 * ps.length + 2) (nI (cdA ps ++ M1).length)) Q := by rw [hQ]; exact Fo.fl (by decide)
          simp only [ixr_of, run_s, run_0, rM_partHere, rok_i, rok_z, bx_cons, bx_nil, eADD, eBP, eC0, eC1, eC2, eC3, eC4, eCV0, eCV1, eCV2, eCV7, eCm1, eDUPr, eGI, eGO, eGR, eIAST, jICne, jIFeq, jIFne, eLA0, eLI1, eLI2, eMUL, ePI, eRV, eSI1, eSI2, fM_partHere_0, fM_partHere_17, fM_partHere_29, fM_partHere_38, fM_partHere_47, fM_partHere_54, fM_partHere_55, fM_partHere_76, fM_partHere_85, fM_partHere_92, fM_partHere_93, fM_partHere_154, fM_partHere_158, bM_partHere_0, bM_partHere_17, bM_partHere_29, bM_partHere_38, bM_partHere_47, bM_partHere_54, bM_partHere_55, bM_partHere_76, bM_partHere_85, bM_partHere_92, bM_partHere_93, bM_partHere_154, bM_partHere_158, ln_mreadPart, rg_m_21, ty_m, ty_mreadPart, Option.toList_some, Option.toList_none, List.cons_append, List.nil_append, List.length_cons, List.length_nil, List.mem_cons, List.not_mem_nil, or_false, false_or, or_true, true_or, ↓reduceIte, true_and, and_true, Nat.reduceEqDiff, Nat.reduceAdd, Nat.reduceLeDiff, Nat.reduceLT, dl_i, dl_r, dl_n, dl_u, eq_self, not_true_eq_false, not_false_eq_true, n10, n01, nm0, n0m, imp_t, imp_f]
          rw [show d + 3 + 3 * 6 + 10 = d + 3 * 6 + 13 by omega]
          refine call0 (c_anyD hT (f := 6) (by decide) _ _ _ _ _ _ _ _ _ hOQ (fun y M2 R hR2 hR3 hOR => ?_) (fun e R hR2 hR3 hE => ?_))
          · simp only [ixr_of, run_s, run_0, rM_partHere, rok_i, rok_z, bx_cons, bx_nil, eADD, eBP, eC0, eC1, eC2, eC3, eC4, eCV0, eCV1, eCV2, eCV7, eCm1, eDUPr, eGI, eGO, eGR, eIAST, jICne, jIFeq, jIFne, eLA0, eLI1, eLI2, eMUL, ePI, eRV, eSI1, eSI2, fM_partHere_0, fM_partHere_17, fM_partHere_29, fM_partHere_38, fM_partHere_47, fM_partHere_54, fM_partHere_55, fM_partHere_76, fM_partHere_85, fM_partHere_92, fM_partHere_93, fM_partHere_154, fM_partHere_158, bM_partHere_0, bM_partHere_17, bM_partHere_29, bM_partHere_38, bM_partHere_47, bM_partHere_54, bM_partHere_55, bM_partHere_76, bM_partHere_85, bM_partHere_92, bM_partHere_93, bM_partHere_154, bM_partHere_158, ln_mreadPart, rg_m_21, ty_m, ty_mreadPart, Option.toList_some, Option.toList_none, List.cons_append, List.nil_append, List.length_cons, List.length_nil, List.mem_cons, List.not_mem_nil, or_false, false_or, or_true, true_or, ↓reduceIte, true_and, and_true, Nat.reduceEqDiff, Nat.reduceAdd, Nat.reduceLeDiff, Nat.reduceLT, dl_i, dl_r, dl_n, dl_u, eq_self, not_true_eq_false, not_false_eq_true, n10, n01, nm0, n0m, imp_t, imp_f]
            have rr : R 500089 = up K 500089 (4 * ps.length + 2) (nI (cdA ps ++ M1).length) 500089 := by rw [hR3.1 500089 (by decide) (by decide), hFQ.1 500089 (by decide) (by decide)]
            refine at158 R M1 M2 y hOR ((((hF0.tr hK.fp).tr Fp.el).tr hFQ.fp).tr hR3.fp) ?_ (fun k hk => ?_) ?_ ?_ ?_ (fun z hz => ?_) (fun e hz => ?_)
            · rw [hR3.2 _ (by decide) (by decide) (by decide) (by decide) (by decide) (by decide), hFQ.2 _ (by decide) (by decide) (by decide) (by decide) (by decide) (by decide), up_n (by omega), hK.2 _ (by decide) (by decide) (by decide) (by decide) (by decide) (by decide), hpp]
            · rw [rr, up_n (by omega), kr5, rp k hk]
            · rw [rr, up_n (by omega), kr5, r0]
            · rw [rr, up_n (by omega), kr5, r1]
            · rw [rr, up_s, List.length_append]
            · rw [hval, hR]
              simp only [if_pos q2, hR2, hz]
            · rw [hval, hR]
              simp only [if_pos q2, hR2, hz]
          · simp only [ixr_of, run_s, run_0, rM_partHere, rok_i, rok_z, bx_cons, bx_nil, eADD, eBP, eC0, eC1, eC2, eC3, eC4, eCV0, eCV1, eCV2, eCV7, eCm1, eDUPr, eGI, eGO, eGR, eIAST, jICne, jIFeq, jIFne, eLA0, eLI1, eLI2, eMUL, ePI, eRV, eSI1, eSI2, fM_partHere_0, fM_partHere_17, fM_partHere_29, fM_partHere_38, fM_partHere_47, fM_partHere_54, fM_partHere_55, fM_partHere_76, fM_partHere_85, fM_partHere_92, fM_partHere_93, fM_partHere_154, fM_partHere_158, bM_partHere_0, bM_partHere_17, bM_partHere_29, bM_partHere_38, bM_partHere_47, bM_partHere_54, bM_partHere_55, bM_partHere_76, bM_partHere_85, bM_partHere_92, bM_partHere_93, bM_partHere_154, bM_partHere_158, ln_mreadPart, rg_m_21, ty_m, ty_mreadPart, Option.toList_some, Option.toList_none, List.cons_append, List.nil_append, List.length_cons, List.length_nil, List.mem_cons, List.not_mem_nil, or_false, false_or, or_true, true_or, ↓reduceIte, true_and, and_true, Nat.reduceEqDiff, Nat.reduceAdd, Nat.reduceLeDiff, Nat.reduceLT, dl_i, dl_r, dl_n, dl_u, eq_self, not_true_eq_false, not_false_eq_true, n10, n01, nm0, n0m, imp_t, imp_f]
            refine er158 R e ?_ ((((hF0.tr hK.fp).tr Fp.el).tr hFQ.fp).tr hR3.fp) hE
            rw [hval, hR]
            simp only [if_pos q2, hR2]
        · have q2 : ¬ wcode T n (sk T n x) = w_if := q2
          have hFQ : Fo (up K 500089 (4 * ps.length + 2) (nI (cdA ps ++ M1).length)) Q := by rw [hQ]; exact Fo.fl (by decide)
          simp only [ixr_of, run_s, run_0, rM_partHere, rok_i, rok_z, bx_cons, bx_nil, eADD, eBP, eC0, eC1, eC2, eC3, eC4, eCV0, eCV1, eCV2, eCV7, eCm1, eDUPr, eGI, eGO, eGR, eIAST, jICne, jIFeq, jIFne, eLA0, eLI1, eLI2, eMUL, ePI, eRV, eSI1, eSI2, fM_partHere_0, fM_partHere_17, fM_partHere_29, fM_partHere_38, fM_partHere_47, fM_partHere_54, fM_partHere_55, fM_partHere_76, fM_partHere_85, fM_partHere_92, fM_partHere_93, fM_partHere_154, fM_partHere_158, bM_partHere_0, bM_partHere_17, bM_partHere_29, bM_partHere_38, bM_partHere_47, bM_partHere_54, bM_partHere_55, bM_partHere_76, bM_partHere_85, bM_partHere_92, bM_partHere_93, bM_partHere_154, bM_partHere_158, ln_mreadPart, rg_m_21, ty_m, ty_mreadPart, Option.toList_some, Option.toList_none, List.cons_append, List.nil_append, List.length_cons, List.length_nil, List.mem_cons, List.not_mem_nil, or_false, false_or, or_true, true_or, ↓reduceIte, true_and, and_true, Nat.reduceEqDiff, Nat.reduceAdd, Nat.reduceLeDiff, Nat.reduceLT, dl_i, dl_r, dl_n, dl_u, eq_self, not_true_eq_false, not_false_eq_true, n10, n01, nm0, n0m, imp_t, imp_f]
          have rr : Q 500089 = up K 500089 (4 * ps.length + 2) (nI (cdA ps ++ M1).length) 500089 := hFQ.1 500089 (by decide) (by decide)
          refine at158 Q M1 [] (sk T n x) (by rw [List.append_nil]; exact hOQ) (((hF0.tr hK.fp).tr Fp.el).tr hFQ.fp) ?_ (fun k hk => ?_) ?_ ?_ ?_ (fun z hz => ?_) (fun e hz => ?_)
          · rw [hFQ.2 _ (by decide) (by decide) (by decide) (by decide) (by decide) (by decide), up_n (by omega), hK.2 _ (by decide) (by decide) (by decide) (by decide) (by decide) (by decide), hpp]
          · rw [rr, up_n (by omega), kr5, rp k hk]
          · rw [rr, up_n (by omega), kr5, r0]
          · rw [rr, up_n (by omega), kr5, r1]
          · rw [rr, up_s, List.length_append]
          · rw [hval, hR]
            simp only [if_neg q2, hz]
          · rw [hval, hR]
            simp only [if_neg q2, hz]
      · simp only [ixr_of, run_s, run_0, rM_partHere, rok_i, rok_z, bx_cons, bx_nil, eADD, eBP, eC0, eC1, eC2, eC3, eC4, eCV0, eCV1, eCV2, eCV7, eCm1, eDUPr, eGI, eGO, eGR, eIAST, jICne, jIFeq, jIFne, eLA0, eLI1, eLI2, eMUL, ePI, eRV, eSI1, eSI2, fM_partHere_0, fM_partHere_17, fM_partHere_29, fM_partHere_38, fM_partHere_47, fM_partHere_54, fM_partHere_55, fM_partHere_76, fM_partHere_85, fM_partHere_92, fM_partHere_93, fM_partHere_154, fM_partHere_158, bM_partHere_0, bM_partHere_17, bM_partHere_29, bM_partHere_38, bM_partHere_47, bM_partHere_54, bM_partHere_55, bM_partHere_76, bM_partHere_85, bM_partHere_92, bM_partHere_93, bM_partHere_154, bM_partHere_158, ln_mreadPart, rg_m_21, ty_m, ty_mreadPart, Option.toList_some, Option.toList_none, List.cons_append, List.nil_append, List.length_cons, List.length_nil, List.mem_cons, List.not_mem_nil, or_false, false_or, or_true, true_or, ↓reduceIte, true_and, and_true, Nat.reduceEqDiff, Nat.reduceAdd, Nat.reduceLeDiff, Nat.reduceLT, dl_i, dl_r, dl_n, dl_u, eq_self, not_true_eq_false, not_false_eq_true, n10, n01, nm0, n0m, i2, imp_t, imp_f]
        refine call0 (f_takes hE.pe.nz ?_)
        simp only [ixr_of, run_s, run_0, rM_partHere, rok_i, rok_z, bx_cons, bx_nil, eADD, eBP, eC0, eC1, eC2, eC3, eC4, eCV0, eCV1, eCV2, eCV7, eCm1, eDUPr, eGI, eGO, eGR, eIAST, jICne, jIFeq, jIFne, eLA0, eLI1, eLI2, eMUL, ePI, eRV, eSI1, eSI2, fM_partHere_0, fM_partHere_17, fM_partHere_29, fM_partHere_38, fM_partHere_47, fM_partHere_54, fM_partHere_55, fM_partHere_76, fM_partHere_85, fM_partHere_92, fM_partHere_93, fM_partHere_154, fM_partHere_158, bM_partHere_0, bM_partHere_17, bM_partHere_29, bM_partHere_38, bM_partHere_47, bM_partHere_54, bM_partHere_55, bM_partHere_76, bM_partHere_85, bM_partHere_92, bM_partHere_93, bM_partHere_154, bM_partHere_158, ln_mreadPart, rg_m_21, ty_m, ty_mreadPart, Option.toList_some, Option.toList_none, List.cons_append, List.nil_append, List.length_cons, List.length_nil, List.mem_cons, List.not_mem_nil, or_false, false_or, or_true, true_or, ↓reduceIte, true_and, and_true, Nat.reduceEqDiff, Nat.reduceAdd, Nat.reduceLeDiff, Nat.reduceLT, dl_i, dl_r, dl_n, dl_u, eq_self, not_true_eq_false, not_false_eq_true, n10, n01, nm0, n0m, imp_t, imp_f]
        refine er158 _ e ?_ ((hF0.tr hK.fp).tr Fp.el) hE.pe
        rw [hval, hR]
    · have hFP := hFK.tr hP
      simp only [ixr_of, run_s, run_0, rM_partHere, rok_i, rok_z, bx_cons, bx_nil, eADD, eBP, eC0, eC1, eC2, eC3, eC4, eCV0, eCV1, eCV2, eCV7, eCm1, eDUPr, eGI, eGO, eGR, eIAST, jICne, jIFeq, jIFne, eLA0, eLI1, eLI2, eMUL, ePI, eRV, eSI1, eSI2, fM_partHere_0, fM_partHere_17, fM_partHere_29, fM_partHere_38, fM_partHere_47, fM_partHere_54, fM_partHere_55, fM_partHere_76, fM_partHere_85, fM_partHere_92, fM_partHere_93, fM_partHere_154, fM_partHere_158, bM_partHere_0, bM_partHere_17, bM_partHere_29, bM_partHere_38, bM_partHere_47, bM_partHere_54, bM_partHere_55, bM_partHere_76, bM_partHere_85, bM_partHere_92, bM_partHere_93, bM_partHere_154, bM_partHere_158, ln_mreadPart, rg_m_21, ty_m, ty_mreadPart, Option.toList_some, Option.toList_none, List.cons_append, List.nil_append, List.length_cons, List.length_nil, List.mem_cons, List.not_mem_nil, or_false, false_or, or_true, true_or, ↓reduceIte, true_and, and_true, Nat.reduceEqDiff, Nat.reduceAdd, Nat.reduceLeDiff, Nat.reduceLT, dl_i, dl_r, dl_n, dl_u, eq_self, not_true_eq_false, not_false_eq_true, n10, n01, nm0, n0m, imp_t, imp_f]
      rw [hOP.atq]
      refine call0 (o_wrong hOP (by decide) (by decide) ?_)
      intro Q hQ hE
      simp only [ixr_of, run_s, run_0, rM_partHere, rok_i, rok_z, bx_cons, bx_nil, eADD, eBP, eC0, eC1, eC2, eC3, eC4, eCV0, eCV1, eCV2, eCV7, eCm1, eDUPr, eGI, eGO, eGR, eIAST, jICne, jIFeq, jIFne, eLA0, eLI1, eLI2, eMUL, ePI, eRV, eSI1, eSI2, fM_partHere_0, fM_partHere_17, fM_partHere_29, fM_partHere_38, fM_partHere_47, fM_partHere_54, fM_partHere_55, fM_partHere_76, fM_partHere_85, fM_partHere_92, fM_partHere_93, fM_partHere_154, fM_partHere_158, bM_partHere_0, bM_partHere_17, bM_partHere_29, bM_partHere_38, bM_partHere_47, bM_partHere_54, bM_partHere_55, bM_partHere_76, bM_partHere_85, bM_partHere_92, bM_partHere_93, bM_partHere_154, bM_partHere_158, ln_mreadPart, rg_m_21, ty_m, ty_mreadPart, Option.toList_some, Option.toList_none, List.cons_append, List.nil_append, List.length_cons, List.length_nil, List.mem_cons, List.not_mem_nil, or_false, false_or, or_true, true_or, ↓reduceIte, true_and, and_true, Nat.reduceEqDiff, Nat.reduceAdd, Nat.reduceLeDiff, Nat.reduceLT, dl_i, dl_r, dl_n, dl_u, eq_self, not_true_eq_false, not_false_eq_true, n10, n01, nm0, n0m, imp_t, imp_f]
      refine hgo 20 [93] 85 _ _ _ _ _ ?_
      simp only [ixr_of, run_s, run_0, rM_partHere, rok_i, rok_z, bx_cons, bx_nil, eADD, eBP, eC0, eC1, eC2, eC3, eC4, eCV0, eCV1, eCV2, eCV7, eCm1, eDUPr, eGI, eGO, eGR, eIAST, jICne, jIFeq, jIFne, eLA0, eLI1, eLI2, eMUL, ePI, eRV, eSI1, eSI2, fM_partHere_0, fM_partHere_17, fM_partHere_29, fM_partHere_38, fM_partHere_47, fM_partHere_54, fM_partHere_55, fM_partHere_76, fM_partHere_85, fM_partHere_92, fM_partHere_93, fM_partHere_154, fM_partHere_158, bM_partHere_0, bM_partHere_17, bM_partHere_29, bM_partHere_38, bM_partHere_47, bM_partHere_54, bM_partHere_55, bM_partHere_76, bM_partHere_85, bM_partHere_92, bM_partHere_93, bM_partHere_154, bM_partHere_158, ln_mreadPart, rg_m_21, ty_m, ty_mreadPart, Option.toList_some, Option.toList_none, List.cons_append, List.nil_append, List.length_cons, List.length_nil, List.mem_cons, List.not_mem_nil, or_false, false_or, or_true, true_or, ↓reduceIte, true_and, and_true, Nat.reduceEqDiff, Nat.reduceAdd, Nat.reduceLeDiff, Nat.reduceLT, dl_i, dl_r, dl_n, dl_u, eq_self, not_true_eq_false, not_false_eq_true, n10, n01, nm0, n0m, imp_t, imp_f]
      refine ⟨fun q => absurd q hE.nz, fun _ => he _ Q ?_ (hFP.tr hQ).fp hE⟩
      unfold ptS
      rw [if_neg (fun c => c q), if_neg q6, ← hb1, if_pos hhb]
  · have q : wcode T n (sk T n a) = w_put := Decidable.not_not.mp q
    refine call0 (o_wrong hO1 (by decide) (by decide) ?_)
    intro K hK hE
    simp only [ixr_of, run_s, run_0, rM_partHere, rok_i, rok_z, bx_cons, bx_nil, eADD, eBP, eC0, eC1, eC2, eC3, eC4, eCV0, eCV1, eCV2, eCV7, eCm1, eDUPr, eGI, eGO, eGR, eIAST, jICne, jIFeq, jIFne, eLA0, eLI1, eLI2, eMUL, ePI, eRV, eSI1, eSI2, fM_partHere_0, fM_partHere_17, fM_partHere_29, fM_partHere_38, fM_partHere_47, fM_partHere_54, fM_partHere_55, fM_partHere_76, fM_partHere_85, fM_partHere_92, fM_partHere_93, fM_partHere_154, fM_partHere_158, bM_partHere_0, bM_partHere_17, bM_partHere_29, bM_partHere_38, bM_partHere_47, bM_partHere_54, bM_partHere_55, bM_partHere_76, bM_partHere_85, bM_partHere_92, bM_partHere_93, bM_partHere_154, bM_partHere_158, ln_mreadPart, rg_m_21, ty_m, ty_mreadPart, Option.toList_some, Option.toList_none, List.cons_append, List.nil_append, List.length_cons, List.length_nil, List.mem_cons, List.not_mem_nil, or_false, false_or, or_true, true_or, ↓reduceIte, true_and, and_true, Nat.reduceEqDiff, Nat.reduceAdd, Nat.reduceLeDiff, Nat.reduceLT, dl_i, dl_r, dl_n, dl_u, eq_self, not_true_eq_false, not_false_eq_true, n10, n01, nm0, n0m, imp_t, imp_f]
    exact er K _ (by unfold ptS; rw [if_neg (fun c => c q), if_pos q6]) (hFJ.tr hK).fp hE
  · have q : ¬ wcode T n (sk T n a) = w_put := q
    refine call0 (o_wrong hO1 (by decide) (by decide) ?_)
    intro K hK hE
    simp only [ixr_of, run_s, run_0, rM_partHere, rok_i, rok_z, bx_cons, bx_nil, eADD, eBP, eC0, eC1, eC2, eC3, eC4, eCV0, eCV1, eCV2, eCV7, eCm1, eDUPr, eGI, eGO, eGR, eIAST, jICne, jIFeq, jIFne, eLA0, eLI1, eLI2, eMUL, ePI, eRV, eSI1, eSI2, fM_partHere_0, fM_partHere_17, fM_partHere_29, fM_partHere_38, fM_partHere_47, fM_partHere_54, fM_partHere_55, fM_partHere_76, fM_partHere_85, fM_partHere_92, fM_partHere_93, fM_partHere_154, fM_partHere_158, bM_partHere_0, bM_partHere_17, bM_partHere_29, bM_partHere_38, bM_partHere_47, bM_partHere_54, bM_partHere_55, bM_partHere_76, bM_partHere_85, bM_partHere_92, bM_partHere_93, bM_partHere_154, bM_partHere_158, ln_mreadPart, rg_m_21, ty_m, ty_mreadPart, Option.toList_some, Option.toList_none, List.cons_append, List.nil_append, List.length_cons, List.length_nil, List.mem_cons, List.not_mem_nil, or_false, false_or, or_true, true_or, ↓reduceIte, true_and, and_true, Nat.reduceEqDiff, Nat.reduceAdd, Nat.reduceLeDiff, Nat.reduceLT, dl_i, dl_r, dl_n, dl_u, eq_self, not_true_eq_false, not_false_eq_true, n10, n01, nm0, n0m, imp_t, imp_f]
    exact er K _ (by unfold ptS; rw [if_pos q]) (hFJ.tr hK).fp hE
end CM28
