/-! contracts of the class, 19: opinions, read -/
/-- a part but for its end -/
def ppS (T : Nat → Int32) (n np a : Nat) : Rx (Nat × Pt) :=
  if ¬ wcode T n (sk T n a) = w_put then .error (1, sk T n a)
  else if np = 6 then .error (3, sk T n a)
  else if ¬ hbW (wcode T n (sk T n (wEnd T n (sk T n a)))) < 3 then .error (1, sk T n (wEnd T n (sk T n a)))
  else match sumD T n 6 (wEnd T n (sk T n (wEnd T n (sk T n a)))) with
    | .error e => .error e
    | .ok (x, M1) => if wcode T n (sk T n x) = w_if then (match anyW T n (oneD T n 6) (wEnd T n (sk T n x)) with
        | .error e => .error e
        | .ok (y, M2) => .ok (y, hbW (wcode T n (sk T n (wEnd T n (sk T n a)))), M1, M2))
      else .ok (sk T n x, hbW (wcode T n (sk T n (wEnd T n (sk T n a)))), M1, [])
theorem ptS_p {T : Nat → Int32} {n np a : Nat} : ptS T n np a = (match ppS T n np a with
    | .error e => .error e
    | .ok (c, p) => match sgS T n (nI 59) c with
      | .error e => .error e
      | .ok (z, _) => .ok (z, p)) := by
  unfold ptS ppS
  by_cases q1 : ¬ wcode T n (sk T n a) = w_put
  · rw [if_pos q1, if_pos q1]
  · rw [if_neg q1, if_neg q1]
    by_cases q2 : np = 6
    · rw [if_pos q2, if_pos q2]
    · rw [if_neg q2, if_neg q2]
      by_cases q3 : ¬ hbW (wcode T n (sk T n (wEnd T n (sk T n a)))) < 3
      · rw [if_pos q3, if_pos q3]
      · rw [if_neg q3, if_neg q3]
        cases sumD T n 6 (wEnd T n (sk T n (wEnd T n (sk T n a)))) with
        | error e => rfl
        | ok r =>
          dsimp only
          by_cases q4 : wcode T n (sk T n r.1) = w_if
          · rw [if_pos q4, if_pos q4]
            cases anyW T n (oneD T n 6) (wEnd T n (sk T n r.1)) with
            | error e => rfl
            | ok y => rfl
          · rw [if_neg q4, if_neg q4]
            rfl
def stP (p : Pt) : List Nat := p.2.1.map enc ++ p.2.2.map enc ++ [(if p.2.2 = [] then 1017 else 1020) + p.1]
def stA : List Pt → List Nat
  | [] => []
  | p :: ps => stP p ++ stA ps
theorem stA_a : ∀ ps p, stA (ps ++ [p]) = stA ps ++ stP p
  | [], p => by show stP p ++ [] = _; rw [List.append_nil]; rfl
  | q :: ps, p => by
    show stP q ++ stA (ps ++ [p]) = stP q ++ stA ps ++ stP p
    rw [stA_a ps p, List.append_assoc]
def hbs : List Pt → Nat
  | [] => 0
  | p :: ps => 2 ^ p.1 ||| hbs ps
theorem hbs_a : ∀ ps p, hbs (ps ++ [p]) = hbs ps ||| 2 ^ p.1
  | [], p => by show 2 ^ p.1 ||| 0 = 0 ||| 2 ^ p.1; rw [Nat.or_zero, Nat.zero_or]
  | q :: ps, p => by
    show 2 ^ q.1 ||| hbs (ps ++ [p]) = 2 ^ q.1 ||| hbs ps ||| 2 ^ p.1
    rw [hbs_a ps p, Nat.or_assoc]
def HbV (ps : List Pt) : Prop := ∀ p ∈ ps, p.1 < 3
theorem hbs_8 : ∀ ps, HbV ps → hbs ps < 8
  | [], _ => by decide
  | p :: ps, h => by
    have h1 := h p List.mem_cons_self
    have h2 := hbs_8 ps (fun q hq => h q (List.mem_cons_of_mem _ hq))
    have : ∀ a, a < 3 → ∀ c, c < 8 → 2 ^ a ||| c < 8 := by decide
    exact this _ h1 _ h2
/-- the frame of an opinion that is read -/
def Fy (o : Nat) (J K : Iv) : Prop := (∀ i, i ≠ 1 → i ≠ 97 → ¬ (o ≤ i ∧ i ≤ o + 1) → K i = J i) ∧ ∀ j, j < 3 → K 1 j = J 1 j
theorem Fy.rf {o : Nat} {J : Iv} : Fy o J J := ⟨fun _ _ _ _ => rfl, fun _ _ => rfl⟩
theorem Fy.tr {o : Nat} {I J K : Iv} (h : Fy o I J) (h2 : Fy o J K) : Fy o I K := ⟨fun i a b c => (h2.1 i a b c).trans (h.1 i a b c), fun j a => (h2.2 j a).trans (h.2 j a)⟩
theorem Fz.y {o : Nat} {J K : Iv} (h : Fz o J K) : Fy o J K := ⟨h.1, h.2.1⟩
theorem Fy.up {o j : Nat} {x : Int32} {J : Iv} (ho : 3 ≤ o) : Fy o J (up J o j x) := ⟨fun i _ _ q => by funext y; exact up_n (by omega), fun y _ => up_n (by omega)⟩
/-- the parts read so far -/
def XPs (T : Nat → Int32) (n : Nat) (J : Iv) (a o : Nat) (ps : List Pt) : Prop := OXS T n J a o 0 (stA ps) ∧ J o 3 = nI ps.length ∧ J o 4 = nI (hbs ps) ∧ HbV ps
theorem TB_nil {D : Nat} : ¬ TB [] D := by
  intro h
  obtain ⟨u, hu⟩ := h (fun _ => 0)
  have := hu (fun M _ _ => ¬ M = []) (fun k A B D u w _ _ _ _ z => by simp at z) (fun A D u _ z => by simp at z) (fun k A B D u w _ _ _ _ z => by simp at z)
  exact this rfl
section XOp2
variable {Γ : Gm} {l : Launch} {b : Bool} {d : Nat} {J : Iv} {E : Ev} {kr : Kr} {kx : Kxx} {T : Nat → Int32} {n a o op : Nat} {L : List Nat}
theorem x_endPart {m h : Nat} {q : Bool} {hb pn : Nat} (hA : OpA (shB b) E o) (hm : J o 2 = nI m) (hl : m < 160) (hh : h < 3) (hb4 : J o 4 = nI hb) (hb8 : hb < 8) (hp3 : J o 3 = nI pn) (hk : kr none (up (up (ad1 J o m ((if q then 1020 else 1017) + h)) o 4 (nI (hb ||| 2 ^ h))) o 3 (nI (pn + 1))) E) : Ex Γ l (shB b) (d + 2) (0, 0) mOp_endPart [.ref o, .int (nI h), .int (if q then nI 1 else nI 0)] J E kr kx := by
  refine ex_of (ls0 := [some (.ref o), some (.int (nI h)), some (.int (if q then nI 1 else nI 0))]) tOp_endPart (by decide +kernel) kOp_endPart rfl (Nat.le_of_ble_eq_true rfl) rfl ?_
  intro go hgo
  have ht := hA.1
  have e4 : ∀ x, ad1 J o m x o 4 = nI hb := fun x => by unfold ad1; rw [up_n (by omega), up_n (by omega), hb4]
  have e3 : ∀ x y, up (ad1 J o m x) o 4 y o 3 = nI pn := fun x y => by unfold ad1; rw [up_n (by omega), up_n (by omega), up_n (by omega), hp3]
  have es : nI hb ||| nI 1 <<< (nI h &&& 31) = nI (hb ||| 2 ^ h) := by
    have : ∀ a, a < 8 → ∀ c, c < 3 → nI a ||| nI 1 <<< (nI c &&& 31) = nI (a ||| 2 ^ c) := by decide
    exact this _ hb8 _ hh
  refine hgo 20 [] 0 _ _ _ _ _ ?_
  cases q
  · have qf : (if false = true then nI 1 else nI 0) = nI 0 := rfl
    simp only [ixr_of, run_s, run_0, rOp_endPart, rok_i, rok_z, bx_cons, bx_nil, eADD, eC1, eCV1, eDUPr, eGI, eGO, jIFeq, eLA0, eLI1, eLI2, eOR, ePI, eRV, eSHL, eSP, fOp_endPart_0, fOp_endPart_5, fOp_endPart_11, fOp_endPart_14, bOp_endPart_0, bOp_endPart_5, bOp_endPart_11, bOp_endPart_14, Option.toList_some, Option.toList_none, List.cons_append, List.nil_append, List.length_cons, List.length_nil, List.mem_cons, List.not_mem_nil, or_false, false_or, or_true, true_or, ↓reduceIte, true_and, and_true, Nat.reduceEqDiff, Nat.reduceAdd, Nat.reduceLeDiff, Nat.reduceLT, dl_i, dl_r, dl_n, dl_u, eq_self, not_true_eq_false, not_false_eq_true, n10, n01, nm0, n0m, ht, qf, nI_add, imp_t, imp_f]
    refine call0 (x_add hA hm hl ?_)
    simp only [ixr_of, run_s, run_0, rOp_endPart, rok_i, rok_z, bx_cons, bx_nil, eADD, eC1, eCV1, eDUPr, eGI, eGO, jIFeq, eLA0, eLI1, eLI2, eOR, ePI, eRV, eSHL, eSP, fOp_endPart_0, fOp_endPart_5, fOp_endPart_11, fOp_endPart_14, bOp_endPart_0, bOp_endPart_5, bOp_endPart_11, bOp_endPart_14, Option.toList_some, Option.toList_none, List.cons_append, List.nil_append, List.length_cons, List.length_nil, List.mem_cons, List.not_mem_nil, or_false, false_or, or_true, true_or, ↓reduceIte, true_and, and_true, Nat.reduceEqDiff, Nat.reduceAdd, Nat.reduceLeDiff, Nat.reduceLT, dl_i, dl_r, dl_n, dl_u, eq_self, not_true_eq_false, not_false_eq_true, n10, n01, nm0, n0m, ht, e4, e3, nI_add, imp_t, imp_f]
    rw [es]
    exact hk
  · have qf : (if true = true then nI 1 else nI 0) = nI 1 := rfl
    simp only [ixr_of, run_s, run_0, rOp_endPart, rok_i, rok_z, bx_cons, bx_nil, eADD, eC1, eCV1, eDUPr, eGI, eGO, jIFeq, eLA0, eLI1, eLI2, eOR, ePI, eRV, eSHL, eSP, fOp_endPart_0, fOp_endPart_5, fOp_endPart_11, fOp_endPart_14, bOp_endPart_0, bOp_endPart_5, bOp_endPart_11, bOp_endPart_14, Option.toList_some, Option.toList_none, List.cons_append, List.nil_append, List.length_cons, List.length_nil, List.mem_cons, List.not_mem_nil, or_false, false_or, or_true, true_or, ↓reduceIte, true_and, and_true, Nat.reduceEqDiff, Nat.reduceAdd, Nat.reduceLeDiff, Nat.reduceLT, dl_i, dl_r, dl_n, dl_u, eq_self, not_true_eq_false, not_false_eq_true, n10, n01, nm0, n0m, ht, qf, nI_add, imp_t, imp_f]
    refine call0 (x_add hA hm hl ?_)
    simp only [ixr_of, run_s, run_0, rOp_endPart, rok_i, rok_z, bx_cons, bx_nil, eADD, eC1, eCV1, eDUPr, eGI, eGO, jIFeq, eLA0, eLI1, eLI2, eOR, ePI, eRV, eSHL, eSP, fOp_endPart_0, fOp_endPart_5, fOp_endPart_11, fOp_endPart_14, bOp_endPart_0, bOp_endPart_5, bOp_endPart_11, bOp_endPart_14, Option.toList_some, Option.toList_none, List.cons_append, List.nil_append, List.length_cons, List.length_nil, List.mem_cons, List.not_mem_nil, or_false, false_or, or_true, true_or, ↓reduceIte, true_and, and_true, Nat.reduceEqDiff, Nat.reduceAdd, Nat.reduceLeDiff, Nat.reduceLT, dl_i, dl_r, dl_n, dl_u, eq_self, not_true_eq_false, not_false_eq_true, n10, n01, nm0, n0m, ht, e4, e3, nI_add, imp_t, imp_f]
    rw [es]
    exact hk
/-- a part's end said -/
def enP (J : Iv) (o m h hb pn : Nat) (q : Bool) : Iv := up (up (ad1 J o m ((if q then 1020 else 1017) + h)) o 4 (nI (hb ||| 2 ^ h))) o 3 (nI (pn + 1))
theorem enP_s {c : Nat} {ps : List Pt} {p : Pt} {q : Bool} (ho : 3 ≤ o ∧ o + 2 < 97) (hq : q = true ↔ ¬ p.2.2 = []) (h : OXS T n J c o 0 (stA ps ++ (p.2.1.map enc ++ p.2.2.map enc))) (hl : (stA ps ++ (p.2.1.map enc ++ p.2.2.map enc)).length + 1 ≤ c) (hp : p.1 < 3) (hv : HbV ps) : XPs T n (enP J o (stA ps ++ (p.2.1.map enc ++ p.2.2.map enc)).length p.1 (hbs ps) ps.length q) c o (ps ++ [p]) := by
  have e : (if q then 1020 else 1017) = (if p.2.2 = [] then 1017 else 1020) := by
    cases q
    · rw [if_neg (by decide), if_pos (Decidable.not_not.mp (fun z => absurd (hq.mpr z) (by decide)))]
    · rw [if_pos rfl, if_neg (hq.mp rfl)]
  have hst : stA (ps ++ [p]) = stA ps ++ (p.2.1.map enc ++ p.2.2.map enc) ++ [(if p.2.2 = [] then 1017 else 1020) + p.1] := by
    rw [stA_a]
    unfold stP
    simp only [List.append_assoc]
  have h1 := h.ad (x := (if p.2.2 = [] then 1017 else 1020) + p.1) ho hl (by by_cases z : p.2.2 = [] <;> simp only [z, if_true, if_false] <;> omega)
  unfold enP
  rw [e]
  obtain ⟨a1, a2, a3, a4, a5, a6, a7⟩ := h1
  refine ⟨⟨a1.mvo ?_ ?_, a2, ?_, ?_, ?_, a6, ?_⟩, ?_, ?_, ?_⟩
  · funext j; rw [up_n (by omega), up_n (by omega)]
  · funext j; rw [up_n (by omega), up_n (by omega)]
  · rw [hst]
    exact a3.mv (by rw [up_n (by omega), up_n (by omega)]) (by funext j; rw [up_n (by omega), up_n (by omega)])
  · rw [hst]; exact a4
  · rw [up_n (by omega), up_n (by omega)]; exact a5
  · rw [hst, up_n (by omega), up_n (by omega)]; exact a7
  · rw [up_s, List.length_append]; rfl
  · rw [up_n (by omega), up_s, hbs_a]
  · intro x hx
    rcases List.mem_append.mp hx with z | z
    · exact hv x z
    · rw [List.mem_singleton.mp z]; exact hp
theorem Fy.en {m h hb pn : Nat} {q : Bool} (ho : 3 ≤ o) : Fy o J (enP J o m h hb pn q) := ((Fz.ad ho).y.tr (Fy.up ho)).tr (Fy.up ho)
theorem x_readPart {ps : List Pt} (hG : GX Γ) (hR : RoA b E o) (hp6 : ps.length ≤ 6) (h : XPs T n J a o ps) (hk : ∀ c p K, ppS T n ps.length a = .ok (c, p) → Fy o J K → XPs T n K c o (ps ++ [p]) → kr (some (.int (nI 1))) K E) (he : ∀ e K, ppS T n ps.length a = .error e → Fy o J K → TEr K e → kr (some (.int (nI 0))) K E) : Ex Γ l (shB b) (d + 24) (0, 0) mOr_readPart [.ref 97, .int (nI ps.length)] J E kr kx := by
  refine ex_of (ls0 := [some (.ref 97), some (.int (nI ps.length)), none, none]) tOr_readPart (by decide +kernel) kOr_readPart rfl (Nat.le_of_ble_eq_true rfl) rfl ?_
  intro go hgo
  obtain ⟨h0, h3, h4, hv⟩ := h
  have hT : Tx T n := by rw [← h0.1.1.1]; exact xt_Tx
  have ha := h0.1.1.2.2.2.2.2
  have hs := sk_b (t := T) ha
  have hl := h0.2.2.2.1
  have r1 := hR.2.1
  have tO := hR.1.1
  have ho := hR.2.2
  have hG1 := hG.1
  have h150 := h0.2.1
  unfold ppS at hk he
  obtain ⟨s, hse⟩ : ∃ s, s = sk T n a := ⟨_, rfl⟩
  rw [← hse] at hk he hs
  refine hgo 20 [83] 0 _ _ _ _ _ ?_
  simp only [ixr_of, run_s, run_0, rOr_readPart, rok_i, rok_z, bx_cons, bx_nil, eBP, eC0, eC1, eC3, eCV0, eCV1, eCV2, eCm1, eGR, eGS, jICeq, jIClt, jIFeq, jIFne, eLA0, eLI1, eLI2, eLI3, eRI, eSI2, eSI3, fOr_readPart_0, fOr_readPart_13, fOr_readPart_22, fOr_readPart_28, fOr_readPart_37, fOr_readPart_50, fOr_readPart_57, fOr_readPart_59, fOr_readPart_74, fOr_readPart_81, fOr_readPart_83, bOr_readPart_0, bOr_readPart_13, bOr_readPart_22, bOr_readPart_28, bOr_readPart_37, bOr_readPart_50, bOr_readPart_57, bOr_readPart_59, bOr_readPart_74, bOr_readPart_81, bOr_readPart_83, rg_xopinionReader_0, ty_xopinionReader, ty_xtape, Option.toList_some, Option.toList_none, List.cons_append, List.nil_append, List.length_cons, List.length_nil, List.mem_cons, List.not_mem_nil, or_false, false_or, or_true, true_or, ↓reduceIte, true_and, and_true, Nat.reduceEqDiff, Nat.reduceAdd, Nat.reduceLeDiff, Nat.reduceLT, dl_i, dl_r, dl_n, dl_u, eq_self, not_true_eq_false, not_false_eq_true, n10, n01, nm0, n0m, hG1, imp_t, imp_f]
  refine call0 (x_takes (v := 5) hG h0.1.1 (by decide) (fun q => ?_) (fun q => ?_))
  rotate_left
  · rw [← hse] at q ⊢
    have q' : ¬ wcode T n s = w_put := q
    rw [if_pos q'] at hk he
    simp only [ixr_of, run_s, run_0, rOr_readPart, rok_i, rok_z, bx_cons, bx_nil, eBP, eC0, eC1, eC3, eCV0, eCV1, eCV2, eCm1, eGR, eGS, jICeq, jIClt, jIFeq, jIFne, eLA0, eLI1, eLI2, eLI3, eRI, eSI2, eSI3, fOr_readPart_0, fOr_readPart_13, fOr_readPart_22, fOr_readPart_28, fOr_readPart_37, fOr_readPart_50, fOr_readPart_57, fOr_readPart_59, fOr_readPart_74, fOr_readPart_81, fOr_readPart_83, bOr_readPart_0, bOr_readPart_13, bOr_readPart_22, bOr_readPart_28, bOr_readPart_37, bOr_readPart_50, bOr_readPart_57, bOr_readPart_59, bOr_readPart_74, bOr_readPart_81, bOr_readPart_83, rg_xopinionReader_0, ty_xopinionReader, ty_xtape, Option.toList_some, Option.toList_none, List.cons_append, List.nil_append, List.length_cons, List.length_nil, List.mem_cons, List.not_mem_nil, or_false, false_or, or_true, true_or, ↓reduceIte, true_and, and_true, Nat.reduceEqDiff, Nat.reduceAdd, Nat.reduceLeDiff, Nat.reduceLT, dl_i, dl_r, dl_n, dl_u, eq_self, not_true_eq_false, not_false_eq_true, n10, n01, nm0, n0m, imp_t, imp_f]
    refine call0 (x_fails (k := 1) ?_)
    simp only [ixr_of, run_s, run_0, rOr_readPart, rok_i, rok_z, bx_cons, bx_nil, eBP, eC0, eC1, eC3, eCV0, eCV1, eCV2, eCm1, eGR, eGS, jICeq, jIClt, jIFeq, jIFne, eLA0, eLI1, eLI2, eLI3, eRI, eSI2, eSI3, fOr_readPart_0, fOr_readPart_13, fOr_readPart_22, fOr_readPart_28, fOr_readPart_37, fOr_readPart_50, fOr_readPart_57, fOr_readPart_59, fOr_readPart_74, fOr_readPart_81, fOr_readPart_83, bOr_readPart_0, bOr_readPart_13, bOr_readPart_22, bOr_readPart_28, bOr_readPart_37, bOr_readPart_50, bOr_readPart_57, bOr_readPart_59, bOr_readPart_74, bOr_readPart_81, bOr_readPart_83, rg_xopinionReader_0, ty_xopinionReader, ty_xtape, Option.toList_some, Option.toList_none, List.cons_append, List.nil_append, List.length_cons, List.length_nil, List.mem_cons, List.not_mem_nil, or_false, false_or, or_true, true_or, ↓reduceIte, true_and, and_true, Nat.reduceEqDiff, Nat.reduceAdd, Nat.reduceLeDiff, Nat.reduceLT, dl_i, dl_r, dl_n, dl_u, eq_self, not_true_eq_false, not_false_eq_true, n10, n01, nm0, n0m, imp_t, imp_f]
    exact he _ _ rfl (Fz.tf ho.1).y tf_e
  rw [← hse] at q ⊢
  have q' : wcode T n s = w_put := q
  have hlt := wEnd_lt hs.2 q' (by decide)
  rw [if_neg (fun z => z q')] at hk he
  simp only [ixr_of, run_s, run_0, rOr_readPart, rok_i, rok_z, bx_cons, bx_nil, eBP, eC0, eC1, eC3, eCV0, eCV1, eCV2, eCm1, eGR, eGS, jICeq, jIClt, jIFeq, jIFne, eLA0, eLI1, eLI2, eLI3, eRI, eSI2, eSI3, fOr_readPart_0, fOr_readPart_13, fOr_readPart_22, fOr_readPart_28, fOr_readPart_37, fOr_readPart_50, fOr_readPart_57, fOr_readPart_59, fOr_readPart_74, fOr_readPart_81, fOr_readPart_83, bOr_readPart_0, bOr_readPart_13, bOr_readPart_22, bOr_readPart_28, bOr_readPart_37, bOr_readPart_50, bOr_readPart_57, bOr_readPart_59, bOr_readPart_74, bOr_readPart_81, bOr_readPart_83, rg_xopinionReader_0, ty_xopinionReader, ty_xtape, Option.toList_some, Option.toList_none, List.cons_append, List.nil_append, List.length_cons, List.length_nil, List.mem_cons, List.not_mem_nil, or_false, false_or, or_true, true_or, ↓reduceIte, true_and, and_true, Nat.reduceEqDiff, Nat.reduceAdd, Nat.reduceLeDiff, Nat.reduceLT, dl_i, dl_r, dl_n, dl_u, eq_self, not_true_eq_false, not_false_eq_true, n10, n01, nm0, n0m, imp_t, imp_f]
  rw [nIs (by omega) (by omega)]
  refine ⟨fun q6 => ?_, fun q6 => ?_⟩
  rotate_left
  · rw [if_pos (show ps.length = 6 by omega)] at hk he
    refine call0 (x_fails (k := 3) ?_)
    simp only [ixr_of, run_s, run_0, rOr_readPart, rok_i, rok_z, bx_cons, bx_nil, eBP, eC0, eC1, eC3, eCV0, eCV1, eCV2, eCm1, eGR, eGS, jICeq, jIClt, jIFeq, jIFne, eLA0, eLI1, eLI2, eLI3, eRI, eSI2, eSI3, fOr_readPart_0, fOr_readPart_13, fOr_readPart_22, fOr_readPart_28, fOr_readPart_37, fOr_readPart_50, fOr_readPart_57, fOr_readPart_59, fOr_readPart_74, fOr_readPart_81, fOr_readPart_83, bOr_readPart_0, bOr_readPart_13, bOr_readPart_22, bOr_readPart_28, bOr_readPart_37, bOr_readPart_50, bOr_readPart_57, bOr_readPart_59, bOr_readPart_74, bOr_readPart_81, bOr_readPart_83, rg_xopinionReader_0, ty_xopinionReader, ty_xtape, Option.toList_some, Option.toList_none, List.cons_append, List.nil_append, List.length_cons, List.length_nil, List.mem_cons, List.not_mem_nil, or_false, false_or, or_true, true_or, ↓reduceIte, true_and, and_true, Nat.reduceEqDiff, Nat.reduceAdd, Nat.reduceLeDiff, Nat.reduceLT, dl_i, dl_r, dl_n, dl_u, eq_self, not_true_eq_false, not_false_eq_true, n10, n01, nm0, n0m, imp_t, imp_f]
    exact he _ _ rfl (Fz.tf ho.1).y tf_e
  rw [if_neg (by omega)] at hk he
  have hat : OXS T n (tp J (wEnd T n s) s) (wEnd T n s) o 0 (stA ps) := h0.at ho.1 hlt.2 (by omega)
  obtain ⟨s1, hs1⟩ : ∃ s1, s1 = sk T n (wEnd T n s) := ⟨_, rfl⟩
  have hsb := sk_b (t := T) hlt.2
  rw [← hs1] at hk he hsb
  have hwb := rn_b (t := T) (lo := nI 97) (hi := nI 122) hsb.2
  refine call0 (x_nextHerb hG hat.1.1 (fun w hw hb => ?_) (fun hb x hx => ?_))
  rotate_left
  · rw [← hs1] at hb ⊢
    rw [if_pos hb] at hk he
    simp only [ixr_of, run_s, run_0, rOr_readPart, rok_i, rok_z, bx_cons, bx_nil, eBP, eC0, eC1, eC3, eCV0, eCV1, eCV2, eCm1, eGR, eGS, jICeq, jIClt, jIFeq, jIFne, eLA0, eLI1, eLI2, eLI3, eRI, eSI2, eSI3, fOr_readPart_0, fOr_readPart_13, fOr_readPart_22, fOr_readPart_28, fOr_readPart_37, fOr_readPart_50, fOr_readPart_57, fOr_readPart_59, fOr_readPart_74, fOr_readPart_81, fOr_readPart_83, bOr_readPart_0, bOr_readPart_13, bOr_readPart_22, bOr_readPart_28, bOr_readPart_37, bOr_readPart_50, bOr_readPart_57, bOr_readPart_59, bOr_readPart_74, bOr_readPart_81, bOr_readPart_83, rg_xopinionReader_0, ty_xopinionReader, ty_xtape, Option.toList_some, Option.toList_none, List.cons_append, List.nil_append, List.length_cons, List.length_nil, List.mem_cons, List.not_mem_nil, or_false, false_or, or_true, true_or, ↓reduceIte, true_and, and_true, Nat.reduceEqDiff, Nat.reduceAdd, Nat.reduceLeDiff, Nat.reduceLT, dl_i, dl_r, dl_n, dl_u, eq_self, not_true_eq_false, not_false_eq_true, n10, n01, nm0, n0m, imp_t, imp_f]
    exact he _ _ rfl ((Fz.tp ho.1).tr (Fz.tf ho.1)).y tf_e
  rw [← hs1] at hb ⊢
  rw [tp_tp]
  rw [if_neg (fun z => z (hb ▸ hw)), hb] at hk he
  have hne : (nI w = -1) = False := eq_false (nI_nm (by omega))
  have hle : s1 ≤ wEnd T n s1 := hwb.1
  have hat2 : OXS T n (tp J (wEnd T n s1) s1) (wEnd T n s1) o 0 (stA ps) := h0.at ho.1 hwb.2 (by omega)
  simp only [ixr_of, run_s, run_0, rOr_readPart, rok_i, rok_z, bx_cons, bx_nil, eBP, eC0, eC1, eC3, eCV0, eCV1, eCV2, eCm1, eGR, eGS, jICeq, jIClt, jIFeq, jIFne, eLA0, eLI1, eLI2, eLI3, eRI, eSI2, eSI3, fOr_readPart_0, fOr_readPart_13, fOr_readPart_22, fOr_readPart_28, fOr_readPart_37, fOr_readPart_50, fOr_readPart_57, fOr_readPart_59, fOr_readPart_74, fOr_readPart_81, fOr_readPart_83, bOr_readPart_0, bOr_readPart_13, bOr_readPart_22, bOr_readPart_28, bOr_readPart_37, bOr_readPart_50, bOr_readPart_57, bOr_readPart_59, bOr_readPart_74, bOr_readPart_81, bOr_readPart_83, rg_xopinionReader_0, ty_xopinionReader, ty_xtape, Option.toList_some, Option.toList_none, List.cons_append, List.nil_append, List.length_cons, List.length_nil, List.mem_cons, List.not_mem_nil, or_false, false_or, or_true, true_or, ↓reduceIte, true_and, and_true, Nat.reduceEqDiff, Nat.reduceAdd, Nat.reduceLeDiff, Nat.reduceLT, dl_i, dl_r, dl_n, dl_u, eq_self, not_true_eq_false, not_false_eq_true, n10, n01, nm0, n0m, hne, imp_t, imp_f]
  rw [show d + 23 = d + 2 + 2 * 6 + 9 by omega]
  refine call0 (rd_sumD hT 6 (Nat.le_refl _) _ _ _ _ _ _ _ _ _ _ _ hG hR hat2 (fun c M K e1 F1 K1 => ?_) (fun e K e1 F1 K1 => ?_))
  rotate_left
  · rw [e1] at he
    simp only [ixr_of, run_s, run_0, rOr_readPart, rok_i, rok_z, bx_cons, bx_nil, eBP, eC0, eC1, eC3, eCV0, eCV1, eCV2, eCm1, eGR, eGS, jICeq, jIClt, jIFeq, jIFne, eLA0, eLI1, eLI2, eLI3, eRI, eSI2, eSI3, fOr_readPart_0, fOr_readPart_13, fOr_readPart_22, fOr_readPart_28, fOr_readPart_37, fOr_readPart_50, fOr_readPart_57, fOr_readPart_59, fOr_readPart_74, fOr_readPart_81, fOr_readPart_83, bOr_readPart_0, bOr_readPart_13, bOr_readPart_22, bOr_readPart_28, bOr_readPart_37, bOr_readPart_50, bOr_readPart_57, bOr_readPart_59, bOr_readPart_74, bOr_readPart_81, bOr_readPart_83, rg_xopinionReader_0, ty_xopinionReader, ty_xtape, Option.toList_some, Option.toList_none, List.cons_append, List.nil_append, List.length_cons, List.length_nil, List.mem_cons, List.not_mem_nil, or_false, false_or, or_true, true_or, ↓reduceIte, true_and, and_true, Nat.reduceEqDiff, Nat.reduceAdd, Nat.reduceLeDiff, Nat.reduceLT, dl_i, dl_r, dl_n, dl_u, eq_self, not_true_eq_false, not_false_eq_true, n10, n01, nm0, n0m, imp_t, imp_f]
    exact he _ _ rfl ((Fz.tp ho.1).tr F1).y K1.1
  rw [e1] at hk he
  dsimp only at hk he
  have g1 := sumD_g hT 6 _ _ _ hwb.2 e1
  have hc := K1.1.1.2.2.2.2.2
  have hsc := sk_b (t := T) hc
  obtain ⟨s2, hs2⟩ : ∃ s2, s2 = sk T n c := ⟨_, rfl⟩
  rw [← hs2] at hk he hsc
  have hl1 := K1.2.2.2.1
  have hlen : (stA ps ++ M.map enc).length + 1 ≤ c := by rw [List.length_append, List.length_map]; omega
  have fin : ∀ (M2 : List Cd) (c2 : Nat) (K2 : Iv) (q : Bool), (q = true ↔ ¬ M2 = []) → (∀ K, Fy o J K → XPs T n K c2 o (ps ++ [(w, M, M2)]) → kr (some (.int (nI 1))) K E) → Fz o J K2 → (stA ps ++ (M.map enc ++ M2.map enc)).length + 1 ≤ c2 → OXS T n K2 c2 o 0 (stA ps ++ (M.map enc ++ M2.map enc)) → go 83 [some (.ref 97), some (.int (nI ps.length)), some (.int (nI w)), some (.int (if q then nI 1 else nI 0))] [] K2 E (0, 0) := by
    intro M2 c2 K2 q hq hk2 hF hl2 hO
    have hc2 := hO.1.1.2.2.2.2.2
    refine hgo 20 [] 83 _ _ _ _ _ ?_
    simp only [ixr_of, run_s, run_0, rOr_readPart, rok_i, rok_z, bx_cons, bx_nil, eBP, eC0, eC1, eC3, eCV0, eCV1, eCV2, eCm1, eGR, eGS, jICeq, jIClt, jIFeq, jIFne, eLA0, eLI1, eLI2, eLI3, eRI, eSI2, eSI3, fOr_readPart_0, fOr_readPart_13, fOr_readPart_22, fOr_readPart_28, fOr_readPart_37, fOr_readPart_50, fOr_readPart_57, fOr_readPart_59, fOr_readPart_74, fOr_readPart_81, fOr_readPart_83, bOr_readPart_0, bOr_readPart_13, bOr_readPart_22, bOr_readPart_28, bOr_readPart_37, bOr_readPart_50, bOr_readPart_57, bOr_readPart_59, bOr_readPart_74, bOr_readPart_81, bOr_readPart_83, rg_xopinionReader_0, ty_xopinionReader, ty_xtape, Option.toList_some, Option.toList_none, List.cons_append, List.nil_append, List.length_cons, List.length_nil, List.mem_cons, List.not_mem_nil, or_false, false_or, or_true, true_or, ↓reduceIte, true_and, and_true, Nat.reduceEqDiff, Nat.reduceAdd, Nat.reduceLeDiff, Nat.reduceLT, dl_i, dl_r, dl_n, dl_u, eq_self, not_true_eq_false, not_false_eq_true, n10, n01, nm0, n0m, r1, tO, imp_t, imp_f]
    refine call0 (x_endPart hR.1 hO.2.2.1.1 (by omega) hw (hF.2.2.2.trans h4) (hbs_8 ps hv) (hF.2.2.1.trans h3) ?_)
    simp only [ixr_of, run_s, run_0, rOr_readPart, rok_i, rok_z, bx_cons, bx_nil, eBP, eC0, eC1, eC3, eCV0, eCV1, eCV2, eCm1, eGR, eGS, jICeq, jIClt, jIFeq, jIFne, eLA0, eLI1, eLI2, eLI3, eRI, eSI2, eSI3, fOr_readPart_0, fOr_readPart_13, fOr_readPart_22, fOr_readPart_28, fOr_readPart_37, fOr_readPart_50, fOr_readPart_57, fOr_readPart_59, fOr_readPart_74, fOr_readPart_81, fOr_readPart_83, bOr_readPart_0, bOr_readPart_13, bOr_readPart_22, bOr_readPart_28, bOr_readPart_37, bOr_readPart_50, bOr_readPart_57, bOr_readPart_59, bOr_readPart_74, bOr_readPart_81, bOr_readPart_83, rg_xopinionReader_0, ty_xopinionReader, ty_xtape, Option.toList_some, Option.toList_none, List.cons_append, List.nil_append, List.length_cons, List.length_nil, List.mem_cons, List.not_mem_nil, or_false, false_or, or_true, true_or, ↓reduceIte, true_and, and_true, Nat.reduceEqDiff, Nat.reduceAdd, Nat.reduceLeDiff, Nat.reduceLT, dl_i, dl_r, dl_n, dl_u, eq_self, not_true_eq_false, not_false_eq_true, n10, n01, nm0, n0m, imp_t, imp_f]
    exact hk2 _ (hF.y.tr (Fy.en ho.1)) (enP_s (p := (w, M, M2)) ho hq hO hl2 hw hv)
  simp only [ixr_of, run_s, run_0, rOr_readPart, rok_i, rok_z, bx_cons, bx_nil, eBP, eC0, eC1, eC3, eCV0, eCV1, eCV2, eCm1, eGR, eGS, jICeq, jIClt, jIFeq, jIFne, eLA0, eLI1, eLI2, eLI3, eRI, eSI2, eSI3, fOr_readPart_0, fOr_readPart_13, fOr_readPart_22, fOr_readPart_28, fOr_readPart_37, fOr_readPart_50, fOr_readPart_57, fOr_readPart_59, fOr_readPart_74, fOr_readPart_81, fOr_readPart_83, bOr_readPart_0, bOr_readPart_13, bOr_readPart_22, bOr_readPart_28, bOr_readPart_37, bOr_readPart_50, bOr_readPart_57, bOr_readPart_59, bOr_readPart_74, bOr_readPart_81, bOr_readPart_83, rg_xopinionReader_0, ty_xopinionReader, ty_xtape, Option.toList_some, Option.toList_none, List.cons_append, List.nil_append, List.length_cons, List.length_nil, List.mem_cons, List.not_mem_nil, or_false, false_or, or_true, true_or, ↓reduceIte, true_and, and_true, Nat.reduceEqDiff, Nat.reduceAdd, Nat.reduceLeDiff, Nat.reduceLT, dl_i, dl_r, dl_n, dl_u, eq_self, not_true_eq_false, not_false_eq_true, n10, n01, nm0, n0m, hG1, imp_t, imp_f]
  refine call0 (x_takes (v := 15) hG K1.1.1 (by decide) (fun q2 => ?_) (fun q2 => ?_))
  · rw [← hs2] at q2 ⊢
    have q2' : wcode T n s2 = w_if := q2
    rw [if_pos q2'] at hk he
    have hlt2 := wEnd_lt hsc.2 q2' (by decide)
    have hat3 : OXS T n (tp K (wEnd T n s2) s2) (wEnd T n s2) o 0 (stA ps ++ M.map enc) := K1.at ho.1 hlt2.2 (by omega)
    simp only [ixr_of, run_s, run_0, rOr_readPart, rok_i, rok_z, bx_cons, bx_nil, eBP, eC0, eC1, eC3, eCV0, eCV1, eCV2, eCm1, eGR, eGS, jICeq, jIClt, jIFeq, jIFne, eLA0, eLI1, eLI2, eLI3, eRI, eSI2, eSI3, fOr_readPart_0, fOr_readPart_13, fOr_readPart_22, fOr_readPart_28, fOr_readPart_37, fOr_readPart_50, fOr_readPart_57, fOr_readPart_59, fOr_readPart_74, fOr_readPart_81, fOr_readPart_83, bOr_readPart_0, bOr_readPart_13, bOr_readPart_22, bOr_readPart_28, bOr_readPart_37, bOr_readPart_50, bOr_readPart_57, bOr_readPart_59, bOr_readPart_74, bOr_readPart_81, bOr_readPart_83, rg_xopinionReader_0, ty_xopinionReader, ty_xtape, Option.toList_some, Option.toList_none, List.cons_append, List.nil_append, List.length_cons, List.length_nil, List.mem_cons, List.not_mem_nil, or_false, false_or, or_true, true_or, ↓reduceIte, true_and, and_true, Nat.reduceEqDiff, Nat.reduceAdd, Nat.reduceLeDiff, Nat.reduceLT, dl_i, dl_r, dl_n, dl_u, eq_self, not_true_eq_false, not_false_eq_true, n10, n01, nm0, n0m, imp_t, imp_f]
    rw [show d + 23 = d + 0 + 2 * 6 + 11 by omega]
    refine call0 (rd_anyD hT (Nat.le_refl 6) _ _ _ _ _ _ _ _ _ _ _ hG hR hat3 (fun c2 M2 K2 e2 F2 K2s => ?_) (fun e K2 e2 F2 K2s => ?_))
    · rw [e2] at hk
      have g2 := anyW_g (oneD_g hT 6) _ _ _ hlt2.2 e2
      have hne2 : ¬ M2 = [] := fun z => by
        have := anyW_e (oneD_e 6) _ _ _ e2
        rw [z] at this
        exact absurd this TB_nil
      simp only [ixr_of, run_s, run_0, rOr_readPart, rok_i, rok_z, bx_cons, bx_nil, eBP, eC0, eC1, eC3, eCV0, eCV1, eCV2, eCm1, eGR, eGS, jICeq, jIClt, jIFeq, jIFne, eLA0, eLI1, eLI2, eLI3, eRI, eSI2, eSI3, fOr_readPart_0, fOr_readPart_13, fOr_readPart_22, fOr_readPart_28, fOr_readPart_37, fOr_readPart_50, fOr_readPart_57, fOr_readPart_59, fOr_readPart_74, fOr_readPart_81, fOr_readPart_83, bOr_readPart_0, bOr_readPart_13, bOr_readPart_22, bOr_readPart_28, bOr_readPart_37, bOr_readPart_50, bOr_readPart_57, bOr_readPart_59, bOr_readPart_74, bOr_readPart_81, bOr_readPart_83, rg_xopinionReader_0, ty_xopinionReader, ty_xtape, Option.toList_some, Option.toList_none, List.cons_append, List.nil_append, List.length_cons, List.length_nil, List.mem_cons, List.not_mem_nil, or_false, false_or, or_true, true_or, ↓reduceIte, true_and, and_true, Nat.reduceEqDiff, Nat.reduceAdd, Nat.reduceLeDiff, Nat.reduceLT, dl_i, dl_r, dl_n, dl_u, eq_self, not_true_eq_false, not_false_eq_true, n10, n01, nm0, n0m, imp_t, imp_f]
      refine fin M2 c2 K2 true (by simp [hne2]) (fun K' hF hX => hk _ _ _ rfl hF hX) ((((Fz.tp ho.1).tr F1).tr (Fz.tp ho.1)).tr F2) ?_ ?_
      · rw [← List.append_assoc, List.length_append, List.length_map]; omega
      · rw [← List.append_assoc]; exact K2s
    · rw [e2] at he
      simp only [ixr_of, run_s, run_0, rOr_readPart, rok_i, rok_z, bx_cons, bx_nil, eBP, eC0, eC1, eC3, eCV0, eCV1, eCV2, eCm1, eGR, eGS, jICeq, jIClt, jIFeq, jIFne, eLA0, eLI1, eLI2, eLI3, eRI, eSI2, eSI3, fOr_readPart_0, fOr_readPart_13, fOr_readPart_22, fOr_readPart_28, fOr_readPart_37, fOr_readPart_50, fOr_readPart_57, fOr_readPart_59, fOr_readPart_74, fOr_readPart_81, fOr_readPart_83, bOr_readPart_0, bOr_readPart_13, bOr_readPart_22, bOr_readPart_28, bOr_readPart_37, bOr_readPart_50, bOr_readPart_57, bOr_readPart_59, bOr_readPart_74, bOr_readPart_81, bOr_readPart_83, rg_xopinionReader_0, ty_xopinionReader, ty_xtape, Option.toList_some, Option.toList_none, List.cons_append, List.nil_append, List.length_cons, List.length_nil, List.mem_cons, List.not_mem_nil, or_false, false_or, or_true, true_or, ↓reduceIte, true_and, and_true, Nat.reduceEqDiff, Nat.reduceAdd, Nat.reduceLeDiff, Nat.reduceLT, dl_i, dl_r, dl_n, dl_u, eq_self, not_true_eq_false, not_false_eq_true, n10, n01, nm0, n0m, imp_t, imp_f]
      exact he _ _ rfl ((((Fz.tp ho.1).tr F1).tr (Fz.tp ho.1)).tr F2).y K2s.1
  · rw [← hs2] at q2 ⊢
    have q2' : ¬ wcode T n s2 = w_if := q2
    rw [if_neg q2'] at hk he
    simp only [ixr_of, run_s, run_0, rOr_readPart, rok_i, rok_z, bx_cons, bx_nil, eBP, eC0, eC1, eC3, eCV0, eCV1, eCV2, eCm1, eGR, eGS, jICeq, jIClt, jIFeq, jIFne, eLA0, eLI1, eLI2, eLI3, eRI, eSI2, eSI3, fOr_readPart_0, fOr_readPart_13, fOr_readPart_22, fOr_readPart_28, fOr_readPart_37, fOr_readPart_50, fOr_readPart_57, fOr_readPart_59, fOr_readPart_74, fOr_readPart_81, fOr_readPart_83, bOr_readPart_0, bOr_readPart_13, bOr_readPart_22, bOr_readPart_28, bOr_readPart_37, bOr_readPart_50, bOr_readPart_57, bOr_readPart_59, bOr_readPart_74, bOr_readPart_81, bOr_readPart_83, rg_xopinionReader_0, ty_xopinionReader, ty_xtape, Option.toList_some, Option.toList_none, List.cons_append, List.nil_append, List.length_cons, List.length_nil, List.mem_cons, List.not_mem_nil, or_false, false_or, or_true, true_or, ↓reduceIte, true_and, and_true, Nat.reduceEqDiff, Nat.reduceAdd, Nat.reduceLeDiff, Nat.reduceLT, dl_i, dl_r, dl_n, dl_u, eq_self, not_true_eq_false, not_false_eq_true, n10, n01, nm0, n0m, imp_t, imp_f]
    refine fin [] s2 _ false (by simp) (fun K' hF hX => hk _ _ _ rfl hF hX) (((Fz.tp ho.1).tr F1).tr (Fz.tp ho.1)) ?_ ?_
    · rw [List.map_nil, List.append_nil]; omega
    · rw [List.map_nil, List.append_nil]
      exact K1.at ho.1 hsc.2 (by omega)
theorem upR_r {sh : Sh} {E : Ev} {i j x : Nat} (h : sh.2.2 i j = none) : rget sh (upR E.1 i j (x + 1), E.2) i j = .ref x := by
  unfold rget
  rw [h]
  have : (upR E.1 i j (x + 1), E.2).1 i j = x + 1 := if_pos ⟨rfl, rfl⟩
  rw [this]
  rfl
theorem ppS_np {np c : Nat} {p : Pt} (h : ppS T n np a = .ok (c, p)) : ¬ np = 6 := by
  intro e
  unfold ppS at h
  by_cases q1 : ¬ wcode T n (sk T n a) = w_put
  · rw [if_pos q1] at h; cases h
  · rw [if_neg q1, if_pos e] at h; cases h
theorem ppS_sk {np : Nat} (h : a ≤ n) : ppS T n np (sk T n a) = ppS T n np a := by
  unfold ppS
  rw [sk_sk h]
theorem XPs.at {x s : Nat} {ps : List Pt} (h : XPs T n J a o ps) (ho : 3 ≤ o) (hx : x ≤ n) (hl : (stA ps).length ≤ x) : XPs T n (tp J x s) x o ps := ⟨h.1.at ho hx hl, by rw [tp_o (by omega)]; exact h.2.1, by rw [tp_o (by omega)]; exact h.2.2.1, h.2.2.2⟩
/-- the opinion that was read -/
def XOq (J : Iv) (o : Nat) (ps : List Pt) : Prop := XO J o (stA ps) ∧ J o 3 = nI ps.length ∧ J o 4 = nI (hbs ps) ∧ J o 5 = bi (1004 ∈ stA ps)
theorem x_oread (hG : GX Γ) (hA : OpA (shB b) E o) (ho : 3 ≤ o ∧ o + 2 < 97) (h : TS T n J 0) (h150 : n ≤ 150) (hk : ∀ ps K, opS T n = .ok ps → Fy o J K → K 1 6 = -1 → XOq K o ps → (stA ps).length ≤ 150 → kr (some (.int (nI 1))) K (upR E.1 97 1 (o + 1), E.2)) (he : ∀ e K, opS T n = .error e → Fy o J K → TEr K e → kr (some (.int (nI 0))) K (upR E.1 97 1 (o + 1), E.2)) : Ex Γ l (shB b) (d + 25) (0, 0) mOr_read [.ref 97, .ref o] J E kr kx := by
  refine ex_of (ls0 := [some (.ref 97), some (.ref o), none]) tOr_read (by decide +kernel) kOr_read rfl (Nat.le_of_ble_eq_true rfl) rfl ?_
  intro go hgo
  have tO := hA.1
  have hA' : OpA (shB b) (upR E.1 97 1 (o + 1), E.2) o := by
    obtain ⟨p1, p2, p3, p4, p5, p6, p7⟩ := hA
    exact ⟨p1, by rw [rget_up_ne (by omega)]; exact p2, by rw [rget_up_ne (by omega)]; exact p3, p4, p5, p6, p7⟩
  have tO' := hA'.1
  refine hgo 20 [19] 0 _ _ _ _ _ ?_
  simp only [ixr_of, run_s, run_0, rOr_read, rok_i, rok_z, bx_cons, bx_nil, eBP, eC0, eC1, eCV0, eCV1, eGO, eGR, jICgt, jIFeq, jIFne, eINC2, eLA0, eLA1, eLI2, ePI, ePR, eRI, eSI2, fOr_read_0, fOr_read_19, fOr_read_25, fOr_read_35, fOr_read_37, fOr_read_45, fOr_read_57, fOr_read_59, fOr_read_65, bOr_read_0, bOr_read_19, bOr_read_25, bOr_read_35, bOr_read_37, bOr_read_45, bOr_read_57, bOr_read_59, bOr_read_65, rg_xopinionReader_0, ty_xopinionReader, ty_xtape, Option.toList_some, Option.toList_none, List.cons_append, List.nil_append, List.length_cons, List.length_nil, List.mem_cons, List.not_mem_nil, or_false, false_or, or_true, true_or, ↓reduceIte, true_and, and_true, Nat.reduceEqDiff, Nat.reduceAdd, Nat.reduceLeDiff, Nat.reduceLT, dl_i, dl_r, dl_n, dl_u, eq_self, not_true_eq_false, not_false_eq_true, n10, n01, nm0, n0m, tO, imp_t, imp_f]
  have rE : rget (shB b) (upR E.1 97 1 (o + 1), E.2) 97 1 = .ref o := upR_r rfl
  have hR : RoA b (upR E.1 97 1 (o + 1), E.2) o := ⟨hA', rE, ho⟩
  generalize (upR E.1 97 1 (o + 1), E.2) = E' at *
  simp only [ixr_of, run_s, run_0, rOr_read, rok_i, rok_z, bx_cons, bx_nil, eBP, eC0, eC1, eCV0, eCV1, eGO, eGR, jICgt, jIFeq, jIFne, eINC2, eLA0, eLA1, eLI2, ePI, ePR, eRI, eSI2, fOr_read_0, fOr_read_19, fOr_read_25, fOr_read_35, fOr_read_37, fOr_read_45, fOr_read_57, fOr_read_59, fOr_read_65, bOr_read_0, bOr_read_19, bOr_read_25, bOr_read_35, bOr_read_37, bOr_read_45, bOr_read_57, bOr_read_59, bOr_read_65, rg_xopinionReader_0, ty_xopinionReader, ty_xtape, Option.toList_some, Option.toList_none, List.cons_append, List.nil_append, List.length_cons, List.length_nil, List.mem_cons, List.not_mem_nil, or_false, false_or, or_true, true_or, ↓reduceIte, true_and, and_true, Nat.reduceEqDiff, Nat.reduceAdd, Nat.reduceLeDiff, Nat.reduceLT, dl_i, dl_r, dl_n, dl_u, eq_self, not_true_eq_false, not_false_eq_true, n10, n01, nm0, n0m, rE, tO', imp_t, imp_f]
  refine ⟨rfl, call0 (x_oclear hA' ?_)⟩
  simp only [ixr_of, run_s, run_0, rOr_read, rok_i, rok_z, bx_cons, bx_nil, eBP, eC0, eC1, eCV0, eCV1, eGO, eGR, jICgt, jIFeq, jIFne, eINC2, eLA0, eLA1, eLI2, ePI, ePR, eRI, eSI2, fOr_read_0, fOr_read_19, fOr_read_25, fOr_read_35, fOr_read_37, fOr_read_45, fOr_read_57, fOr_read_59, fOr_read_65, bOr_read_0, bOr_read_19, bOr_read_25, bOr_read_35, bOr_read_37, bOr_read_45, bOr_read_57, bOr_read_59, bOr_read_65, rg_xopinionReader_0, ty_xopinionReader, ty_xtape, Option.toList_some, Option.toList_none, List.cons_append, List.nil_append, List.length_cons, List.length_nil, List.mem_cons, List.not_mem_nil, or_false, false_or, or_true, true_or, ↓reduceIte, true_and, and_true, Nat.reduceEqDiff, Nat.reduceAdd, Nat.reduceLeDiff, Nat.reduceLT, dl_i, dl_r, dl_n, dl_u, eq_self, not_true_eq_false, not_false_eq_true, n10, n01, nm0, n0m, imp_t, imp_f]
  have loop : ∀ (g a : Nat) (ps : List Pt) (K : Iv), g + ps.length = 7 → ps.length ≤ 6 → opS T n = (match opL T n g ps.length a with | .error e => .error e | .ok qs => .ok (ps ++ qs)) → Fy o J K → XPs T n K a o ps → go 19 [some (.ref 97), some (.ref o), some (.int (nI ps.length))] [] K E' (0, 0) := by
    intro g
    induction g with
    | zero => intro a ps K hg hp; omega
    | succ g ih =>
      intro a ps K hg hp hO hF hX
      have han := hX.1.1.1.2.2.2.2.2
      have hs := sk_b (t := T) han
      have hl := hX.1.2.2.2.1
      unfold opL at hO
      refine hgo 20 [19] 19 _ _ _ _ _ ?_
      simp only [ixr_of, run_s, run_0, rOr_read, rok_i, rok_z, bx_cons, bx_nil, eBP, eC0, eC1, eCV0, eCV1, eGO, eGR, jICgt, jIFeq, jIFne, eINC2, eLA0, eLA1, eLI2, ePI, ePR, eRI, eSI2, fOr_read_0, fOr_read_19, fOr_read_25, fOr_read_35, fOr_read_37, fOr_read_45, fOr_read_57, fOr_read_59, fOr_read_65, bOr_read_0, bOr_read_19, bOr_read_25, bOr_read_35, bOr_read_37, bOr_read_45, bOr_read_57, bOr_read_59, bOr_read_65, rg_xopinionReader_0, ty_xopinionReader, ty_xtape, Option.toList_some, Option.toList_none, List.cons_append, List.nil_append, List.length_cons, List.length_nil, List.mem_cons, List.not_mem_nil, or_false, false_or, or_true, true_or, ↓reduceIte, true_and, and_true, Nat.reduceEqDiff, Nat.reduceAdd, Nat.reduceLeDiff, Nat.reduceLT, dl_i, dl_r, dl_n, dl_u, eq_self, not_true_eq_false, not_false_eq_true, n10, n01, nm0, n0m, imp_t, imp_f]
      rw [nIs (by omega) (by omega)]
      refine ⟨fun q => absurd q (by omega), fun _ => ?_⟩
      refine call0 (x_isEnded hX.1.1.1 ?_)
      have hX2 := XPs.at (s := sk T n a) hX ho.1 hs.2 (by omega)
      simp only [ixr_of, run_s, run_0, rOr_read, rok_i, rok_z, bx_cons, bx_nil, eBP, eC0, eC1, eCV0, eCV1, eGO, eGR, jICgt, jIFeq, jIFne, eINC2, eLA0, eLA1, eLI2, ePI, ePR, eRI, eSI2, fOr_read_0, fOr_read_19, fOr_read_25, fOr_read_35, fOr_read_37, fOr_read_45, fOr_read_57, fOr_read_59, fOr_read_65, bOr_read_0, bOr_read_19, bOr_read_25, bOr_read_35, bOr_read_37, bOr_read_45, bOr_read_57, bOr_read_59, bOr_read_65, rg_xopinionReader_0, ty_xopinionReader, ty_xtape, Option.toList_some, Option.toList_none, List.cons_append, List.nil_append, List.length_cons, List.length_nil, List.mem_cons, List.not_mem_nil, or_false, false_or, or_true, true_or, ↓reduceIte, true_and, and_true, Nat.reduceEqDiff, Nat.reduceAdd, Nat.reduceLeDiff, Nat.reduceLT, dl_i, dl_r, dl_n, dl_u, eq_self, not_true_eq_false, not_false_eq_true, n10, n01, nm0, n0m, imp_t, imp_f]
      by_cases q : n ≤ sk T n a
      · rw [bi_t q]
        rw [if_pos q] at hO
        refine ⟨fun z => absurd z (by decide), fun _ => ?_⟩
        refine hk ps _ (by rw [hO]; show _ = Except.ok ps; rw [← List.append_nil ps]; simp) (hF.tr (Fz.tp ho.1).y) hX2.1.1.2 ⟨hX2.1.2.2.1, hX2.2.1, hX2.2.2.1, hX2.1.2.2.2.2.2.2⟩ (by have := hX2.1.2.2.2.1; omega)
      · rw [bi_f q]
        rw [if_neg q, ptS_p] at hO
        refine ⟨fun _ => ?_, fun z => absurd rfl z⟩
        refine call0 (x_readPart hG hR hp hX2 (fun c p K2 e1 F1 K1 => ?_) (fun e K2 e1 F1 K1 => ?_))
        · rw [ppS_sk han] at e1
          have hc := K1.1.1.1.2.2.2.2.2
          have hsc := sk_b (t := T) hc
          have hlc := K1.1.2.2.2.1
          have hnp := ppS_np e1
          rw [e1] at hO
          dsimp only at hO
          simp only [ixr_of, run_s, run_0, rOr_read, rok_i, rok_z, bx_cons, bx_nil, eBP, eC0, eC1, eCV0, eCV1, eGO, eGR, jICgt, jIFeq, jIFne, eINC2, eLA0, eLA1, eLI2, ePI, ePR, eRI, eSI2, fOr_read_0, fOr_read_19, fOr_read_25, fOr_read_35, fOr_read_37, fOr_read_45, fOr_read_57, fOr_read_59, fOr_read_65, bOr_read_0, bOr_read_19, bOr_read_25, bOr_read_35, bOr_read_37, bOr_read_45, bOr_read_57, bOr_read_59, bOr_read_65, rg_xopinionReader_0, ty_xopinionReader, ty_xtape, Option.toList_some, Option.toList_none, List.cons_append, List.nil_append, List.length_cons, List.length_nil, List.mem_cons, List.not_mem_nil, or_false, false_or, or_true, true_or, ↓reduceIte, true_and, and_true, Nat.reduceEqDiff, Nat.reduceAdd, Nat.reduceLeDiff, Nat.reduceLT, dl_i, dl_r, dl_n, dl_u, eq_self, not_true_eq_false, not_false_eq_true, n10, n01, nm0, n0m, imp_t, imp_f]
          refine call0 (x_needSign (c := 59) K1.1.1.1 (by decide) (fun q2 => ?_) (fun q2 => ?_))
          · have hT : Tx T n := by rw [← K1.1.1.1.1]; exact xt_Tx
            have hlt := hT.lt (by decide) q2
            simp only [ixr_of, run_s, run_0, rOr_read, rok_i, rok_z, bx_cons, bx_nil, eBP, eC0, eC1, eCV0, eCV1, eGO, eGR, jICgt, jIFeq, jIFne, eINC2, eLA0, eLA1, eLI2, ePI, ePR, eRI, eSI2, fOr_read_0, fOr_read_19, fOr_read_25, fOr_read_35, fOr_read_37, fOr_read_45, fOr_read_57, fOr_read_59, fOr_read_65, bOr_read_0, bOr_read_19, bOr_read_25, bOr_read_35, bOr_read_37, bOr_read_45, bOr_read_57, bOr_read_59, bOr_read_65, rg_xopinionReader_0, ty_xopinionReader, ty_xtape, Option.toList_some, Option.toList_none, List.cons_append, List.nil_append, List.length_cons, List.length_nil, List.mem_cons, List.not_mem_nil, or_false, false_or, or_true, true_or, ↓reduceIte, true_and, and_true, Nat.reduceEqDiff, Nat.reduceAdd, Nat.reduceLeDiff, Nat.reduceLT, dl_i, dl_r, dl_n, dl_u, eq_self, not_true_eq_false, not_false_eq_true, n10, n01, nm0, n0m, nI_add, imp_t, imp_f]
            have hlen : (ps ++ [p]).length = ps.length + 1 := by rw [List.length_append]; rfl
            rw [← hlen]
            refine ih (sk T n c + 1) (ps ++ [p]) _ (by omega) (by omega) ?_ (((hF.tr (Fz.tp ho.1).y).tr F1).tr (Fz.tp ho.1).y) (XPs.at K1 ho.1 hlt (by omega))
            rw [hO, show sgS T n (nI 59) c = .ok (sk T n c + 1, []) from if_pos q2, hlen]
            dsimp only
            cases opL T n g (ps.length + 1) (sk T n c + 1) with
            | error e => rfl
            | ok qs =>
              dsimp only
              rw [List.append_assoc]
              rfl
          · simp only [ixr_of, run_s, run_0, rOr_read, rok_i, rok_z, bx_cons, bx_nil, eBP, eC0, eC1, eCV0, eCV1, eGO, eGR, jICgt, jIFeq, jIFne, eINC2, eLA0, eLA1, eLI2, ePI, ePR, eRI, eSI2, fOr_read_0, fOr_read_19, fOr_read_25, fOr_read_35, fOr_read_37, fOr_read_45, fOr_read_57, fOr_read_59, fOr_read_65, bOr_read_0, bOr_read_19, bOr_read_25, bOr_read_35, bOr_read_37, bOr_read_45, bOr_read_57, bOr_read_59, bOr_read_65, rg_xopinionReader_0, ty_xopinionReader, ty_xtape, Option.toList_some, Option.toList_none, List.cons_append, List.nil_append, List.length_cons, List.length_nil, List.mem_cons, List.not_mem_nil, or_false, false_or, or_true, true_or, ↓reduceIte, true_and, and_true, Nat.reduceEqDiff, Nat.reduceAdd, Nat.reduceLeDiff, Nat.reduceLT, dl_i, dl_r, dl_n, dl_u, eq_self, not_true_eq_false, not_false_eq_true, n10, n01, nm0, n0m, imp_t, imp_f]
            refine he (1, sk T n c) _ ?_ (((hF.tr (Fz.tp ho.1).y).tr F1).tr (Fz.tf ho.1).y) tf_e
            rw [hO, show sgS T n (nI 59) c = .error (1, sk T n c) from if_neg q2]
        · rw [ppS_sk han] at e1
          rw [e1] at hO
          simp only [ixr_of, run_s, run_0, rOr_read, rok_i, rok_z, bx_cons, bx_nil, eBP, eC0, eC1, eCV0, eCV1, eGO, eGR, jICgt, jIFeq, jIFne, eINC2, eLA0, eLA1, eLI2, ePI, ePR, eRI, eSI2, fOr_read_0, fOr_read_19, fOr_read_25, fOr_read_35, fOr_read_37, fOr_read_45, fOr_read_57, fOr_read_59, fOr_read_65, bOr_read_0, bOr_read_19, bOr_read_25, bOr_read_35, bOr_read_37, bOr_read_45, bOr_read_57, bOr_read_59, bOr_read_65, rg_xopinionReader_0, ty_xopinionReader, ty_xtape, Option.toList_some, Option.toList_none, List.cons_append, List.nil_append, List.length_cons, List.length_nil, List.mem_cons, List.not_mem_nil, or_false, false_or, or_true, true_or, ↓reduceIte, true_and, and_true, Nat.reduceEqDiff, Nat.reduceAdd, Nat.reduceLeDiff, Nat.reduceLT, dl_i, dl_r, dl_n, dl_u, eq_self, not_true_eq_false, not_false_eq_true, n10, n01, nm0, n0m, imp_t, imp_f]
          exact he _ _ hO ((hF.tr (Fz.tp ho.1).y).tr F1) K1
  refine loop 7 0 [] _ rfl (by decide) ?_ ?_ ?_
  · show opL T n 7 0 0 = _
    cases opL T n 7 0 0 <;> rfl
  · exact ((((Fy.up ho.1).tr (Fy.up ho.1)).tr (Fy.up ho.1)).tr (Fy.up ho.1)).tr (Fz.opn ho).y
  · refine ⟨⟨h.mvo ?_ ?_, h150, ⟨?_, fun i x hx => by cases hx⟩, Nat.zero_le _, up_s, Nat.zero_le _, ?_⟩, ?_, ?_, fun p hp => by cases hp⟩
    · funext j
      rw [up_n (by omega), up_n (by omega), up_n (by omega), up_n (by omega), up_n (by omega)]
    · funext j
      rw [up_n (by omega), up_n (by omega), up_n (by omega), up_n (by omega), up_n (by omega)]
    · rw [up_n (by omega), up_n (by omega), up_n (by omega), up_n (by omega), up_s]
      rfl
    · rw [up_n (by omega), up_s]
      exact (bi_f (fun z => by cases z)).symm
    · rw [up_n (by omega), up_n (by omega), up_n (by omega), up_s]
      rfl
    · rw [up_n (by omega), up_n (by omega), up_s]
      rfl
end XOp2
