/-! contracts of the class, 12: opinions, read: values -/
def lkX (k : Nat) : Nat := [3, 0, 1, 2, 4, 5, 6].getD k 0
def opX (k : Nat) : Nat := [0, 0, 1007, 1008, 1009, 1010, 1011, 1012, 1013, 1016, 1014, 1015].getD k 0
/-- a code as the class's step -/
def enc (c : Cd) : Nat := if c.1 = 0 then c.2 else if c.1 = 1 then 1000 + lkX c.2 else opX c.1
def OpA (sh : Sh) (E : Ev) (o : Nat) : Prop := tyc sh E o = 6 ∧ rget sh E o 0 = .ref (o + 1) ∧ rget sh E o 1 = .ref (o + 2) ∧ tyc sh E (o + 1) = 101 ∧ tyc sh E (o + 2) = 101 ∧ len sh E (o + 1) = 160 ∧ len sh E (o + 2) = 64
/-- the steps of an opinion -/
def XO (J : Iv) (o : Nat) (L : List Nat) : Prop := J o 2 = nI L.length ∧ ∀ i x, L[i]? = some x → J (o + 1) i = nI x
def OXS (T : Nat → Int32) (n : Nat) (J : Iv) (a o op : Nat) (L : List Nat) : Prop := TS T n J a ∧ n ≤ 150 ∧ XO J o L ∧ L.length ≤ a ∧ J 97 2 = nI op ∧ op ≤ 6 ∧ J o 5 = bi (1004 ∈ L)
def XEr (K : Iv) (o : Nat) (e : Nat × Nat) : Prop := TEr K e ∧ ∃ m, m ≤ 160 ∧ K o 2 = nI m
def Fz (o : Nat) (J K : Iv) : Prop := (∀ i, i ≠ 1 → i ≠ 97 → ¬ (o ≤ i ∧ i ≤ o + 1) → K i = J i) ∧ (∀ j, j < 3 → K 1 j = J 1 j) ∧ K o 3 = J o 3 ∧ K o 4 = J o 4
theorem Fz.rf {o : Nat} {J : Iv} : Fz o J J := ⟨fun _ _ _ _ => rfl, fun _ _ => rfl, rfl, rfl⟩
theorem Fz.tr {o : Nat} {I J K : Iv} (h : Fz o I J) (h2 : Fz o J K) : Fz o I K := ⟨fun i a b c => (h2.1 i a b c).trans (h.1 i a b c), fun j a => (h2.2.1 j a).trans (h.2.1 j a), h2.2.2.1.trans h.2.2.1, h2.2.2.2.trans h.2.2.2⟩
theorem Fz.tp {o x s : Nat} {J : Iv} (ho : 3 ≤ o) : Fz o J (tp J x s) := ⟨fun i a _ _ => tp_o a, fun j a => tp_f (by omega) (by omega), by rw [tp_o (by omega)], by rw [tp_o (by omega)]⟩
theorem Fz.tf {o x s k : Nat} {J : Iv} (ho : 3 ≤ o) : Fz o J (tf J x s k) := ⟨fun i a _ _ => tf_o a, fun j a => tf_f (by omega) (by omega) (by omega) (by omega), by rw [tf_o (by omega)], by rw [tf_o (by omega)]⟩
theorem Fz.opn {o : Nat} {J : Iv} {x : Int32} (ho : 3 ≤ o ∧ o + 2 < 97) : Fz o J (up J 97 2 x) := ⟨fun i _ a _ => by funext j; exact up_n (by omega), fun j a => up_n (by omega), up_n (by omega), up_n (by omega)⟩
theorem XO.mv {J K : Iv} {o : Nat} {L : List Nat} (h : XO J o L) (h2 : K o 2 = J o 2) (h1 : K (o + 1) = J (o + 1)) : XO K o L := ⟨by rw [h2]; exact h.1, fun i x hx => by rw [h1]; exact h.2 i x hx⟩
theorem OXS.at {T : Nat → Int32} {n a o op x s : Nat} {J : Iv} {L : List Nat} (h : OXS T n J a o op L) (ho : 3 ≤ o) (hx : x ≤ n) (hl : L.length ≤ x) : OXS T n (tp J x s) x o op L := by
  obtain ⟨h1, h2, h3, h4, h5, h6, h7⟩ := h
  exact ⟨h1.tp hx, h2, h3.mv (by rw [tp_o (by omega)]) (tp_o (by omega)), hl, by rw [tp_o (by omega)]; exact h5, h6, by rw [tp_o (by omega)]; exact h7⟩
theorem OXS.er {T : Nat → Int32} {n a o op x s k : Nat} {J : Iv} {L : List Nat} (h : OXS T n J a o op L) (ho : 3 ≤ o) : XEr (tf J x s k) o (k, s) := by
  have hn := h.1.1.2.2.2.2.2
  have h150 := h.2.1
  have hl := h.2.2.2.1
  exact ⟨tf_e, L.length, by omega, by rw [tf_o (by omega)]; exact h.2.2.1.1⟩
theorem OXS.opn {T : Nat → Int32} {n a o op x : Nat} {J : Iv} {L : List Nat} (h : OXS T n J a o op L) (ho : 3 ≤ o ∧ o + 2 < 97) (hx : x ≤ 6) : OXS T n (up J 97 2 (nI x)) a o x L := by
  obtain ⟨h1, h2, h3, h4, h5, h6, h7⟩ := h
  exact ⟨h1.mvo (by funext j; exact up_n (by omega)) (by funext j; exact up_n (by omega)), h2, h3.mv (up_n (by omega)) (by funext j; exact up_n (by omega)), h4, up_s, hx, by rw [up_n (by omega)]; exact h7⟩
/-- one step more -/
def ad1 (J : Iv) (o m x : Nat) : Iv := up (up J (o + 1) m (nI x)) o 2 (nI (m + 1))
theorem Fz.ad {o m x : Nat} {J : Iv} (ho : 3 ≤ o) : Fz o J (ad1 J o m x) := by
  unfold ad1
  exact ⟨fun i _ _ q => by funext j; rw [up_n (by omega), up_n (by omega)], fun j _ => by rw [up_n (by omega), up_n (by omega)], by rw [up_n (by omega), up_n (by omega)], by rw [up_n (by omega), up_n (by omega)]⟩
theorem XO.ad {J : Iv} {o x : Nat} {L : List Nat} (h : XO J o L) : XO (ad1 J o L.length x) o (L ++ [x]) := by
  unfold ad1
  refine ⟨by rw [up_s]; simp, fun i y hy => ?_⟩
  rw [up_n (by omega)]
  by_cases hi : i < L.length
  · rw [List.getElem?_append_left hi] at hy
    rw [up_n (by omega)]
    exact h.2 i y hy
  · rw [List.getElem?_append_right (by omega)] at hy
    have h0 : i - L.length < 1 := (List.getElem?_eq_some_iff.mp hy).1
    have hi' : i = L.length := by omega
    subst hi'
    rw [Nat.sub_self] at hy
    cases hy
    exact up_s
theorem OXS.ad {T : Nat → Int32} {n a o op x : Nat} {J : Iv} {L : List Nat} (h : OXS T n J a o op L) (ho : 3 ≤ o ∧ o + 2 < 97) (hl : L.length + 1 ≤ a) (hx : x ≠ 1004) : OXS T n (ad1 J o L.length x) a o op (L ++ [x]) := by
  obtain ⟨h1, h2, h3, h4, h5, h6, h7⟩ := h
  refine ⟨h1.mvo ?_ ?_, h2, h3.ad, by simp; omega, ?_, h6, ?_⟩
  · unfold ad1; funext j; rw [up_n (by omega), up_n (by omega)]
  · unfold ad1; funext j; rw [up_n (by omega), up_n (by omega)]
  · unfold ad1; rw [up_n (by omega), up_n (by omega)]; exact h5
  · unfold ad1
    rw [up_n (by omega), up_n (by omega), h7]
    refine bi_c ?_
    rw [List.mem_append, List.mem_singleton]
    exact ⟨fun q => Or.inl q, fun q => q.elim id (fun e => absurd e.symm hx)⟩
section XOp
variable {Γ : Gm} {l : Launch} {b : Bool} {d : Nat} {J : Iv} {E : Ev} {kr : Kr} {kx : Kxx} {T : Nat → Int32} {n a o op : Nat} {L : List Nat}
theorem x_oclear {sh : Sh} (hA : OpA sh E o) (hk : kr none (up (up (up (up J o 2 (nI 0)) o 3 (nI 0)) o 4 (nI 0)) o 5 (nI 0)) E) : Ex Γ l sh (d + 1) (0, 0) mOp_clear [.ref o] J E kr kx := by
  refine ex_of (ls0 := [some (.ref o)]) tOp_clear (by decide +kernel) kOp_clear rfl (Nat.le_of_ble_eq_true rfl) rfl ?_
  intro go hgo
  have ht := hA.1
  refine hgo 20 [] 0 _ _ _ _ _ ?_
  simp only [ixr_of, run_s, run_0, rOp_clear, rok_i, rok_z, bx_cons, bx_nil, eC0, eLA0, ePI, ePZ, eRV, fOp_clear_0, bOp_clear_0, Option.toList_some, Option.toList_none, List.cons_append, List.nil_append, List.length_cons, List.length_nil, List.mem_cons, List.not_mem_nil, or_false, false_or, or_true, true_or, ↓reduceIte, true_and, and_true, Nat.reduceEqDiff, Nat.reduceAdd, Nat.reduceLeDiff, Nat.reduceLT, dl_i, dl_r, dl_n, dl_u, eq_self, not_true_eq_false, not_false_eq_true, n10, n01, nm0, n0m, ht, imp_t, imp_f]
  exact hk
theorem x_add {m x : Nat} (hA : OpA (shB b) E o) (hm : J o 2 = nI m) (hl : m < 160) (hk : kr none (ad1 J o m x) E) : Ex Γ l (shB b) (d + 1) (0, 0) mOp_add [.ref o, .int (nI x)] J E kr kx := by
  refine ex_of (ls0 := [some (.ref o), some (.int (nI x))]) tOp_add (by decide +kernel) kOp_add rfl (Nat.le_of_ble_eq_true rfl) rfl ?_
  intro go hgo
  obtain ⟨ht, r0, -, t0, -, l0, -⟩ := hA
  have e2 : ∀ z, up J (o + 1) m z o 2 = nI m := fun z => by rw [up_n (by omega), hm]
  refine hgo 20 [] 0 _ _ _ _ _ ?_
  simp only [ixr_of, run_s, run_0, rOp_add, rok_i, rok_z, bx_cons, bx_nil, eADD, eC1, eDUPr, eGI, eGR, eIAST, jICge, eLA0, eLI1, ePI, eRV, eSP, fOp_add_0, fOp_add_10, fOp_add_30, bOp_add_0, bOp_add_10, bOp_add_30, Option.toList_some, Option.toList_none, List.cons_append, List.nil_append, List.length_cons, List.length_nil, List.mem_cons, List.not_mem_nil, or_false, false_or, or_true, true_or, ↓reduceIte, true_and, and_true, Nat.reduceEqDiff, Nat.reduceAdd, Nat.reduceLeDiff, Nat.reduceLT, dl_i, dl_r, dl_n, dl_u, eq_self, not_true_eq_false, not_false_eq_true, n10, n01, nm0, n0m, ht, hm, r0, t0, l0, hl, e2, nI_add, imp_t, imp_f]
  rw [nIl (by omega) (by omega)]
  exact ⟨fun q => absurd q (by omega), fun _ => hk⟩
/-- after a fault -/
theorem x_addw {e : Nat × Nat} {y : Int32} (ho : 3 ≤ o) (hA : OpA (shB b) E o) (h : XEr J o e) (hk : ∀ K, Fz o J K → XEr K o e → kr none K E) : Ex Γ l (shB b) (d + 1) (0, 0) mOp_add [.ref o, .int y] J E kr kx := by
  refine ex_of (ls0 := [some (.ref o), some (.int y)]) tOp_add (by decide +kernel) kOp_add rfl (Nat.le_of_ble_eq_true rfl) rfl ?_
  intro go hgo
  obtain ⟨ht, r0, -, t0, -, l0, -⟩ := hA
  obtain ⟨h1, m, hm, e1⟩ := h
  have e2 : ∀ z, up J (o + 1) m z o 2 = nI m := fun z => by rw [up_n (by omega), e1]
  refine hgo 20 [] 0 _ _ _ _ _ ?_
  by_cases hl : m < 160
  · simp only [ixr_of, run_s, run_0, rOp_add, rok_i, rok_z, bx_cons, bx_nil, eADD, eC1, eDUPr, eGI, eGR, eIAST, jICge, eLA0, eLI1, ePI, eRV, eSP, fOp_add_0, fOp_add_10, fOp_add_30, bOp_add_0, bOp_add_10, bOp_add_30, Option.toList_some, Option.toList_none, List.cons_append, List.nil_append, List.length_cons, List.length_nil, List.mem_cons, List.not_mem_nil, or_false, false_or, or_true, true_or, ↓reduceIte, true_and, and_true, Nat.reduceEqDiff, Nat.reduceAdd, Nat.reduceLeDiff, Nat.reduceLT, dl_i, dl_r, dl_n, dl_u, eq_self, not_true_eq_false, not_false_eq_true, n10, n01, nm0, n0m, ht, e1, r0, t0, l0, hl, e2, nI_add, imp_t, imp_f]
    rw [nIl (by omega) (by omega)]
    refine ⟨fun q => absurd q (by omega), fun _ => hk _ ?_ ⟨⟨?_, ?_⟩, m + 1, by omega, up_s⟩⟩
    · exact ⟨fun i _ _ q => by funext j; rw [up_n (by omega), up_n (by omega)], fun j _ => by rw [up_n (by omega), up_n (by omega)], by rw [up_n (by omega), up_n (by omega)], by rw [up_n (by omega), up_n (by omega)]⟩
    · rw [up_n (by omega), up_n (by omega)]; exact h1.1
    · rw [up_n (by omega), up_n (by omega)]; exact h1.2
  · simp only [ixr_of, run_s, run_0, rOp_add, rok_i, rok_z, bx_cons, bx_nil, eADD, eC1, eDUPr, eGI, eGR, eIAST, jICge, eLA0, eLI1, ePI, eRV, eSP, fOp_add_0, fOp_add_10, fOp_add_30, bOp_add_0, bOp_add_10, bOp_add_30, Option.toList_some, Option.toList_none, List.cons_append, List.nil_append, List.length_cons, List.length_nil, List.mem_cons, List.not_mem_nil, or_false, false_or, or_true, true_or, ↓reduceIte, true_and, and_true, Nat.reduceEqDiff, Nat.reduceAdd, Nat.reduceLeDiff, Nat.reduceLT, dl_i, dl_r, dl_n, dl_u, eq_self, not_true_eq_false, not_false_eq_true, n10, n01, nm0, n0m, ht, e1, imp_t, imp_f]
    rw [nIl (by omega) (by omega)]
    exact ⟨fun _ => hk J Fz.rf ⟨h1, m, hm, e1⟩, fun q => absurd (by omega) q⟩
theorem bi_or {p q : Prop} [Decidable p] [Decidable q] : bi p ||| bi q = bi (p ∨ q) := by
  by_cases hp : p <;> by_cases hq : q
  · rw [bi_t hp, bi_t hq, bi_t (Or.inl hp)]; decide
  · rw [bi_t hp, bi_f hq, bi_t (Or.inl hp)]; decide
  · rw [bi_f hp, bi_t hq, bi_t (Or.inr hq)]; decide
  · rw [bi_f hp, bi_f hq, bi_f (fun z => z.elim hp hq)]; decide
theorem x_addLook {w : Nat} (hG : GX Γ) (hA : OpA (shB b) E o) (ho : 3 ≤ o ∧ o + 2 < 97) (h : OXS T n J a o op L) (hl : L.length + 1 ≤ a) (hw : w < 7) (hk : ∀ K, Fz o J K → OXS T n K a o op (L ++ [1000 + w]) → kr none K E) : Ex Γ l (shB b) (d + 2) (0, 0) mOp_addLook [.ref o, .int (nI w)] J E kr kx := by
  refine ex_of (ls0 := [some (.ref o), some (.int (nI w))]) tOp_addLook (by decide +kernel) kOp_addLook rfl (Nat.le_of_ble_eq_true rfl) rfl ?_
  intro go hgo
  have hG1 := hG.1
  have ht := hA.1
  have han := h.1.1.2.2.2.2.2
  have h150 := h.2.1
  obtain ⟨h1, h2, h3, h4, h5, h6, h7⟩ := h
  have key : ∀ x : Int32, x = bi (1004 ∈ L ++ [1000 + w]) → kr none (up (ad1 J o L.length (1000 + w)) o 5 x) E := by
    intro x hx
    refine hk _ ((Fz.ad ho.1).tr ⟨fun i _ _ q => by funext j; exact up_n (by omega), fun j _ => up_n (by omega), up_n (by omega), up_n (by omega)⟩) ⟨h1.mvo ?_ ?_, h2, ?_, by simp; omega, ?_, h6, by rw [up_s, hx]⟩
    · unfold ad1; funext j; rw [up_n (by omega), up_n (by omega), up_n (by omega)]
    · unfold ad1; funext j; rw [up_n (by omega), up_n (by omega), up_n (by omega)]
    · exact h3.ad.mv (up_n (by omega)) (by funext j; exact up_n (by omega))
    · unfold ad1; rw [up_n (by omega), up_n (by omega), up_n (by omega)]; exact h5
  refine hgo 20 [] 0 _ _ _ _ _ ?_
  simp only [ixr_of, run_s, run_0, rOp_addLook, rok_i, rok_z, bx_cons, bx_nil, eADD, eC0, eC1, eCV1, eDUPr, eGI, eGO, eGS, eGW, jICne, eLA0, eLI1, eOR, ePZ, eRV, eSP, fOp_addLook_0, fOp_addLook_24, fOp_addLook_28, fOp_addLook_29, bOp_addLook_0, bOp_addLook_24, bOp_addLook_28, bOp_addLook_29, Option.toList_some, Option.toList_none, List.cons_append, List.nil_append, List.length_cons, List.length_nil, List.mem_cons, List.not_mem_nil, or_false, false_or, or_true, true_or, ↓reduceIte, true_and, and_true, Nat.reduceEqDiff, Nat.reduceAdd, Nat.reduceLeDiff, Nat.reduceLT, dl_i, dl_r, dl_n, dl_u, eq_self, not_true_eq_false, not_false_eq_true, n10, n01, nm0, n0m, ht, nI_add, wfv0, wfv1, wfv2, imp_t, imp_f]
  refine call0 (x_add hA h3.1 (by omega) ?_)
  have e5 : ad1 J o L.length (1000 + w) o 5 = bi (1004 ∈ L) := by unfold ad1; rw [up_n (by omega), up_n (by omega), h7]
  have w4 : wak 4 = nI 4 := rfl
  simp only [ixr_of, run_s, run_0, rOp_addLook, rok_i, rok_z, bx_cons, bx_nil, eADD, eC0, eC1, eCV1, eDUPr, eGI, eGO, eGS, eGW, jICne, eLA0, eLI1, eOR, ePZ, eRV, eSP, fOp_addLook_0, fOp_addLook_24, fOp_addLook_28, fOp_addLook_29, bOp_addLook_0, bOp_addLook_24, bOp_addLook_28, bOp_addLook_29, Option.toList_some, Option.toList_none, List.cons_append, List.nil_append, List.length_cons, List.length_nil, List.mem_cons, List.not_mem_nil, or_false, false_or, or_true, true_or, ↓reduceIte, true_and, and_true, Nat.reduceEqDiff, Nat.reduceAdd, Nat.reduceLeDiff, Nat.reduceLT, dl_i, dl_r, dl_n, dl_u, eq_self, not_true_eq_false, not_false_eq_true, n10, n01, nm0, n0m, ht, hG1, (gwE hG), e5, w4, wfv0, wfv1, wfv2, imp_t, imp_f]
  rw [nIe (by omega) (by omega)]
  have hm : (1004 ∈ L ++ [1000 + w]) ↔ (1004 ∈ L ∨ w = 4) := by
    rw [List.mem_append, List.mem_singleton]
    exact ⟨fun q => q.imp id (fun e => by omega), fun q => q.imp id (fun e => by omega)⟩
  refine ⟨fun q => ?_, fun q => ?_⟩
  · have e : bi (1004 ∈ L) ||| nI 0 = bi (1004 ∈ L ++ [1000 + w]) := by
      rw [show nI 0 = bi (w = 4) from (bi_f q).symm, bi_or]
      exact bi_c hm.symm
    rw [e]
    exact ⟨bi_01, key _ rfl⟩
  · have e : bi (1004 ∈ L) ||| nI 1 = bi (1004 ∈ L ++ [1000 + w]) := by
      rw [show nI 1 = bi (w = 4) from (bi_t q).symm, bi_or]
      exact bi_c hm.symm
    rw [e]
    exact ⟨bi_01, key _ rfl⟩
/-- the opinion that is read into -/
def RoA (b : Bool) (E : Ev) (o : Nat) : Prop := OpA (shB b) E o ∧ rget (shB b) E 97 1 = .ref o ∧ (3 ≤ o ∧ o + 2 < 97)
theorem x_opens {s0 : Nat} (hR : RoA b E o) (h : OXS T n J a o op L) (h4 : J 1 4 = nI s0) (h6 : op = 6 → ∀ K, Fz o J K → XEr K o (3, s0) → kr (some (.int (nI 0))) K E) (hk : op < 6 → ∀ K, Fz o J K → OXS T n K a o (op + 1) L → kr (some (.int (nI 1))) K E) : Ex Γ l (shB b) (d + 2) (0, 0) mOr_opens [.ref 97] J E kr kx := by
  refine ex_of (ls0 := [some (.ref 97)]) tOr_opens (by decide +kernel) kOr_opens rfl (Nat.le_of_ble_eq_true rfl) rfl ?_
  intro go hgo
  have e1 : J 97 2 = nI op := h.2.2.2.2.1
  have ho := hR.2.2
  have hop := h.2.2.2.2.2.1
  refine hgo 20 [] 0 _ _ _ _ _ ?_
  simp only [ixr_of, run_s, run_0, rOr_opens, rok_i, rok_z, bx_cons, bx_nil, eADD, eBP, eC1, eC3, eCV1, eDUPr, eGI, eGR, jIClt, eLA0, ePI, eRI, fOr_opens_0, fOr_opens_9, fOr_opens_18, bOr_opens_0, bOr_opens_9, bOr_opens_18, rg_xopinionReader_0, ty_xopinionReader, ty_xtape, Option.toList_some, Option.toList_none, List.cons_append, List.nil_append, List.length_cons, List.length_nil, List.mem_cons, List.not_mem_nil, or_false, false_or, or_true, true_or, ↓reduceIte, true_and, and_true, Nat.reduceEqDiff, Nat.reduceAdd, Nat.reduceLeDiff, Nat.reduceLT, dl_i, dl_r, dl_n, dl_u, eq_self, not_true_eq_false, not_false_eq_true, n10, n01, nm0, n0m, e1, nI_add, imp_t, imp_f]
  rw [nIs (by omega) (by omega)]
  refine ⟨fun q => hk q _ (Fz.opn ho) (h.opn ho (by omega)), fun q => ?_⟩
  rw [← tp_self h.1.1.2.2.2.2.1 h4]
  refine call0 (x_fails (k := 3) ?_)
  simp only [ixr_of, run_s, run_0, rOr_opens, rok_i, rok_z, bx_cons, bx_nil, eADD, eBP, eC1, eC3, eCV1, eDUPr, eGI, eGR, jIClt, eLA0, ePI, eRI, fOr_opens_0, fOr_opens_9, fOr_opens_18, bOr_opens_0, bOr_opens_9, bOr_opens_18, rg_xopinionReader_0, ty_xopinionReader, ty_xtape, Option.toList_some, Option.toList_none, List.cons_append, List.nil_append, List.length_cons, List.length_nil, List.mem_cons, List.not_mem_nil, or_false, false_or, or_true, true_or, ↓reduceIte, true_and, and_true, Nat.reduceEqDiff, Nat.reduceAdd, Nat.reduceLeDiff, Nat.reduceLT, dl_i, dl_r, dl_n, dl_u, eq_self, not_true_eq_false, not_false_eq_true, n10, n01, nm0, n0m, imp_t, imp_f]
  exact h6 (by omega) _ (Fz.tf ho.1) (h.er ho.1)
/-- mt reads as R does, f brackets left to open -/
def RdX (T : Nat → Int32) (n : Nat) (mt : Mt) (h f : Nat) (R : Nat → Rs) : Prop := ∀ (Γ : Gm) (l : Launch) (b : Bool) (d : Nat) (J : Iv) (E : Ev) (kr : Kr) (kx : Kxx) (a o : Nat) (L : List Nat), GX Γ → RoA b E o → OXS T n J a o (6 - f) L →
  (∀ c M K, R a = .ok (c, M) → Fz o J K → OXS T n K c o (6 - f) (L ++ M.map enc) → kr (some (.int (nI 1))) K E) → (∀ e K, R a = .error e → Fz o J K → XEr K o e → kr (some (.int (nI 0))) K E) → Ex Γ l (shB b) (d + 2 * f + h) (0, 0) mt [.ref 97] J E kr kx
end XOp
