/-! the town in force, in the class and in the model; a day of both -/
def AqS (b : Bool) (J : Iv) (E : Ev) (S : Tn) (PS : Nat → List Pt) (t : Nat) (op : Nat → Nat) : Prop := rget (shB b) E 3 0 = .ref t ∧ idT t ∧ XTn J t S ∧ TnV S ∧ (∀ v, v < 9 → rget (shB b) E 15 v = .ref (op v)) ∧ (∀ v, v < 10 → idO (op v)) ∧ (∀ u v, u < 10 → v < 10 → op u = op v → u = v) ∧ ∀ v, v < 9 → XOq J (op v) (PS v) ∧ (stA (PS v)).length ≤ 160 ∧ (PS v).length ≤ 6
def TwR (b : Bool) (J : Iv) (E : Ev) (S : Tn) (PS : Nat → List Pt) (t : Nat) (op : Nat → Nat) : Prop := AqS b J E S PS t op ∧ MT J S ∧ VS J S.1.1 S.1.2 ∧ MO J S.1.1 PS
/-- the stacks of opinions -/
def idV (i : Nat) : Prop := ∃ o, idO o ∧ i = o + 2
theorem idV_n {i : Nat} (h : ¬ (i = 22 ∨ i = 25 ∨ i = 28 ∨ i = 31 ∨ i = 34 ∨ i = 37 ∨ i = 40 ∨ i = 43 ∨ i = 46 ∨ i = 96)) : ¬ idV i := by
  rintro ⟨o, ho, e⟩
  unfold idO at ho
  omega
/-- all but the aqueduct's own rows, stacks and the days y stays -/
def XF (y : Nat) (J K : Iv) : Prop := ∀ i, ¬ (16 ≤ i ∧ i ≤ 19) → ¬ (y ≤ i ∧ i < y + 8) → ¬ idV i → K i = J i
theorem XF.rf {y : Nat} {J : Iv} : XF y J J := fun _ _ _ _ => rfl
theorem XF.tr {y : Nat} {J K L : Iv} (h : XF y J K) (h2 : XF y K L) : XF y J L := fun i a b c => (h2 i a b c).trans (h i a b c)
theorem XF.t {y : Nat} {J K : Iv} (hy : idY y) (h : XF y J K) : SayT J K := fun i hi => h i (by unfold tw at hi; omega) (by unfold tw at hi; unfold idY at hy; omega) (idV_n (by unfold tw at hi; omega))
theorem MT.t {J K : Iv} {S : Tn} (hS : TnV S) (hM : MT J S) (h : SayT J K) : MT K S := by
  have h1 := hS.1
  have h2 := hS.2.1
  obtain ⟨a, b, c, d⟩ := hM
  refine ⟨by rw [h 500004 (by unfold tw; omega)]; exact a, by rw [h 500004 (by unfold tw; omega)]; exact b, fun k hk => ?_, fun v hv j hj => ?_⟩
  · rw [h (500047 + k) (by unfold tw; omega)]; exact c k hk
  · rw [h (500016 + v) (by unfold tw; omega)]; exact d v hv j hj
theorem MO.t {J K : Iv} {nV : Nat} {PS : Nat → List Pt} (h9 : nV ≤ 9) (hM : MO J nV PS) (h : SayT J K) : MO K nV PS := fun v hv => by
  rw [h 500067 (by unfold tw; omega), h (500070 + v) (by unfold tw; omega), h (500080 + v) (by unfold tw; omega)]
  exact hM v hv
theorem AqS.mv {b : Bool} {J K : Iv} {E : Ev} {S : Tn} {PS : Nat → List Pt} {t : Nat} {op : Nat → Nat} (h : AqS b J E S PS t op) (hk : ∀ i, (4 ≤ i ∧ i ≤ 14) ∨ (83 ≤ i ∧ i ≤ 93) ∨ (∃ o, idO o ∧ (i = o ∨ i = o + 1)) → K i = J i) : AqS b K E S PS t op := by
  obtain ⟨h1, h2, h3, h4, h5, h6, h7, h8⟩ := h
  refine ⟨h1, h2, h3.mv (fun i a b => hk i (by rcases h2 with rfl | rfl <;> omega)), h4, h5, h6, h7, fun v hv => ?_⟩
  obtain ⟨a, b, c⟩ := h8 v hv
  exact ⟨a.mv (hk _ (Or.inr (Or.inr ⟨op v, h6 v (by omega), Or.inl rfl⟩))) (hk _ (Or.inr (Or.inr ⟨op v, h6 v (by omega), Or.inr rfl⟩))), b, c⟩
theorem TwR.mv {b : Bool} {J K : Iv} {E : Ev} {S : Tn} {PS : Nat → List Pt} {t : Nat} {op : Nat → Nat} (h : TwR b J E S PS t op) (hk : ∀ i, (4 ≤ i ∧ i ≤ 14) ∨ (83 ≤ i ∧ i ≤ 93) ∨ (∃ o, idO o ∧ (i = o ∨ i = o + 1)) → K i = J i) (ht : SayT J K) : TwR b K E S PS t op :=
  ⟨h.1.mv hk, h.2.1.t h.1.2.2.2.1 ht, h.2.2.1.t ht, h.2.2.2.t h.1.2.2.2.1.1 ht⟩
theorem TwR.xf {b : Bool} {J K : Iv} {E : Ev} {S : Tn} {PS : Nat → List Pt} {t y : Nat} {op : Nat → Nat} (h : TwR b J E S PS t op) (hy : idY y) (hk : XF y J K) : TwR b K E S PS t op := by
  have hO : ∀ o, idO o → (20 ≤ o ∧ o ≤ 44) ∨ o = 94 := fun o h => by unfold idO at h; omega
  refine h.mv (fun i hi => ?_) (hk.t hy)
  rcases hi with hi | hi | ⟨o, ho, hi⟩
  · exact hk i (by omega) (by unfold idY at hy; omega) (idV_n (by omega))
  · exact hk i (by omega) (by unfold idY at hy; omega) (idV_n (by omega))
  · have := hO o ho
    refine hk i (by omega) (by unfold idY at hy; omega) (idV_n ?_)
    unfold idO at ho
    omega
theorem AqS.c {b : Bool} {J : Iv} {E : Ev} {S : Tn} {PS : Nat → List Pt} {t y : Nat} {op : Nat → Nat} (h : AqS b J E S PS t op) (hy : idY y) : AqC b E y t := by
  obtain ⟨h1, h2, -⟩ := h
  refine ⟨h1, h2.A, hy.A, ?_, ?_, ?_, ?_⟩
  · unfold idY at hy; omega
  · unfold idY at hy; unfold idT at h2; omega
  · unfold idT at h2; omega
  · unfold idT at h2; omega
theorem AqS.e {b : Bool} {J : Iv} {E : Ev} {S : Tn} {PS : Nat → List Pt} {t y : Nat} {op : Nat → Nat} (h : AqS b J E S PS t op) (hy : idY y) : OpE b E J y t S.1.1 op PS := by
  obtain ⟨h1, h2, h3, h4, h5, h6, h7, h8⟩ := h
  have h9 := h4.1
  intro v hv
  have ho := h6 v (by omega)
  have hO : (20 ≤ op v ∧ op v ≤ 44) ∨ op v = 94 := by unfold idO at ho; omega
  refine ⟨h5 v (by omega), ho.A, ⟨by omega, ?_, ?_⟩, (h8 v (by omega)).1, (h8 v (by omega)).2.1, (h8 v (by omega)).2.2, fun u hu hne => ?_⟩
  · unfold idY at hy; omega
  · unfold idT at h2; omega
  · have hu' := h6 u (by omega)
    have hn : op u ≠ op v := fun e => hne (h7 u v (by omega) (by omega) e)
    unfold idO at ho hu'
    omega
/-- the days y stand at day n, row and lots q; P is asked of them -/
def DyS (S : Tn) (P : Pm) (y n : Nat) (q : (Nat → Int32) × Int32) (J : Iv) : Prop := DR J y S n q.1 ∧ J y 16 = q.2 ∧ PmD J y S = P ∧ PmV J y S
theorem BR.cg {bas bas' r : Nat → Int32} {nV : Nat} (h9 : nV ≤ 9) (h : BR bas r nV) (e : ∀ k, k < 252 → bas' k = bas k) : BR bas' r nV := ⟨fun v hv => by rw [e _ (wa_lt h9 hv)]; exact h.1 v hv, fun v a w hv ha hw => by rw [e _ (cl_lt h9 hv ha hw)]; exact h.2 v a w hv ha hw⟩
section XQb
variable {Γ : Gm} {l : Launch} {b : Bool} {d : Nat} {I J : Iv} {E : Ev} {kr : Kr} {kx : Kxx} {y t n : Nat} {S : Tn} {PS : Nat → List Pt} {op : Nat → Nat} {P : Pm} {q : (Nat → Int32) × Int32}
theorem x_day (hG : GX Γ) (hA : TwR b J E S PS t op) (hy : idY y) (hD : DyS S P y n q J) (hn : n ≤ 1900) (hI : SayT I J)
    (hk : ∀ K, XF y J K → TwR b K E S PS t op → SayT I K → DyS S P y (n + 1) (st2 I S.1.1 S.1.2 P q) K → kr none K E) : Ex Γ l (shB b) (d + 5) (0, 0) mAq_goDay [.ref 3, .ref y] J E kr kx := by
  obtain ⟨hA1, hM, hVS, hMO⟩ := id hA
  obtain ⟨hD1, h16, hPm, hPv⟩ := hD
  have hC := hA1.c hy
  have hO := hA1.e hy
  have hS := hA1.2.2.2.1
  refine x_goDay (op := op) (PS := PS) (pk := pkS S) hG hC hD1.1 hA1.2.2.1 hS hD1.2.1 (by omega) hO (pkS_h hM hS hMO) (fun K hK => ?_)
  have hop : ∀ v, v < S.1.1 → op v + 2 < y ∨ y + 8 ≤ op v := fun v hv => (hO v hv).2.2.1.2.1
  obtain ⟨r1, r2, r3, r4, r5⟩ := day_rel hM hS hMO hD1 hn hC.2.2.2.1 hop hPv hK
  have hXF : XF y J K := fun i a c e => r5 i (by omega) (by omega) (by omega) (by omega) c (fun v hv z => e ⟨op v, hA1.2.2.2.2.2.1 v (by have := hS.1; omega), z⟩)
  have hp10 := r3 10 (by decide)
  have hp11 := r3 11 (by decide)
  have hp14 := r3 14 (by decide)
  have hp15 := r3 15 (by decide)
  have hp17 := r3 17 (by decide)
  have ePm : PmD K y S = PmD J y S := by
    have e1 : coX K y = coX J y := by funext v; unfold coX; rw [hp11]
    have e2 : (fun v => !plX K y v) = fun v => !plX J y v := by funext v; unfold plX; rw [hp10]
    unfold PmD
    rw [e1, e2, hp14, hp15, hp17, r4]
  have hst : st2 J S.1.1 S.1.2 (PmD J y S) (q.1, J y 16) = st2 I S.1.1 S.1.2 P q := by
    rw [h16, hPm, st2_t hI hS.1 hS.2.1]
  rw [hst] at r1 r2
  refine hk K hXF (hA.xf hy hXF) (hI.tr (hXF.t hy)) ⟨r1, r2, by rw [ePm, hPm], ?_⟩
  unfold PmV at hPv ⊢
  rw [hp14, hp15, hp17, r4]
  exact hPv
end XQb
