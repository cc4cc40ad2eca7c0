/-! class and model on one heap -/
def R1 (J : Iv) (E : Ev) (S : Tn) (PS : Nat → List Pt) (t : Nat) (op : Nat → Nat) : Prop := TwR true J E S PS t op ∧ rget shN E 0 8 = .ref (87 - t) ∧ rget shN E 0 9 = .ref (op 9) ∧ (∀ v, v < S.1.1 → J 500068 v = bi (1004 ∈ stA (PS v))) ∧ J 500004 4 = nI S.2.1.2.2 ∧ BgM J S
def R2 (J : Iv) (E : Ev) (bk : List (Nat × Nat)) (kb : Nat) : Prop := BkE true E J kb bk ∧ rget shN E 0 11 = .ref (166 - kb) ∧ J 500000 36 = nI bk.length ∧ ∀ k x, bk[k]? = some x → J (500094 + k) 0 = nI x.1 ∧ J (500094 + k) 1 = nI x.2
def R3 (J : Iv) (S : Tn) (n p c : Nat) : Prop := NwI J J S n ∧ n ≤ 999 ∧ J 500000 37 = nI p ∧ p < 2 ^ S.1.1 ∧ J 500000 38 = nI c ∧ c < 2 ^ S.1.1
def R4 (J : Iv) (E : Ev) (S : Tn) (n n0 q : Nat) (mk : Nat → Nat) : Prop := DiE true E q mk ∧ 1 ≤ q ∧ J 79 1 = nI n0 ∧ n0 ≤ n ∧ n - n0 < 32 * q ∧ J 500000 39 = nI (n - n0) ∧ J 500124 = gR J S.1.1 S.1.2 (pmN J) (J 500125) (n - n0) ∧ ∀ p, 32 * p ≤ n - n0 → NQ J (mk p) S (n0 + 32 * p) (gR J S.1.1 S.1.2 (pmN J) (J 500125) (32 * p)) (J 500000 37) (J 500000 38) (J 500123)
def R5 (J : Iv) (S : Tn) (im : Nat) (nim : Nat → Nat) : Prop := J 0 12 = nI im ∧ im ≤ 3 ∧ J 500000 40 = nI im ∧ ∀ m, m < im → nim m ≤ 999 ∧ NQ J (101 + 8 * m) S (nim m) (J (500120 + m)) (J (500120 + m) 502) (J (500120 + m) 503) (fun v => J (500120 + m) (504 + v)) ∧ ∃ p c, p < 2 ^ S.1.1 ∧ c < 2 ^ S.1.1 ∧ J (500120 + m) 502 = nI p ∧ J (500120 + m) 503 = nI c
def R6 (J : Iv) (tp : Nat) : Prop := J 1 1 = nI tp ∧ J 500000 1 = nI tp ∧ tp ≤ 600 ∧ By J ∧ (∀ k, k < tp → J 2 k &&& nI 255 = J 500001 k) ∧ J 1 6 = J 500000 3
def R7 (J : Iv) : Prop := J 0 13 = J 500002 0 ∧ J 0 14 = J 500002 1
def R8 (J : Iv) (S : Tn) (bk : List (Nat × Nat)) : Prop := J 58 4 = nI 0 ∨ (J 58 4 = nI 1 ∧ StF J S bk J)
def R9 (E : Ev) (rw' z : Nat) : Prop := RoS true E rw' ∧ tyc shN E 999999 = 0 ∧ z = if rw' = 57 then 1 else 0
/-- what trials write: in the class, in the model -/
def sX (rw' i : Nat) : Prop := (16 ≤ i ∧ i ≤ 19) ∨ idV i ∨ (47 ≤ i ∧ i ≤ 56) ∨ (59 ≤ i ∧ i ≤ 67) ∨ i = 82 ∨ (i = rw' ∧ 1000000 ≤ i)
def SQ (rw' : Nat) (J K : Iv) : Prop := (∀ i, i ≠ 500000 → ¬ scA i → ¬ sX rw' i → i ≠ 0 → i ≠ 500002 → K i = J i) ∧ (∀ j, ¬ scF j → K 500000 j = J 500000 j) ∧ K 0 12 = J 0 12
theorem SQ.rf {rw' : Nat} {J : Iv} : SQ rw' J J := ⟨fun _ _ _ _ _ _ => rfl, fun _ _ => rfl, rfl⟩
theorem SQ.tr {rw' : Nat} {J K L : Iv} (h : SQ rw' J K) (h2 : SQ rw' K L) : SQ rw' J L := ⟨fun i a b c d e => (h2.1 i a b c d e).trans (h.1 i a b c d e), fun j b => (h2.2.1 j b).trans (h.2.1 j b), h2.2.2.trans h.2.2⟩
theorem MP.q {rw' : Nat} {J K : Iv} (h : MP J K) : SQ rw' J K := ⟨fun i a b _ _ _ => h.1 i a b, h.2, by rw [h.1 0 (by decide) (by unfold scA; omega)]⟩
theorem sX_n {rw' i : Nat} (h1 : ¬ (16 ≤ i ∧ i ≤ 19)) (h2 : ¬ (47 ≤ i ∧ i ≤ 56)) (h3 : ¬ (59 ≤ i ∧ i ≤ 67)) (h4 : i ≠ 82) (h5 : i < 1000000) (h6 : ¬ (i = 22 ∨ i = 25 ∨ i = 28 ∨ i = 31 ∨ i = 34 ∨ i = 37 ∨ i = 40 ∨ i = 43 ∨ i = 46 ∨ i = 96)) : ¬ sX rw' i := by
  unfold sX
  rintro (c | c | c | c | c | c)
  · exact h1 c
  · exact idV_n h6 c
  · exact h2 c
  · exact h3 c
  · exact h4 c
  · omega
theorem scA_n {i : Nat} (h : i < 500000 ∨ 1000000 ≤ i) : ¬ scA i := by
  unfold scA
  omega
section Rmv
variable {J K : Iv} {E F : Ev} {S : Tn} {PS : Nat → List Pt} {t kb n n0 p c q tp im rw' z : Nat} {op mk nim : Nat → Nat} {bk : List (Nat × Nat)}
theorem SQ.ty (h : SQ rw' J K) : SayT J K := fun i hi => h.1 i (by unfold tw at hi; omega) (by unfold tw at hi; unfold scA; omega) (sX_n (by unfold tw at hi; omega) (by unfold tw at hi; omega) (by unfold tw at hi; omega) (by unfold tw at hi; omega) (by unfold tw at hi; omega) (by unfold tw at hi; omega)) (by unfold tw at hi; omega) (by unfold tw at hi; omega)
/-- a cell of the model that stays -/
theorem SQ.m (h : SQ rw' J K) {i : Nat} (h0 : 500000 < i ∧ i ≠ 500002) (h1 : i < 1000000) (h2 : ¬ scA i) : K i = J i := h.1 i (by omega) h2 (sX_n (by omega) (by omega) (by omega) (by omega) h1 (by omega)) (by omega) h0.2
theorem SQ.pe (h : SQ rw' J K) (h9 : S.1.1 ≤ 9) : Pe S.1.1 (pmN K) (pmN J) := by
  refine ⟨fun v hv => ⟨?_, ?_, fun k hk => ?_⟩, rfl⟩
  · show plS _ v = plS _ v
    rw [h.2.1 37 (by unfold scF; omega)]
  · show coS _ v = coS _ v
    rw [h.2.1 38 (by unfold scF; omega)]
  · show snG K v k = snG J v k
    unfold snG
    rw [h.m (i := 500016 + v) (by omega) (by omega) (by unfold scA; omega), h.m (i := 500123) (by omega) (by omega) (by unfold scA; omega)]
theorem SQ.g (h : SQ rw' J K) (hS : TnV S) {r : Nat → Int32} {m : Nat} : gR K S.1.1 S.1.2 (pmN K) r m = gR J S.1.1 S.1.2 (pmN J) r m := by
  unfold gR
  rw [it2_t h.ty hS.1 hS.2.1, it2_pe (h.pe hS.1)]
theorem R1.mv (h : R1 J E S PS t op) (hk : SQ rw' J K) : R1 K E S PS t op := by
  obtain ⟨h1, h2, h3, h4, h5, h6⟩ := h
  have s9 := h1.1.2.2.2.1.1
  refine ⟨h1.mv (fun i hi => ?_) hk.ty, h2, h3, fun v hv => by rw [hk.m (by omega) (by omega) (by unfold scA; omega)]; exact h4 v hv, by rw [hk.m (by omega) (by omega) (by unfold scA; omega)]; exact h5, fun k hk' => by rw [hk.m (by omega) (by omega) (by unfold scA; omega)]; exact h6 k hk'⟩
  rcases hi with hi | hi | ⟨o, ho, hi⟩
  · exact hk.1 i (by omega) (scA_n (by omega)) (sX_n (by omega) (by omega) (by omega) (by omega) (by omega) (by omega)) (by omega) (by omega)
  · exact hk.1 i (by omega) (scA_n (by omega)) (sX_n (by omega) (by omega) (by omega) (by omega) (by omega) (by omega)) (by omega) (by omega)
  · unfold idO at ho
    exact hk.1 i (by omega) (scA_n (by omega)) (sX_n (by omega) (by omega) (by omega) (by omega) (by omega) (by omega)) (by omega) (by omega)
theorem SQ.cc (h : SQ rw' J K) {i : Nat} (hi : (0 < i ∧ i < 16) ∨ i = 58 ∨ (68 ≤ i ∧ i ≤ 81) ∨ (98 ≤ i ∧ i ≤ 124)) : K i = J i := h.1 i (by omega) (scA_n (by omega)) (sX_n (by omega) (by omega) (by omega) (by omega) (by omega) (by omega)) (by omega) (by omega)
theorem R2.mv (h : R2 J E bk kb) (hk : SQ rw' J K) : R2 K E bk kb := by
  obtain ⟨⟨a1, a2, ⟨x1, x2, x3⟩, a4⟩, h2, h3, h4⟩ := h
  have e : ∀ i, kb ≤ i → i ≤ kb + 2 → K i = J i := fun i a c => hk.cc (by unfold idB at a2; omega)
  refine ⟨⟨a1, a2, ⟨by rw [e kb (by omega) (by omega)]; exact x1, by rw [e kb (by omega) (by omega)]; exact x2, fun i x hx => by rw [e (kb + 1) (by omega) (by omega), e (kb + 2) (by omega) (by omega)]; exact x3 i x hx⟩, a4⟩, h2, by rw [hk.2.1 36 (by unfold scF; omega)]; exact h3, fun k x hx => ?_⟩
  have : k < bk.length := (List.getElem?_eq_some_iff.mp hx).1
  have := a4.1
  rw [hk.m (i := 500094 + k) (by omega) (by omega) (by unfold scA; omega)]
  exact h4 k x hx
theorem NQ.cgr {y : Nat} {r r' gr gr' : Nat → Int32} {pl co pl' co' : Int32} (h : NQ J y S n r pl co gr) (hr : ∀ k, k < 502 → r' k = r k) (hp : pl' = pl) (hc : co' = co) (hg : ∀ v, v < 9 → gr' v = gr v) : NQ J y S n r' pl' co' gr' := by
  obtain ⟨a, b, c, d, e, f⟩ := h
  exact ⟨a.row hr, by rw [hp]; exact b, by rw [hc]; exact c, fun v hv => by rw [hg v hv]; exact d v hv, e, f⟩
theorem R3.mv (h : R3 J S n p c) (h9 : S.1.1 ≤ 9) (hk : SQ rw' J K) : R3 K S n p c := by
  obtain ⟨⟨a1, a2⟩, h2, h3, h4, h5, h6⟩ := h
  refine ⟨⟨SayT.rf, ?_⟩, h2, by rw [hk.2.1 37 (by unfold scF; omega)]; exact h3, h4, by rw [hk.2.1 38 (by unfold scF; omega)]; exact h5, h6⟩
  exact (a2.mv h9 (fun i b c => hk.cc (by omega))).cgr (fun k _ => by rw [hk.m (by omega) (by omega) (by unfold scA; omega)]) (hk.2.1 37 (by unfold scF; omega)) (hk.2.1 38 (by unfold scF; omega)) (fun v _ => by rw [hk.m (by omega) (by omega) (by unfold scA; omega)])
/-- rows are no days -/
theorem rw_mk {y : Nat} (hy : DyA shN E y) (hr : RoS true E rw') (h1 : 1000000 ≤ rw') : ¬ (y ≤ rw' ∧ rw' < y + 8) := by
  intro c
  obtain ⟨-, r2, r3⟩ := hr
  have r4 : len shN E rw' = 81405 := by
    rcases r3 with e | e
    · omega
    · exact e.2
  obtain ⟨h0, -, -, l1, l2, l3, l4, l5, l6, l7⟩ := hy
  rcases (show rw' = y ∨ rw' = y + 1 ∨ rw' = y + 2 ∨ rw' = y + 3 ∨ rw' = y + 4 ∨ rw' = y + 5 ∨ rw' = y + 6 ∨ rw' = y + 7 by omega) with rfl | rfl | rfl | rfl | rfl | rfl | rfl | rfl
  · rw [h0] at r2; omega
  all_goals omega
theorem SQ.d {y : Nat} (h : SQ rw' J K) (hy : DyA shN E y) (hr : RoS true E rw') (h1 : 1000000 ≤ y) : ∀ i, y ≤ i → i < y + 8 → K i = J i := by
  intro i a b
  refine h.1 i (by omega) (scA_n (by omega)) ?_ (by omega) (by omega)
  unfold sX
  rintro (c | c | c | c | c | c)
  · omega
  · obtain ⟨o, ho, e⟩ := c
    unfold idO at ho
    omega
  · omega
  · omega
  · omega
  · exact rw_mk hy hr (by omega) (by omega)
theorem R4.mv (h : R4 J E S n n0 q mk) (hS : TnV S) (hr : RoS true E rw') (hk : SQ rw' J K) : R4 K E S n n0 q mk := by
  obtain ⟨h1, h2, h3, h4, h5, h6, h7, h8⟩ := h
  have e24 : K 500124 = J 500124 := hk.m (by omega) (by omega) (by unfold scA; omega)
  have e25 : K 500125 = J 500125 := hk.m (by omega) (by omega) (by unfold scA; omega)
  refine ⟨h1, h2, by rw [hk.cc (by omega)]; exact h3, h4, h5, by rw [hk.2.1 39 (by unfold scF; omega)]; exact h6, by rw [e24, e25, hk.g hS]; exact h7, fun p hp => ?_⟩
  have hpq : p < q := by omega
  have := (h8 p hp).mv hS.1 (hk.d (h1.2.1 p hpq).2.1 hr (h1.2.1 p hpq).2.2)
  rw [e25, hk.g hS]
  exact this.cgr (fun _ _ => rfl) (hk.2.1 37 (by unfold scF; omega)) (hk.2.1 38 (by unfold scF; omega)) (fun v _ => by rw [hk.m (by omega) (by omega) (by unfold scA; omega)])
theorem R5.mv (h : R5 J S im nim) (h9 : S.1.1 ≤ 9) (hk : SQ rw' J K) : R5 K S im nim := by
  obtain ⟨h1, h2, h3, h4⟩ := h
  refine ⟨by rw [hk.2.2]; exact h1, h2, by rw [hk.2.1 40 (by unfold scF; omega)]; exact h3, fun m hm => ?_⟩
  obtain ⟨a1, a2, a3⟩ := h4 m hm
  have e : K (500120 + m) = J (500120 + m) := hk.m (by omega) (by omega) (by unfold scA; omega)
  refine ⟨a1, ?_, by rw [e]; exact a3⟩
  rw [e]
  exact a2.mv h9 (fun i b c => hk.cc (by omega))
theorem R6.mv (h : R6 J tp) (hk : SQ rw' J K) : R6 K tp := by
  obtain ⟨h1, h2, h3, h4, h5, h6⟩ := h
  refine ⟨by rw [hk.cc (by omega)]; exact h1, by rw [hk.2.1 1 (by unfold scF; omega)]; exact h2, h3, fun k hk' => by rw [hk.cc (by omega)]; exact h4 k hk', fun k hk' => by rw [hk.cc (by omega), hk.m (by omega) (by omega) (by unfold scA; omega)]; exact h5 k hk', by rw [hk.cc (by omega), hk.2.1 3 (by unfold scF; omega)]; exact h6⟩
theorem R7.mv (h : R7 J) (h0 : K 0 = J 0) (h2 : K 500002 = J 500002) : R7 K := by
  unfold R7
  rw [h0, h2]
  exact h
theorem rtB_mv {s : Nat} (hS : TnV S) (ht : SayT J K) (h27 : K 500127 = J 500127) : rtB K S.1.1 S.1.2 bk s = rtB J S.1.1 S.1.2 bk s := by
  have s9 := hS.1
  have hP : ∀ x, Pe S.1.1 (pmB K x) (pmB J x) := fun x => ⟨fun v hv => ⟨rfl, rfl, fun h hh => by
    show sn0 K v h = sn0 J v h
    unfold sn0
    rw [ht (500016 + v) (by unfold tw; omega)]⟩, rfl⟩
  have e : ∀ p, LnP K S.1.1 S.1.2 (nI s) p = LnP J S.1.1 S.1.2 (nI s) p := fun p => by
    unfold LnP vwB gR
    rw [h27, it2_t ht hS.1 hS.2.1, it2_pe (hP _)]
  have : rtB K S.1.1 S.1.2 bk s = true ↔ rtB J S.1.1 S.1.2 bk s = true := by
    rw [rtB_i, rtB_i]
    simp only [e]
  cases h1 : rtB K S.1.1 S.1.2 bk s <;> cases h2 : rtB J S.1.1 S.1.2 bk s <;> simp [h1, h2] at this ⊢
theorem StF.mv {L M : Iv} (h : StF J S bk L) (hS : TnV S) (ht : SayT J K) (h27 : K 500127 = J 500127) (h58 : ∀ k, 5 ≤ k → k ≤ 8 → M 58 k = L 58 k) : StF K S bk M := by
  have e : rtB K S.1.1 S.1.2 bk = rtB J S.1.1 S.1.2 bk := by funext s; exact rtB_mv hS ht h27
  unfold StF at h ⊢
  rw [e, h58 5 (by omega) (by omega), h58 6 (by omega) (by omega), h58 7 (by omega) (by omega), h58 8 (by omega) (by omega)]
  exact h
theorem R8.mv (h : R8 J S bk) (hS : TnV S) (hk : SQ rw' J K) : R8 K S bk := by
  have e58 : K 58 = J 58 := hk.cc (by omega)
  rcases h with h | ⟨h1, h2⟩
  · left; rw [e58]; exact h
  · right
    exact ⟨by rw [e58]; exact h1, h2.mv hS hk.ty (hk.m (by omega) (by omega) (by unfold scA; omega)) (fun k _ _ => by rw [e58])⟩
end Rmv
/-- class and model are one: so many marks made, rows yet to be made (z = 1) -/
def GS (q z : Nat) (J : Iv) (E : Ev) : Prop := ∃ (S : Tn) (PS : Nat → List Pt) (t : Nat) (op : Nat → Nat) (bk : List (Nat × Nat)) (kb n n0 p c : Nat) (mk : Nat → Nat) (tp im : Nat) (nim : Nat → Nat) (rw' : Nat),
  R1 J E S PS t op ∧ R2 J E bk kb ∧ R3 J S n p c ∧ R4 J E S n n0 q mk ∧ R5 J S im nim ∧ R6 J tp ∧ R7 J ∧ R8 J S bk ∧ R9 E rw' z
