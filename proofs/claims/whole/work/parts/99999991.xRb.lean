/-! class and model on one heap: what stays; refusals -/
theorem EX.un {b : Bool} {P : Nat → Nat → Prop} {E : Ev} (h9 : tyc (shB b) E 999999 = 0) : EX b P E (unE E) := ⟨fun _ _ _ _ => rfl, fun a ht => ⟨rfl, by
  have e : a ≠ 999999 := fun e => ht (e ▸ h9)
  unfold len unE
  dsimp only
  rw [if_neg e]⟩⟩
abbrev noP : Nat → Nat → Prop := fun _ _ => False
section Rex
variable {J K : Iv} {E F : Ev} {S : Tn} {PS : Nat → List Pt} {t kb n n0 p c q tp im rw' z : Nat} {op mk nim : Nat → Nat} {bk : List (Nat × Nat)} {P : Nat → Nat → Prop}
theorem R1.ex (h : R1 J E S PS t op) (hE : EX true P E F) (h3 : ¬ P 3 0) (h15 : ∀ v, v < 9 → ¬ P 15 v) (h8 : ¬ P 0 8) (h9 : ¬ P 0 9) : R1 J F S PS t op := by
  have t0 : tyc shN E 0 ≠ 0 := by rw [ty_xmain]; decide
  obtain ⟨h1, h2, h4⟩ := h
  exact ⟨h1.ex hE h3 h15, by rw [hE.1 0 8 t0 h8]; exact h2, by rw [hE.1 0 9 t0 h9]; exact h4.1, h4.2⟩
theorem R2.ex (h : R2 J E bk kb) (hE : EX true P E F) (h58 : ¬ P 58 3) (h11 : ¬ P 0 11) : R2 J F bk kb := by
  have t0 : tyc shN E 0 ≠ 0 := by rw [ty_xmain]; decide
  have t58 : tyc shN E 58 ≠ 0 := by rw [ty_xtasters]; decide
  obtain ⟨⟨a1, a2⟩, h2, h4⟩ := h
  exact ⟨⟨by rw [hE.1 58 3 t58 h58]; exact a1, a2⟩, by rw [hE.1 0 11 t0 h11]; exact h2, h4⟩
theorem R4.ex (h : R4 J E S n n0 q mk) (hE : EX true P E F) (h80 : ∀ p, ¬ P 80 p) (hp : ∀ y j, 1000000 ≤ y → ¬ P y j) : R4 J F S n n0 q mk := ⟨h.1.ex hE h80 hp, h.2⟩
theorem RoS.ex (h : RoS true E rw') (hE : EX true P E F) (h47 : ¬ P 47 3) : RoS true F rw' := by
  have t47 : tyc shN E 47 ≠ 0 := by rw [ty_xforesight]; decide
  obtain ⟨r1, r2, r3⟩ := h
  have tr : tyc shN E rw' ≠ 0 := by rw [r2]; decide
  have e := hE.2 rw' tr
  exact ⟨by rw [hE.1 47 3 t47 h47]; exact r1, by rw [e.1]; exact r2, by rw [e.2]; exact r3⟩
theorem R9.ex (h : R9 E rw' z) (hE : EX true P E F) (h47 : ¬ P 47 3) (h9 : tyc shN F 999999 = 0) : R9 F rw' z := ⟨h.1.ex hE h47, h9, h.2.2⟩
end Rex
theorem GS.ex {q z : Nat} {J : Iv} {E F : Ev} (h : GS q z J E) (hE : EX true noP E F) (h9 : tyc shN F 999999 = 0) : GS q z J F := by
  obtain ⟨S, PS, t, op, bk, kb, n, n0, p, c, mk, tp, im, nim, rw', r1, r2, r3, r4, r5, r6, r7, r8, r9⟩ := h
  exact ⟨S, PS, t, op, bk, kb, n, n0, p, c, mk, tp, im, nim, rw', r1.ex hE id (fun _ _ => id) id id, r2.ex hE id id, r3, r4.ex hE (fun _ => id) (fun _ _ _ => id), r5, r6, r7, r8, r9.ex hE id h9⟩
theorem GS.un {q z : Nat} {J : Iv} {E : Ev} (h : GS q z J E) : GS q z J (unE E) := by
  have h' := h
  obtain ⟨S, PS, t, op, bk, kb, n, n0, p, c, mk, tp, im, nim, rw', r1, r2, r3, r4, r5, r6, r7, r8, r9⟩ := h'
  exact h.ex (EX.un r9.2.1) r9.2.1
/-- the model's call from K answers a, with thrown w, and then class and model are one -/
def MAns (mt : Mt) (av : List Value) (a : Int32) (w q z : Nat) (K : Iv) (E : Ev) : Prop := ∀ (Γ : Gm) (l : Launch) (d : Nat) (kr : Kr) (kx : Kxx), (∀ L, GS q z L E → L 500000 0 = nI w → kr (some (.int a)) L E) → Ex Γ l shN (d + 40) (0, 0) mt av K E kr kx
/-- what a call may cost -/
def Cst (q z q' z' : Nat) (M : Uv) : Prop := M.1 + 8 * (32 - q') + z' ≤ 8 * (32 - q) + z + 1 ∧ M.2 + 526 * (32 - q') + 81405 * z' ≤ 526 * (32 - q) + 81405 * z + 6
theorem Cst.no {q z : Nat} : Cst q z q z (0, 0) := by unfold Cst; dsimp only; omega
theorem Cst.x {q z : Nat} : Cst q z q z (1, 6) := by unfold Cst; dsimp only; omega
/-- what Γ and the launch must have -/
def GdX (Γ : Gm) (l : Launch) : Prop := GX Γ ∧ GY Γ ∧ l.stackTraces = false
/-- a call of class and model -/
def StX (mx mm : Mt) (av : List Value) (wN wI : Nat) (q z : Nat) (J : Iv) (E : Ev) : Prop := ∃ (M : Uv) (q' z' : Nat), Cst q z q' z' M ∧ q' ≤ 32 ∧ ∀ (Γ : Gm) (l : Launch) (d : Nat) (kr : Kr) (kx : Kxx), GdX Γ l → (∀ a K E', MAns mm (.ref 500000 :: av) a 0 q' z' K E' → kr (some (.int a)) K E') → (∀ K E', MAns mm (.ref 500000 :: av) (nI 0) wN q' z' K E' → kx nsX K E') → (∀ K E', MAns mm (.ref 500000 :: av) (nI 0) wI q' z' K E' → kx iaX K E') → Ex Γ l shN (d + 60) M mx (.ref 0 :: av) J E kr kx
/-- .. that may throw IllegalArgumentException alone; that throws nothing -/
def StX1 (mx mm : Mt) (av : List Value) (wI : Nat) (q z : Nat) (J : Iv) (E : Ev) : Prop := ∃ (M : Uv) (q' z' : Nat), Cst q z q' z' M ∧ q' ≤ 32 ∧ ∀ (Γ : Gm) (l : Launch) (d : Nat) (kr : Kr) (kx : Kxx), GdX Γ l → (∀ a K E', MAns mm (.ref 500000 :: av) a 0 q' z' K E' → kr (some (.int a)) K E') → (∀ K E', MAns mm (.ref 500000 :: av) (nI 0) wI q' z' K E' → kx iaX K E') → Ex Γ l shN (d + 60) M mx (.ref 0 :: av) J E kr kx
def StX0 (mx mm : Mt) (av : List Value) (q z : Nat) (J : Iv) (E : Ev) : Prop := ∃ (M : Uv) (q' z' : Nat), Cst q z q' z' M ∧ q' ≤ 32 ∧ ∀ (Γ : Gm) (l : Launch) (d : Nat) (kr : Kr) (kx : Kxx), GdX Γ l → (∀ a K E', MAns mm (.ref 500000 :: av) a 0 q' z' K E' → kr (some (.int a)) K E') → Ex Γ l shN (d + 60) M mx (.ref 0 :: av) J E kr kx
theorem ref1_o {K : Iv} {w : Int32} {rn i : Nat} (h0 : i ≠ 500000) (h2 : i ≠ 500002) : ref1 (up K 500000 0 (nI 0)) w rn i = K i := by
  funext j
  unfold ref1
  rw [up_n (by omega), up_n (by omega), up_n (by omega)]
/-- refused by both -/
theorem GS.rf {q z rn w : Nat} {J : Iv} {E : Ev} (h : GS q z J E) (hrn : rn < 2) : GS q z (ref1 (up (up J 0 (13 + rn) (J 0 (13 + rn) + nI 1)) 500000 0 (nI 0)) (nI w) rn) E ∧ ref1 (up (up J 0 (13 + rn) (J 0 (13 + rn) + nI 1)) 500000 0 (nI 0)) (nI w) rn 500000 0 = nI w := by
  obtain ⟨S, PS, t, op, bk, kb, n, n0, p, c, mk, tp, im, nim, rw', r1, r2, r3, r4, r5, r6, r7, r8, r9⟩ := h
  have hS := r1.1.1.2.2.2.1
  obtain ⟨L, hL⟩ : ∃ L, L = ref1 (up (up J 0 (13 + rn) (J 0 (13 + rn) + nI 1)) 500000 0 (nI 0)) (nI w) rn := ⟨_, rfl⟩
  have hq : SQ rw' J L := by
    refine ⟨fun i a _ _ b c => ?_, fun j hj => ?_, ?_⟩
    · rw [hL, ref1_o a c]
      funext k
      exact up_n (by omega)
    · have : j ≠ 0 := fun e => hj (by rw [e]; unfold scF; omega)
      rw [hL]
      unfold ref1
      rw [up_n (by omega), up_n (by omega), up_n (by omega), up_n (by omega)]
    · rw [hL, ref1_o (by decide) (by decide), up_n (by omega)]
  have e7 : R7 L := by
    have z0 : L 0 = up J 0 (13 + rn) (J 0 (13 + rn) + nI 1) 0 := by rw [hL, ref1_o (by decide) (by decide)]
    have z2 : ∀ k, L 500002 k = if k = rn then J 500002 rn + nI 1 else J 500002 k := fun k => by
      rw [hL]
      unfold ref1
      by_cases e : k = rn
      · rw [e, up_s, if_pos rfl, up_n (by omega), up_n (by omega)]
      · rw [up_n (by omega), if_neg e, up_n (by omega), up_n (by omega), up_n (by omega)]
    obtain ⟨a1, a2⟩ := r7
    unfold R7
    rw [z0, z2, z2]
    rcases (show rn = 0 ∨ rn = 1 by omega) with rfl | rfl
    · exact ⟨by rw [up_s, if_pos rfl, a1], by rw [up_n (by omega), if_neg (by omega), a2]⟩
    · exact ⟨by rw [up_n (by omega), if_neg (by omega), a1], by rw [up_s, if_pos rfl, a2]⟩
  rw [← hL]
  refine ⟨⟨S, PS, t, op, bk, kb, n, n0, p, c, mk, tp, im, nim, rw', r1.mv hq, r2.mv hq, r3.mv hS.1 hq, r4.mv hS r9.1 hq, r5.mv hS.1 hq, r6.mv hq, e7, r8.mv hS hq, r9⟩, ?_⟩
  rw [hL]
  unfold ref1
  rw [up_n (by omega), up_s]
/-- asked of both, nothing changed -/
theorem GS.sq {q z rw' : Nat} {J K : Iv} {E : Ev} (hr : RoS true E rw') (h : GS q z J E) (hq : SQ rw' J K) (h0 : K 0 = J 0) (h2 : K 500002 = J 500002) : GS q z K E := by
  obtain ⟨S, PS, t, op, bk, kb, n, n0, p, c, mk, tp, im, nim, rw2, r1, r2, r3, r4, r5, r6, r7, r8, r9⟩ := h
  have hS := r1.1.1.2.2.2.1
  have e : rw2 = rw' := by
    have := r9.1.1.symm.trans hr.1
    exact Value.ref.inj this
  subst e
  exact ⟨S, PS, t, op, bk, kb, n, n0, p, c, mk, tp, im, nim, rw2, r1.mv hq, r2.mv hq, r3.mv hS.1 hq, r4.mv hS r9.1 hq, r5.mv hS.1 hq, r6.mv hq, r7.mv h0 h2, r8.mv hS hq, r9⟩
