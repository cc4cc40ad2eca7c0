/-! constructors, 8: class and model are one at the start -/
theorem DyA.x2 {F : Ev} {s y : Nat} (h : DyA (shB false) F y) (hy : 1000000 ≤ y) : DyA shN (xE2 F s) y := by
  obtain ⟨h0, ⟨r0, r1, r2, r3, r4, r5, r6⟩, ⟨t1, t2, t3, t4, t5, t6, t7⟩, l1, l2, l3, l4, l5, l6, l7⟩ := h
  exact ⟨by rw [x2_ty (by omega)]; exact h0, ⟨by rw [x2_rg (by omega)]; exact r0, by rw [x2_rg (by omega)]; exact r1, by rw [x2_rg (by omega)]; exact r2, by rw [x2_rg (by omega)]; exact r3, by rw [x2_rg (by omega)]; exact r4, by rw [x2_rg (by omega)]; exact r5, by rw [x2_rg (by omega)]; exact r6⟩, ⟨by rw [x2_ty (by omega)]; exact t1, by rw [x2_ty (by omega)]; exact t2, by rw [x2_ty (by omega)]; exact t3, by rw [x2_ty (by omega)]; exact t4, by rw [x2_ty (by omega)]; exact t5, by rw [x2_ty (by omega)]; exact t6, by rw [x2_ty (by omega)]; exact t7⟩, by rw [x2_ln (by omega)]; exact l1, by rw [x2_ln (by omega)]; exact l2, by rw [x2_ln (by omega)]; exact l3, by rw [x2_ln (by omega)]; exact l4, by rw [x2_ln (by omega)]; exact l5, by rw [x2_ln (by omega)]; exact l6, by rw [x2_ln (by omega)]; exact l7⟩
theorem hV0 : TnV tn0 := ⟨by decide, by decide, fun v hv => (by cases hv), by decide, by decide, fun c hc => absurd hc (Nat.not_lt_zero c), fun v hv => absurd hv (Nat.not_lt_zero v), fun v hv => absurd hv (Nat.not_lt_zero v)⟩
def w00 (a : Nat) : Int32 := if a = 49 then nI 1 else if a = 46 then -1 else if a = 43 then -1 else if a = 3 then -1 else nI 0
theorem gs_0 {B s y : Nat} {J L J1 K : Iv} {F : Ev} (hX : XI B J F y) (hM : MZ J L 356 w00) (t1 : TRt J1 tn0) (t2 : ∀ i, i ≠ 500003 → J1 i = L i) (hK : StJ J1 tn0 K) : GS 1 1 K (xE2 F s) := by
  obtain ⟨K0, K', xT, hBg, hCp, hy, xo, ⟨kb2, kb3⟩, k58, ⟨k12, k13, k14⟩, ⟨k11, k16⟩, k2, hDi, hEX, f9, fsz⟩ := hX
  obtain ⟨q1, q2, q3, q4, q5, q6, q7, qb, q24, q25⟩ := hK
  have s9 : tn0.1.1 ≤ 9 := by decide
  have kc : ∀ i, i < 500000 ∨ 1000000 ≤ i → K i = J i := fun i hi => by rw [q1 i (by omega) (by omega) (by omega) (by omega) (by omega) (by omega) (by omega) (by omega) (by omega) (by omega), t2 i (by omega), hM.1 i (by omega)]
  have kj : ∀ i, i < 500000 → ¬ (71 ≤ i ∧ i ≤ 79) → K i = K0 i := fun i h1 h2 => by
    rw [kc i (by omega), hCp.1 i (by omega), ← hBg.1 i (by omega)]
    funext k
    exact up_n (by omega)
  have km : ∀ j, ¬ (36 ≤ j ∧ j ≤ 40) → K 500000 j = w00 j := fun j hj => by rw [q2 j hj, t2 _ (by omega), hM.2.2 j]
  have kz : K 500002 = fun _ => nI 0 := by rw [q1 500002 (by omega) (by omega) (by omega) (by omega) (by omega) (by omega) (by omega) (by omega) (by omega) (by omega), t2 _ (by omega), hM.2.1 _ (by omega) (by omega)]
  have xT2 : XTn K 4 tn0 := xT.mv (fun i a b => kj i (by omega) (by omega))
  have w0 : K 500004 0 = nI tn0.1.1 := (q4 0 (by omega)).trans t1.1
  have w1 : K 500004 1 = nI tn0.1.2 := (q4 1 (by omega)).trans t1.2.1
  have w2 : K 500004 2 = tvI tn0.2.1.1 := (q4 2 (by omega)).trans t1.2.2.1
  have w3 : K 500004 3 = nI tn0.2.1.2.1 := (q4 3 (by omega)).trans t1.2.2.2.1
  have w4 : K 500004 4 = nI tn0.2.1.2.2 := (q4 4 (by omega)).trans t1.2.2.2.2.1
  have lmt : MT K tn0 := ⟨w2, w3, fun c hc => absurd hc (Nat.not_lt_zero c), fun v hv => absurd hv (Nat.not_lt_zero v)⟩
  have lmo : MO K tn0.1.1 (fun _ => []) := fun v hv => absurd hv (Nat.not_lt_zero v)
  have lvs : VS K tn0.1.1 tn0.1.2 := VS.of w0 w1 hV0 lmt lmo
  have xr : ∀ i j r, i < 125 → tyc (shB false) (xE0 B) i ≠ 0 → (shB false).2.2 i j = none → rlk (imsR 3) i j = some r → i ≠ 80 → rget shN (xE2 F s) i j = .ref r := fun i j r h1 h0 h2 h3 h4 => by
    rw [x2_rg (Or.inl (by omega)), hEX.1 i j h0 (fun c => h4 c.1)]
    unfold rget
    rw [h2]
    show rid ((CE B 125 (imsR 3)).1 i j) = _
    unfold CE
    dsimp only
    rw [h3]
    rfl
  have p15 : ∀ v, v < 9 → rlk rTl 15 v = none ∧ rlk (imsR 3) 15 v = some (20 + 3 * v) := by decide +kernel
  obtain ⟨op, hop⟩ : ∃ op : Nat → Nat, op = fun v => if v < 9 then 20 + 3 * v else 94 := ⟨_, rfl⟩
  have o9 : ∀ v, v < 9 → op v = 20 + 3 * v := fun v hv => by rw [hop]; exact if_pos hv
  have o94 : op 9 = 94 := by rw [hop]; exact if_neg (by omega)
  have nq3 : NQ K' 71 tn0 0 (K 500127) (nI 0) (nI 0) (fun _ => nI 0) := NQ.beg (I := K) xT hV0 hBg qb
  have nq4 : NQ (up K' 79 1 (nI 0)) 71 tn0 0 (K 500127) (nI 0) (nI 0) (fun _ => nI 0) := nq3.mv s9 (fun i _ _ => by funext j; exact up_n (by omega))
  have l37 : K 500000 37 = nI 0 := q3 37 (by omega)
  have l38 : K 500000 38 = nI 0 := q3 38 (by omega)
  have cy : ∀ y, NQ K y tn0 0 (K 500127) (nI 0) (nI 0) (fun _ => nI 0) → NQ K y tn0 0 (K 500124) (K 500000 37) (K 500000 38) (K 500123) := fun y h => h.cgr (fun k _ => by rw [q24]) l37 l38 (fun v hv => (q7 v hv).2.2)
  have pos : 0 < 2 ^ tn0.1.1 := Nat.two_pow_pos _
  have hDi2 : DiE true (xE2 F s) 1 (fun p => if p = 0 then y else 0) := ⟨hDi.1, fun p hp => ⟨by rw [x2_rg (Or.inl (by omega))]; exact (hDi.2.1 p hp).1, (hDi.2.1 p hp).2.1.x2 (hDi.2.1 p hp).2.2, (hDi.2.1 p hp).2.2⟩, fun p a b => by rw [x2_rg (Or.inl (by omega))]; exact hDi.2.2.1 p a b, hDi.2.2.2⟩
  have ko : ∀ v, v < 9 → XOq K (op v) [] := fun v hv => by
    rw [o9 v hv]
    have e : K (20 + 3 * v) = K0 (20 + 3 * v) := kj _ (by omega) (by omega)
    obtain ⟨a, b, c, d⟩ := xo v hv
    exact XOq.nil (by rw [e]; exact a) (by rw [e]; exact b) (by rw [e]; exact c) (by rw [e]; exact d)
  refine ⟨tn0, fun _ => [], 4, op, [], 68, 0, 0, 0, 0, fun p => if p = 0 then y else 0, 0, 0, fun _ => 0, 57, ⟨⟨⟨?_, Or.inl rfl, xT2, hV0, fun v hv => ?_, fun v hv => ?_, fun a b ha hb e => ?_, fun v hv => ⟨ko v hv, by simp [stA], by simp⟩⟩, lmt, lvs, lmo⟩, ?_, ?_, fun v hv => absurd hv (Nat.not_lt_zero v), w4, qb⟩, ⟨⟨?_, Or.inl rfl, ⟨?_, ?_, fun i x hx => by simp at hx⟩, ⟨by simp, fun x hx => absurd hx (by simp)⟩⟩, ?_, q3 36 (by omega), fun k x hx => by simp at hx⟩, ⟨⟨SayT.rf, cy 71 ?_⟩, by omega, l37, pos, l38, pos⟩, ⟨hDi2, by omega, ?_, Nat.le_refl _, by omega, q3 39 (by omega), ?_, fun a ha => ?_⟩, ⟨?_, by omega, q3 40 (by omega), fun m hm => absurd hm (by omega)⟩, ⟨?_, ?_, by omega, fun k hk => ?_, fun k hk => absurd hk (by omega), ?_⟩, ⟨?_, ?_⟩, Or.inl ?_, ⟨?_, ?_, Or.inl rfl⟩, x2_9, by rw [if_pos rfl]⟩
  · exact xr 3 0 4 (by omega) (by rw [ty_xaqueduct]; decide) pS_3_0 (by decide +kernel) (by omega)
  · rw [o9 v hv]
    exact xr 15 v _ (by omega) (by rw [ty_xopinions]; decide) (ps_n (pS_x (by decide) (by decide +kernel) (p15 v hv).1)) (p15 v hv).2 (by omega)
  · by_cases c : v < 9
    · rw [o9 v c]
      unfold idO
      omega
    · rw [show v = 9 by omega, o94]
      unfold idO
      omega
  · by_cases c : a < 9 <;> by_cases f : b < 9
    · rw [o9 a c, o9 b f] at e
      omega
    · rw [show b = 9 by omega, o9 a c, o94] at e
      omega
    · rw [show a = 9 by omega, o9 b f, o94] at e
      omega
    · omega
  · exact xr 0 8 83 (by omega) (by rw [ty_xmain]; decide) pS_0_8 (by decide +kernel) (by omega)
  · rw [o94]
    exact xr 0 9 94 (by omega) (by rw [ty_xmain]; decide) (ps_n (pS_x (by decide) (by decide +kernel) (by decide +kernel))) (by decide +kernel) (by omega)
  · exact xr 58 3 68 (by omega) (by rw [ty_xtasters]; decide) (ps_n (pS_x (by decide) (by decide +kernel) (by decide +kernel))) (by decide +kernel) (by omega)
  · rw [kj 68 (by omega) (by omega)]; exact kb2
  · rw [kj 68 (by omega) (by omega)]; exact kb3
  · exact xr 0 11 98 (by omega) (by rw [ty_xmain]; decide) (ps_n (pS_x (by decide) (by decide +kernel) (by decide +kernel))) (by decide +kernel) (by omega)
  · exact (nq4.mv s9 (fun i a e => hCp.1 i (by omega))).mv s9 (fun i a e => kc i (by omega))
  · rw [kc 79 (by omega), hCp.1 79 (by omega), up_s]
  · rw [q24, ← q25]
    rfl
  · have : a = 0 := by omega
    subst this
    have hh := cy y ((nq4.cp s9 hCp).mv s9 (fun i a e => kc i (by omega)))
    rw [q24, ← q25] at hh
    exact hh
  · rw [kj 0 (by omega) (by omega)]; exact k12
  · rw [kj 1 (by omega) (by omega)]; exact k11
  · exact km 1 (by omega)
  · rw [kj 2 (by omega) (by omega), k2]; rfl
  · rw [kj 1 (by omega) (by omega), k16, km 3 (by omega)]; rfl
  · rw [kj 0 (by omega) (by omega), k13, kz]
  · rw [kj 0 (by omega) (by omega), k14, kz]
  · rw [kj 58 (by omega) (by omega)]; exact k58
  · exact xr 47 3 57 (by omega) (by rw [ty_xforesight]; decide) (ps_n (pS_x (by decide) (by decide +kernel) (by decide +kernel))) (by decide +kernel) (by omega)
  · exact tyc_s (t := 100) (tS_x (by decide) (by decide +kernel))
theorem y_M {Γ : Gm} {l : Launch} {d y : Nat} {J : Iv} {F : Ev} {kr : Kr} {kx : Kxx} (hG : GW Γ) (hB : Γ.1.2 = Γ.1.1 + 133) (hX : XI Γ.1.1 J F y) (hk : ∀ K, GS 1 1 K (xE2 F (Γ.1.2 + 357)) → kr none K (flE shN (xE2 F (Γ.1.2 + 357)))) : Ex Γ l sh0 (d + 4) (355, 97648) mM_init [.ref 500000] (zr J 500000) (mkE (flE (shB false) F) 500000 12 0 (Γ.1.2 + 2)) kr kx :=
  ex_vw (sh' := sh0) (E' := CM (flE (shB false) F) Γ.1.2 1 []) (fun H h => h.m0 rfl) (y_M0 hG (fun L J1 K hM t1 t2 hK => ⟨_, fun H h => h, hk K (gs_0 hX hM t1 t2 hK)⟩))
