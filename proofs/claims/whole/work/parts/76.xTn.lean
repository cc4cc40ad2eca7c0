/-! contracts of the class, 7: towns, read -/
/-- the reader stands, and there was no fault -/
def TS (T : Nat → Int32) (n : Nat) (I : Iv) (a : Nat) : Prop := TSt T n I a ∧ I 1 6 = -1
def TEr (J : Iv) (e : Nat × Nat) : Prop := J 1 5 = nI e.1 ∧ J 1 6 = nI e.2
theorem TS.tp {T : Nat → Int32} {n a x s : Nat} {I : Iv} (h : TS T n I a) (hx : x ≤ n) : TS T n (tp I x s) x := ⟨h.1.tp hx, by rw [tp_f (by decide) (by decide)]; exact h.2⟩
theorem TS.mvo {T : Nat → Int32} {n a : Nat} {I J : Iv} (h : TS T n I a) (h1 : J 1 = I 1) (h2 : J 2 = I 2) : TS T n J a := ⟨h.1.mvo h1 h2, by rw [h1]; exact h.2⟩
theorem tf_e {I : Iv} {x s k : Nat} : TEr (tf I x s k) (k, s) := ⟨tf_5, tf_6⟩
theorem tp_self {I : Iv} {a s : Nat} (h3 : I 1 3 = nI a) (h4 : I 1 4 = nI s) : tp I a s = I := by
  unfold tp
  rw [up_self h3, up_self h4]
theorem acE {Γ : Gm} (hG : GX Γ) {w v : Nat} {P Q : Prop} (hw : w < 20) (hv : v < 20) : (∃ a b : Nat, 1000000 + wad Γ w = 1000000 + a ∧ 1000000 + wad Γ v = 1000000 + b ∧ imp (¬ a = b) P ∧ imp (a = b) Q) = (imp (¬ w = v) P ∧ imp (w = v) Q) := by
  refine propext ⟨fun h => ?_, fun h => ?_⟩
  · obtain ⟨a, b, h1, h2, h3, h4⟩ := h
    have e1 : wad Γ w = a := by omega
    have e2 : wad Γ v = b := by omega
    refine ⟨fun q => h3 (fun e => q (hG.2 w v hw hv (by omega))), fun q => h4 (by rw [← e1, ← e2, q])⟩
  · exact ⟨wad Γ w, wad Γ v, rfl, rfl, fun q => h.1 (fun e => q (by rw [e])), fun q => h.2 (hG.2 w v hw hv q)⟩
theorem gwE {Γ : Gm} (hG : GX Γ) {w : Nat} {P : Nat → Prop} (hw : w < 20) : (∃ v, v < 20 ∧ 1000000 + wad Γ w = 1000000 + wad Γ v ∧ P v) = P w := by
  refine propext ⟨fun h => ?_, fun h => ⟨w, hw, rfl, h⟩⟩
  obtain ⟨v, h1, h2, h3⟩ := h
  rw [hG.2 w v hw h1 (by omega)]
  exact h3
section XNum
variable {Γ : Gm} {l : Launch} {b : Bool} {d : Nat} {I : Iv} {E : Ev} {kr : Kr} {kx : Kxx} {T : Nat → Int32} {n a : Nat}
theorem x_numS {lo hi : Int32} (h : TS T n I a) (hlo : lo = nI 0 ∨ lo = nI 1) (hhi : hi ≤ nI 999) (ho : ∀ c p, nuS T n lo hi a = .ok (c, p) → p ≤ 999 → nI p ≤ hi → (lo = nI 1 → 1 ≤ p) → c ≤ n → kr (some (.int (nI p))) (tp I c (sk T n a)) E)
    (he : ∀ e x, nuS T n lo hi a = .error e → x ≤ n → kr (some (.int (-1))) (tf I x e.2 e.1) E) : Ex Γ l (shB b) (d + 2) (0, 0) mTp_numberIn [.ref 1, .int lo, .int hi] I E kr kx := by
  have hTe : Tx T n := by rw [← h.1.1]; exact xt_Tx
  refine x_numberIn h.1 hhi (fun q => ?_) (fun q x hx => ?_)
  · obtain ⟨-, h1, h2⟩ := nmF_0 q
    have h0 : nI 0 ≤ nmV T n a := by rcases hlo with r | r <;> rw [r] at h1 <;> first | exact h1 | exact Int32.le_trans (by decide) h1
    obtain ⟨p, hp, e⟩ := rng (by decide) ⟨h0, Int32.le_trans h2 hhi⟩
    have hlt := nm_lt hTe h.1.2.2.2.2.2 q
    rw [e]
    refine ho (nmE T n a) p (by unfold nuS; rw [if_pos q, e, nI_clamp (by omega)]) hp (by rw [← e]; exact h2) (fun r => ?_) hlt.2
    rw [r, e] at h1
    exact (nI_leI (by decide) (by omega)).mp h1
  · exact he (nmF T n a lo hi, sk T n a) x (by unfold nuS; rw [if_neg q]) hx
end XNum
theorem paS_x {T : Nat → Int32} {n a gone : Nat} {lo : Int32} (hlo : lo = nI 0 ∨ lo = nI 1) (hg : gone ≤ 8) : paS T n lo gone a = nuS T n lo (nI (8 - gone)) a := by
  unfold paS nuS
  have key : ∀ hi, hi ≤ 8 → nmF T n a lo (nI hi) = if ¬ (nI 48 ≤ T (sk T n a) ∧ T (sk T n a) ≤ nI 57) then 1 else if ¬ (lo ≤ nmV T n a ∧ nmV T n a ≤ nI hi) then 2 else 0 := fun hi _ => rfl
  by_cases hd : nI 48 ≤ T (sk T n a) ∧ T (sk T n a) ≤ nI 57
  · by_cases h8 : lo ≤ nmV T n a ∧ nmV T n a ≤ nI 8
    · have f8 : nmF T n a lo (nI 8) = 0 := by rw [key 8 (by omega), if_neg (fun q : ¬ _ => q hd), if_neg (fun q : ¬ _ => q h8)]
      have h0 : nI 0 ≤ nmV T n a := by rcases hlo with r | r <;> rw [r] at h8 <;> first | exact h8.1 | exact Int32.le_trans (by decide) h8.1
      obtain ⟨p, hp, e⟩ := rng (by decide) ⟨h0, h8.2⟩
      rw [if_pos f8]
      show (if 8 < gone + (nmV T n a).toNatClampNeg then _ else _) = _
      rw [e, nI_clamp (by omega)]
      by_cases hq : 8 < gone + p
      · have hno : ¬ (lo ≤ nmV T n a ∧ nmV T n a ≤ nI (8 - gone)) := fun z => by
          rw [e] at z
          have := (nI_leI (by omega) (by omega)).mp z.2
          omega
        have fg : nmF T n a lo (nI (8 - gone)) = 2 := by rw [key (8 - gone) (by omega), if_neg (fun q : ¬ _ => q hd), if_pos hno]
        rw [if_pos hq, fg, if_neg (by decide)]
      · have hyes : lo ≤ nmV T n a ∧ nmV T n a ≤ nI (8 - gone) := ⟨h8.1, by rw [e]; exact nI_le (by omega) (by omega)⟩
        have fg : nmF T n a lo (nI (8 - gone)) = 0 := by rw [key (8 - gone) (by omega), if_neg (fun q : ¬ _ => q hd), if_neg (fun q : ¬ _ => q hyes)]
        rw [if_neg hq, if_pos fg]
    · have h9 : ¬ (lo ≤ nmV T n a ∧ nmV T n a ≤ nI (8 - gone)) := fun z => h8 ⟨z.1, Int32.le_trans z.2 (nI_le (by omega) (by omega))⟩
      have f8 : nmF T n a lo (nI 8) = 2 := by rw [key 8 (by omega), if_neg (fun q : ¬ _ => q hd), if_pos h8]
      have fg : nmF T n a lo (nI (8 - gone)) = 2 := by rw [key (8 - gone) (by omega), if_neg (fun q : ¬ _ => q hd), if_pos h9]
      rw [f8, fg, if_neg (by decide)]
  · have f8 : nmF T n a lo (nI 8) = 1 := by rw [key 8 (by omega), if_pos hd]
    have fg : nmF T n a lo (nI (8 - gone)) = 1 := by rw [key (8 - gone) (by omega), if_pos hd]
    rw [f8, fg, if_neg (by decide)]
/-! the class's towns -/
def tnN (j : Nat) : Nat := [9, 9, 9, 9, 9, 9, 27, 20, 20, 20].getD j 0
/-- a town's cells: t and the ten behind it -/
def TnA (sh : Sh) (E : Ev) (t : Nat) : Prop := tyc sh E t = 10 ∧ ∀ j, j < 10 → rget sh E t j = .ref (t + 1 + j) ∧ tyc sh E (t + 1 + j) = 101 ∧ len sh E (t + 1 + j) = tnN j
def vz (S : Tn) (v i : Nat) : Nat := if v < S.1.1 then S.2.2.1 v i else 0
def XTn (J : Iv) (t : Nat) (S : Tn) : Prop := J t 10 = nI S.1.1 ∧ J t 11 = nI S.1.2 ∧ J t 12 = tvI S.2.1.1 ∧ J t 13 = nI S.2.1.2.1 ∧ J t 14 = nI S.2.1.2.2 ∧ (∀ v, v < S.1.1 → J (t + 1) v = nI (S.2.2.1 v 0)) ∧
  (∀ v, v < 9 → J (t + 2) v = nI (vz S v 1) ∧ J (t + 3) v = nI (vz S v 2) ∧ J (t + 4) v = nI (vz S v 3) ∧ J (t + 5) v = nI (vz S v 4) ∧ J (t + 6) v = nI (pfS S v) ∧ ∀ h, h < 3 → J (t + 7) (3 * v + h) = nI (vz S v (5 + h))) ∧
  ∀ c, c < S.1.2 → J (t + 8) c = nI (S.2.2.2 c 0) ∧ J (t + 9) c = nI (S.2.2.2 c 1) ∧ J (t + 10) c = nI (S.2.2.2 c 2)
theorem XTn.mv {J K : Iv} {t : Nat} {S : Tn} (h : XTn J t S) (hk : ∀ i, t ≤ i → i ≤ t + 10 → K i = J i) : XTn K t S := by
  obtain ⟨h1, h2, h3, h4, h5, h6, h7, h8⟩ := h
  have e0 := hk t (by omega) (by omega)
  have e1 := hk (t + 1) (by omega) (by omega)
  have e2 := hk (t + 2) (by omega) (by omega)
  have e3 := hk (t + 3) (by omega) (by omega)
  have e4 := hk (t + 4) (by omega) (by omega)
  have e5 := hk (t + 5) (by omega) (by omega)
  have e6 := hk (t + 6) (by omega) (by omega)
  have e7 := hk (t + 7) (by omega) (by omega)
  have e8 := hk (t + 8) (by omega) (by omega)
  have e9 := hk (t + 9) (by omega) (by omega)
  have e10 := hk (t + 10) (by omega) (by omega)
  exact ⟨by rw [e0, h1], by rw [e0, h2], by rw [e0, h3], by rw [e0, h4], by rw [e0, h5], fun v hv => by rw [e1]; exact h6 v hv, fun v hv => by rw [e2, e3, e4, e5, e6, e7]; exact h7 v hv, fun c hc => by rw [e8, e9, e10]; exact h8 c hc⟩
theorem XTn.tp {J : Iv} {t x s : Nat} {S : Tn} (h : XTn J t S) (ht : 3 ≤ t) : XTn (tp J x s) t S := h.mv (fun i h1 _ => tp_o (by omega))
/-- only the tape's reader and the town t have changed -/
def Fn (t : Nat) (I J : Iv) : Prop := (∀ i, i ≠ 1 → ¬ (t ≤ i ∧ i ≤ t + 10) → J i = I i) ∧ ∀ j, j < 3 → J 1 j = I 1 j
theorem Fn.rf {t : Nat} {I : Iv} : Fn t I I := ⟨fun _ _ _ => rfl, fun _ _ => rfl⟩
theorem Fn.tr {t : Nat} {I J K : Iv} (h : Fn t I J) (h2 : Fn t J K) : Fn t I K := ⟨fun i a b => (h2.1 i a b).trans (h.1 i a b), fun j a => (h2.2 j a).trans (h.2 j a)⟩
theorem Fn.tp {t x s : Nat} {I : Iv} : Fn t I (tp I x s) := ⟨fun i a _ => tp_o a, fun j a => tp_f (by omega) (by omega)⟩
theorem Fn.tf {t x s k : Nat} {I : Iv} : Fn t I (tf I x s k) := ⟨fun i a _ => tf_o a, fun j a => tf_f (by omega) (by omega) (by omega) (by omega)⟩
theorem Fn.up {t i j : Nat} {x : Int32} {I : Iv} (h : t ≤ i ∧ i ≤ t + 10) (ht : 3 ≤ t) : Fn t I (up I i j x) := ⟨fun a _ q => by funext y; exact up_n (fun c => q (c.1 ▸ h)), fun y _ => up_n (by omega)⟩
/-- a reader of a town's clause: what it leaves -/
def RT (T : Nat → Int32) (n t : Nat) (J : Iv) (E : Ev) (R : Rx (Nat × Tn)) (kr : Kr) : Prop := (∀ c S' K, R = .ok (c, S') → Fn t J K → TS T n K c → XTn K t S' → kr (some (.int (nI 1))) K E) ∧ ∀ e K, R = .error e → Fn t J K → TEr K e → kr (some (.int (nI 0))) K E
theorem pfC_0 {S : Tn} {v : Nat} (h1 : ∀ u, S.2.1.1 = some u → u ≠ v) : ∀ c, (∀ c', c' < c → S.2.2.2 c' 0 ≠ v) → pfC S v c = 0
  | 0, _ => by
    unfold pfC
    exact if_neg (fun e => h1 v e rfl)
  | c + 1, h => by
    unfold pfC
    rw [pfC_0 h1 c (fun c' hc => h c' (by omega)), if_neg (h c (by omega))]
theorem pfS_0 {S : Tn} {v : Nat} (h : TnV S) (hv : S.1.1 ≤ v) : pfS S v = 0 := by
  refine pfC_0 (fun u hu e => ?_) _ (fun c hc e => ?_)
  · have := h.2.2.1 u hu
    omega
  · have := (h.2.2.2.2.2.1 c hc).1
    omega
theorem nI_nm {p : Nat} (h : p < 1000) : ¬ nI p = -1 := by
  have : ∀ p, p < 1000 → ¬ nI p = -1 := by decide +kernel
  exact this p h
theorem vz_addV {S : Tn} {p v i : Nat} (hi : 1 ≤ i) : vz (addV S p) v i = vz S v i := by
  unfold vz addV
  by_cases h : v < S.1.1
  · rw [if_pos h]
    show (if v < S.1.1 + 1 then (if v = S.1.1 then (if i = 0 then p else 0) else S.2.2.1 v i) else 0) = _
    rw [if_pos (by omega), if_neg (by omega)]
  · rw [if_neg h]
    show (if v < S.1.1 + 1 then (if v = S.1.1 then (if i = 0 then p else 0) else S.2.2.1 v i) else 0) = _
    by_cases h2 : v < S.1.1 + 1
    · rw [if_pos h2, if_pos (by omega), if_neg (by omega)]
    · rw [if_neg h2]
theorem pf_addV {S : Tn} {p v : Nat} : pfS (addV S p) v = pfS S v := pfC_c (S := S) (S' := addV S p) rfl rfl S.1.2 (fun _ _ => ⟨rfl, rfl⟩)
theorem pf_setV {S : Tn} {w i x v : Nat} : pfS (setV S w i x) v = pfS S v := pfC_c (S := S) (S' := setV S w i x) rfl rfl S.1.2 (fun _ _ => ⟨rfl, rfl⟩)
theorem vz_setV {S : Tn} {w i x v j : Nat} (hw : w < S.1.1) : vz (setV S w i x) v j = if v = w ∧ j = i then x else vz S v j := by
  unfold vz
  show (if v < S.1.1 then ru2 S.2.2.1 w i x v j else 0) = _
  by_cases h : v = w ∧ j = i
  · rw [if_pos h, if_pos (by omega), h.1, h.2, ru2_s]
  · rw [if_neg h, ru2_n h]
theorem xtn_addV {J : Iv} {t p : Nat} {S : Tn} (h : XTn J t S) : XTn (up (up J (t + 1 + 0) S.1.1 (nI p)) t 10 (nI (S.1.1 + 1))) t (addV S p) := by
  obtain ⟨h1, h2, h3, h4, h5, h6, h7, h8⟩ := h
  refine ⟨up_s, ?_, ?_, ?_, ?_, fun v hv => ?_, fun v hv => ?_, fun c hc => ?_⟩
  · rw [up_n (by omega), up_n (by omega)]; exact h2
  · rw [up_n (by omega), up_n (by omega)]; exact h3
  · rw [up_n (by omega), up_n (by omega)]; exact h4
  · rw [up_n (by omega), up_n (by omega)]; exact h5
  · rw [up_n (by omega)]
    show _ = nI (if v = S.1.1 then (if 0 = 0 then p else 0) else S.2.2.1 v 0)
    by_cases e : v = S.1.1
    · rw [if_pos e, if_pos rfl, e, up_s]
    · rw [if_neg e, up_n (by omega)]
      have hv' : v < S.1.1 + 1 := hv
      exact h6 v (by omega)
  · rw [vz_addV (by decide), vz_addV (by decide), vz_addV (by decide), vz_addV (by decide), pf_addV]
    refine ⟨?_, ?_, ?_, ?_, ?_, fun q hq => ?_⟩
    · rw [up_n (by omega), up_n (by omega)]; exact (h7 v hv).1
    · rw [up_n (by omega), up_n (by omega)]; exact (h7 v hv).2.1
    · rw [up_n (by omega), up_n (by omega)]; exact (h7 v hv).2.2.1
    · rw [up_n (by omega), up_n (by omega)]; exact (h7 v hv).2.2.2.1
    · rw [up_n (by omega), up_n (by omega)]; exact (h7 v hv).2.2.2.2.1
    · rw [vz_addV (by omega), up_n (by omega), up_n (by omega)]; exact (h7 v hv).2.2.2.2.2 q hq
  · rw [up_n (by omega), up_n (by omega), up_n (by omega), up_n (by omega), up_n (by omega), up_n (by omega)]
    exact h8 c hc
/-- one number of a village: spring, leak, lag, frog -/
theorem xtn_setV {J : Iv} {t v i x : Nat} {S : Tn} (h : XTn J t S) (hv : v < S.1.1) (hi : 1 ≤ i ∧ i ≤ 4) : XTn (up J (t + 1 + i) v (nI x)) t (setV S v i x) := by
  obtain ⟨h1, h2, h3, h4, h5, h6, h7, h8⟩ := h
  have h0 : ∀ j, up J (t + 1 + i) v (nI x) t j = J t j := fun j => up_n (by omega)
  refine ⟨by rw [h0]; exact h1, by rw [h0]; exact h2, by rw [h0]; exact h3, by rw [h0]; exact h4, by rw [h0]; exact h5, fun u hu => ?_, fun u hu => ?_, fun c hc => ?_⟩
  · rw [up_n (by omega)]
    show _ = nI (ru2 S.2.2.1 v i x u 0)
    rw [ru2_n (by omega)]
    exact h6 u hu
  · obtain ⟨k1, k2, k3, k4, k5, k6⟩ := h7 u hu
    have one : ∀ j, 1 ≤ j → j ≤ 4 → J (t + 1 + j) u = nI (vz S u j) → up J (t + 1 + i) v (nI x) (t + 1 + j) u = nI (vz (setV S v i x) u j) := by
      intro j j1 j4 hj
      rw [vz_setV hv]
      by_cases e : u = v ∧ j = i
      · rw [if_pos e, e.1, e.2, up_s]
      · rw [if_neg e, up_n (by omega)]
        exact hj
    refine ⟨one 1 (by omega) (by omega) k1, one 2 (by omega) (by omega) k2, one 3 (by omega) (by omega) k3, one 4 (by omega) (by omega) k4, ?_, fun q hq => ?_⟩
    · rw [pf_setV, up_n (by omega)]; exact k5
    · rw [vz_setV hv, if_neg (by omega), up_n (by omega)]; exact k6 q hq
  · rw [up_n (by omega), up_n (by omega), up_n (by omega)]
    exact h8 c hc
theorem xtn_setF {J : Iv} {t v i x : Nat} {S : Tn} (h : XTn J t S) (hv : v < S.1.1) (hi : i < 3) : XTn (up J (t + 1 + 6) (v * 3 + i) (nI x)) t (setV S v (5 + i) x) := by
  obtain ⟨h1, h2, h3, h4, h5, h6, h7, h8⟩ := h
  have h0 : ∀ a j, a ≠ t + 7 → up J (t + 1 + 6) (v * 3 + i) (nI x) a j = J a j := fun a j ha => up_n (by omega)
  refine ⟨by rw [h0 _ _ (by omega)]; exact h1, by rw [h0 _ _ (by omega)]; exact h2, by rw [h0 _ _ (by omega)]; exact h3, by rw [h0 _ _ (by omega)]; exact h4, by rw [h0 _ _ (by omega)]; exact h5, fun u hu => ?_, fun u hu => ?_, fun c hc => ?_⟩
  · rw [h0 _ _ (by omega)]
    show _ = nI (ru2 S.2.2.1 v (5 + i) x u 0)
    rw [ru2_n (by omega)]
    exact h6 u hu
  · obtain ⟨k1, k2, k3, k4, k5, k6⟩ := h7 u hu
    refine ⟨?_, ?_, ?_, ?_, ?_, fun q hq => ?_⟩
    · rw [vz_setV hv, if_neg (by omega), h0 _ _ (by omega)]; exact k1
    · rw [vz_setV hv, if_neg (by omega), h0 _ _ (by omega)]; exact k2
    · rw [vz_setV hv, if_neg (by omega), h0 _ _ (by omega)]; exact k3
    · rw [vz_setV hv, if_neg (by omega), h0 _ _ (by omega)]; exact k4
    · rw [pf_setV, h0 _ _ (by omega)]; exact k5
    · rw [vz_setV hv]
      by_cases e : u = v ∧ 5 + q = 5 + i
      · rw [if_pos e, show 3 * u + q = v * 3 + i by omega, show t + 7 = t + 1 + 6 by omega, up_s]
      · rw [if_neg e, up_n (by omega)]; exact k6 q hq
  · rw [h0 _ _ (by omega), h0 _ _ (by omega), h0 _ _ (by omega)]
    exact h8 c hc
theorem xtn_feast {J : Iv} {t x : Nat} {S : Tn} (h : XTn J t S) : XTn (up J t 14 (nI x)) t (S.1, (S.2.1.1, S.2.1.2.1, x), S.2.2) := by
  obtain ⟨h1, h2, h3, h4, h5, h6, h7, h8⟩ := h
  have h0 : ∀ a j, ¬ (a = t ∧ j = 14) → up J t 14 (nI x) a j = J a j := fun a j ha => up_n ha
  have hp : ∀ v, pfS (S.1, (S.2.1.1, S.2.1.2.1, x), S.2.2) v = pfS S v := fun v => pfC_c (S := S) (S' := (S.1, (S.2.1.1, S.2.1.2.1, x), S.2.2)) rfl rfl S.1.2 (fun _ _ => ⟨rfl, rfl⟩)
  refine ⟨by rw [h0 _ _ (by omega)]; exact h1, by rw [h0 _ _ (by omega)]; exact h2, by rw [h0 _ _ (by omega)]; exact h3, by rw [h0 _ _ (by omega)]; exact h4, up_s, fun u hu => ?_, fun u hu => ?_, fun c hc => ?_⟩
  · rw [h0 _ _ (by omega)]; exact h6 u hu
  · rw [hp, h0 _ _ (by omega), h0 _ _ (by omega), h0 _ _ (by omega), h0 _ _ (by omega), h0 _ _ (by omega)]
    obtain ⟨k1, k2, k3, k4, k5, k6⟩ := h7 u hu
    exact ⟨k1, k2, k3, k4, k5, fun q hq => by rw [h0 _ _ (by omega)]; exact k6 q hq⟩
  · rw [h0 _ _ (by omega), h0 _ _ (by omega), h0 _ _ (by omega)]; exact h8 c hc
theorem pf_tap {S : Tn} {v p u : Nat} (h : S.2.1.1 = none) : pfS (S.1, (some v, p, S.2.1.2.2), S.2.2) u = pfS S u + (if u = v then p else 0) := by
  have : ∀ c, pfC (S.1, (some v, p, S.2.1.2.2), S.2.2) u c = pfC S u c + (if u = v then p else 0) := by
    intro c
    induction c with
    | zero =>
      show (if (some v : Option Nat) = some u then p else 0) = (if S.2.1.1 = some u then S.2.1.2.1 else 0) + _
      have hn : ¬ S.2.1.1 = some u := by rw [h]; exact fun e => nomatch e
      rw [if_neg hn]
      by_cases e : u = v
      · rw [if_pos (by rw [e]), if_pos e]; omega
      · rw [if_neg (fun q => e (Option.some.inj q).symm), if_neg e]
    | succ c ih =>
      show pfC _ u c + (if S.2.2.2 c 0 = u then S.2.2.2 c 2 else 0) = pfC S u c + (if S.2.2.2 c 0 = u then S.2.2.2 c 2 else 0) + _
      rw [ih]
      omega
  exact this _
theorem xtn_tap {J : Iv} {t v p : Nat} {S : Tn} (h : XTn J t S) (hn : S.2.1.1 = none) (hv : v < 9) : XTn (up (up (up J t 12 (nI v)) t 13 (nI p)) (t + 1 + 5) v (nI (pfS S v + p))) t (S.1, (some v, p, S.2.1.2.2), S.2.2) := by
  obtain ⟨h1, h2, h3, h4, h5, h6, h7, h8⟩ := h
  have h0 : ∀ a j, ¬ (a = t ∧ j = 12) → ¬ (a = t ∧ j = 13) → ¬ (a = t + 6 ∧ j = v) → up (up (up J t 12 (nI v)) t 13 (nI p)) (t + 1 + 5) v (nI (pfS S v + p)) a j = J a j := fun a j q1 q2 q3 => by rw [up_n (by omega), up_n q2, up_n q1]
  refine ⟨by rw [h0 _ _ (by omega) (by omega) (by omega)]; exact h1, by rw [h0 _ _ (by omega) (by omega) (by omega)]; exact h2, by rw [up_n (by omega), up_n (by omega), up_s]; rfl, by rw [up_n (by omega), up_s], by rw [h0 _ _ (by omega) (by omega) (by omega)]; exact h5, fun u hu => ?_, fun u hu => ?_, fun c hc => ?_⟩
  · rw [h0 _ _ (by omega) (by omega) (by omega)]; exact h6 u hu
  · rw [pf_tap hn, h0 _ _ (by omega) (by omega) (by omega), h0 _ _ (by omega) (by omega) (by omega), h0 _ _ (by omega) (by omega) (by omega), h0 _ _ (by omega) (by omega) (by omega)]
    obtain ⟨k1, k2, k3, k4, k5, k6⟩ := h7 u hu
    refine ⟨k1, k2, k3, k4, ?_, fun q hq => by rw [h0 _ _ (by omega) (by omega) (by omega)]; exact k6 q hq⟩
    by_cases e : u = v
    · rw [if_pos e, e, show t + 6 = t + 1 + 5 by omega, up_s]
    · rw [if_neg e, h0 _ _ (by omega) (by omega) (by omega)]; exact k5
  · rw [h0 _ _ (by omega) (by omega) (by omega), h0 _ _ (by omega) (by omega) (by omega), h0 _ _ (by omega) (by omega) (by omega)]; exact h8 c hc
theorem pf_addC {S : Tn} {v x p u : Nat} : pfS (addC S v x p) u = pfS S u + (if u = v then p else 0) := by
  show pfC (addC S v x p) u S.1.2 + (if (addC S v x p).2.2.2 S.1.2 0 = u then (addC S v x p).2.2.2 S.1.2 2 else 0) = _
  have e0 : (addC S v x p).2.2.2 S.1.2 0 = v := by
    show ru2 (ru2 (ru2 S.2.2.2 S.1.2 0 v) S.1.2 1 x) S.1.2 2 p S.1.2 0 = v
    rw [ru2_n (by omega), ru2_n (by omega), ru2_s]
  have e2 : (addC S v x p).2.2.2 S.1.2 2 = p := ru2_s
  rw [e0, e2]
  have hc : pfC (addC S v x p) u S.1.2 = pfC S u S.1.2 := pfC_c (S := S) (S' := addC S v x p) rfl rfl S.1.2 (fun c hc => ⟨by
    show ru2 (ru2 (ru2 S.2.2.2 S.1.2 0 v) S.1.2 1 x) S.1.2 2 p c 0 = _
    rw [ru2_n (by omega), ru2_n (by omega), ru2_n (by omega)], by
    show ru2 (ru2 (ru2 S.2.2.2 S.1.2 0 v) S.1.2 1 x) S.1.2 2 p c 2 = _
    rw [ru2_n (by omega), ru2_n (by omega), ru2_n (by omega)]⟩)
  rw [hc]
  show pfS S u + _ = _
  by_cases e : u = v
  · rw [if_pos e.symm, if_pos e]
  · rw [if_neg (Ne.symm e), if_neg e]
theorem xtn_addC {J : Iv} {t v x p : Nat} {S : Tn} (h : XTn J t S) : XTn (up (up (up (up (up J (t + 1 + 7) S.1.2 (nI v)) (t + 1 + 8) S.1.2 (nI x)) (t + 1 + 9) S.1.2 (nI p)) t 11 (nI (S.1.2 + 1))) (t + 1 + 5) v (nI (pfS S v + p))) t (addC S v x p) := by
  obtain ⟨h1, h2, h3, h4, h5, h6, h7, h8⟩ := h
  have h0 : ∀ a j, a ≠ t + 8 → a ≠ t + 9 → a ≠ t + 10 → ¬ (a = t ∧ j = 11) → ¬ (a = t + 6 ∧ j = v) → up (up (up (up (up J (t + 1 + 7) S.1.2 (nI v)) (t + 1 + 8) S.1.2 (nI x)) (t + 1 + 9) S.1.2 (nI p)) t 11 (nI (S.1.2 + 1))) (t + 1 + 5) v (nI (pfS S v + p)) a j = J a j := fun a j q1 q2 q3 q4 q5 => by rw [up_n (by omega), up_n q4, up_n (by omega), up_n (by omega), up_n (by omega)]
  refine ⟨by rw [h0 _ _ (by omega) (by omega) (by omega) (by omega) (by omega)]; exact h1, by rw [up_n (by omega), up_s]; rfl, by rw [h0 _ _ (by omega) (by omega) (by omega) (by omega) (by omega)]; exact h3, by rw [h0 _ _ (by omega) (by omega) (by omega) (by omega) (by omega)]; exact h4, by rw [h0 _ _ (by omega) (by omega) (by omega) (by omega) (by omega)]; exact h5, fun u hu => ?_, fun u hu => ?_, fun c hc => ?_⟩
  · rw [h0 _ _ (by omega) (by omega) (by omega) (by omega) (by omega)]; exact h6 u hu
  · rw [pf_addC, h0 _ _ (by omega) (by omega) (by omega) (by omega) (by omega), h0 _ _ (by omega) (by omega) (by omega) (by omega) (by omega), h0 _ _ (by omega) (by omega) (by omega) (by omega) (by omega), h0 _ _ (by omega) (by omega) (by omega) (by omega) (by omega)]
    obtain ⟨k1, k2, k3, k4, k5, k6⟩ := h7 u hu
    refine ⟨k1, k2, k3, k4, ?_, fun q hq => by rw [h0 _ _ (by omega) (by omega) (by omega) (by omega) (by omega)]; exact k6 q hq⟩
    by_cases e : u = v
    · rw [if_pos e, e, show t + 6 = t + 1 + 5 by omega, up_s]
    · rw [if_neg e, h0 _ _ (by omega) (by omega) (by omega) (by omega) (by omega)]; exact k5
  · have hc' : c < S.1.2 + 1 := hc
    show _ = nI (ru2 (ru2 (ru2 S.2.2.2 S.1.2 0 v) S.1.2 1 x) S.1.2 2 p c 0) ∧ _ = nI (ru2 (ru2 (ru2 S.2.2.2 S.1.2 0 v) S.1.2 1 x) S.1.2 2 p c 1) ∧ _ = nI (ru2 (ru2 (ru2 S.2.2.2 S.1.2 0 v) S.1.2 1 x) S.1.2 2 p c 2)
    by_cases e : c = S.1.2
    · subst e
      rw [up_n (by omega), up_n (by omega), up_n (by omega), up_n (by omega), show t + 8 = t + 1 + 7 by omega, up_s, ru2_n (by omega), ru2_n (by omega), ru2_s, up_n (by omega), up_n (by omega), up_n (by omega), show t + 9 = t + 1 + 8 by omega, up_s, ru2_n (by omega), ru2_s, up_n (by omega), up_n (by omega), show t + 10 = t + 1 + 9 by omega, up_s, ru2_s]
      exact ⟨rfl, rfl, rfl⟩
    · rw [up_n (by omega), up_n (by omega), up_n (by omega), up_n (by omega), up_n (by omega), up_n (by omega), up_n (by omega), up_n (by omega), up_n (by omega), up_n (by omega), up_n (by omega), up_n (by omega), up_n (by omega), up_n (by omega), up_n (by omega), ru2_n (by omega), ru2_n (by omega), ru2_n (by omega), ru2_n (by omega), ru2_n (by omega), ru2_n (by omega), ru2_n (by omega), ru2_n (by omega), ru2_n (by omega)]
      exact h8 c (by omega)
section XTnR
variable {Γ : Gm} {l : Launch} {b : Bool} {d : Nat} {I : Iv} {E : Ev} {kr : Kr} {kx : Kxx} {T : Nat → Int32} {n a t : Nat} {S : Tn}
theorem x_partsLeft {v : Nat} (hA : TnA (shB b) E t) (hX : XTn I t S) (hv : v < 9) (hp : pfS S v + vz S v 2 ≤ 8) (h : kr (some (.int (nI (8 - (pfS S v + vz S v 2))))) I E) : Ex Γ l (shB b) (d + 1) (0, 0) mTn_partsLeft [.ref t, .int (nI v)] I E kr kx := by
  refine ex_of (ls0 := [some (.ref t), some (.int (nI v))]) tTn_partsLeft (by decide +kernel) kTn_partsLeft rfl (Nat.le_of_ble_eq_true rfl) rfl ?_
  intro go hgo
  obtain ⟨ht, hj⟩ := hA
  obtain ⟨r5, t5, l5⟩ := hj 5 (by decide)
  obtain ⟨r2, t2, l2⟩ := hj 2 (by decide)
  have e1 : I (t + 1 + 5) v = nI (pfS S v) := (hX.2.2.2.2.2.2.1 v hv).2.2.2.2.1
  have e2 : I (t + 1 + 2) v = nI (vz S v 2) := (hX.2.2.2.2.2.2.1 v hv).2.1
  have v9 : v < tnN 5 := hv
  have v9' : v < tnN 2 := hv
  refine hgo 20 [] 0 _ _ _ _ _ ?_
  simp only [ixr_of, run_s, run_0, rTn_partsLeft, rok_i, rok_z, bx_cons, bx_nil, eBP, eGR, eIALD, eLA0, eLI1, eRI, eSUB, fTn_partsLeft_0, bTn_partsLeft_0, Option.toList_some, Option.toList_none, List.cons_append, List.nil_append, List.length_cons, List.length_nil, List.mem_cons, List.not_mem_nil, or_false, false_or, or_true, true_or, ↓reduceIte, true_and, and_true, Nat.reduceEqDiff, Nat.reduceAdd, Nat.reduceLeDiff, Nat.reduceLT, dl_i, dl_r, dl_n, dl_u, eq_self, not_true_eq_false, not_false_eq_true, n10, n01, nm0, n0m, ht, r5, t5, l5, r2, t2, l2, imp_t, imp_f]
  refine ixr_n v9 (ixr_n v9' ?_)
  rw [e1, e2, nI_sb (by omega), nI_sb (by omega), Nat.sub_sub]
  exact h
theorem x_allBits {sh : Sh} {nV : Nat} (hA : TnA sh E t) (hX : I t 10 = nI nV) (h9 : nV ≤ 9) (h : kr (some (.int (nI (2 ^ nV - 1)))) I E) : Ex Γ l sh (d + 1) (0, 0) mTn_allBits [.ref t] I E kr kx := by
  refine ex_of (ls0 := [some (.ref t)]) tTn_allBits (by decide +kernel) kTn_allBits rfl (Nat.le_of_ble_eq_true rfl) rfl ?_
  intro go hgo
  have ht := hA.1
  refine hgo 20 [] 0 _ _ _ _ _ ?_
  simp only [ixr_of, run_s, run_0, rTn_allBits, rok_i, rok_z, bx_cons, bx_nil, eC1, eGI, eLA0, eRI, eSHL, eSUB, fTn_allBits_0, bTn_allBits_0, Option.toList_some, Option.toList_none, List.cons_append, List.nil_append, List.length_cons, List.length_nil, List.mem_cons, List.not_mem_nil, or_false, false_or, or_true, true_or, ↓reduceIte, true_and, and_true, Nat.reduceEqDiff, Nat.reduceAdd, Nat.reduceLeDiff, Nat.reduceLT, dl_i, dl_r, dl_n, dl_u, eq_self, not_true_eq_false, not_false_eq_true, n10, n01, nm0, n0m, ht, hX, imp_t, imp_f]
  have hp := p2_9 h9
  rw [shl_n h9, nI_sb (by omega)]
  exact h
theorem x_readVillage {s0 : Nat} (hA : TnA (shB b) E t) (ht3 : 3 ≤ t) (h : TS T n I a) (hX : XTn I t S) (hV : TnV S) (h4 : I 1 4 = nI s0)
    (hk : RT T n t I E (if S.1.1 = 9 then .error (3, s0) else match nuS T n (nI 0) (nI 99) a with | .error e => .error e | .ok (c, p) => .ok (c, addV S p)) kr) : Ex Γ l (shB b) (d + 3) (0, 0) mTn_readVillage [.ref t, .ref 1] I E kr kx := by
  refine ex_of (ls0 := [some (.ref t), some (.ref 1), none]) tTn_readVillage (by decide +kernel) kTn_readVillage rfl (Nat.le_of_ble_eq_true rfl) rfl ?_
  intro go hgo
  obtain ⟨ht, hj⟩ := hA
  obtain ⟨r0, t0, l0⟩ := hj 0 (by decide)
  have h9 := hV.1
  refine hgo 20 [] 0 _ _ _ _ _ ?_
  simp only [ixr_of, run_s, run_0, rTn_readVillage, rok_i, rok_z, bx_cons, bx_nil, eADD, eBP, eC0, eC1, eC3, eCV1, eCV2, eCm1, eDUPr, eGI, eGR, eIAST, jIClt, jICne, eLA0, eLA1, eLI2, ePI, eRI, eSI2, fTn_readVillage_0, fTn_readVillage_9, fTn_readVillage_15, fTn_readVillage_28, fTn_readVillage_30, bTn_readVillage_0, bTn_readVillage_9, bTn_readVillage_15, bTn_readVillage_28, bTn_readVillage_30, Option.toList_some, Option.toList_none, List.cons_append, List.nil_append, List.length_cons, List.length_nil, List.mem_cons, List.not_mem_nil, or_false, false_or, or_true, true_or, ↓reduceIte, true_and, and_true, Nat.reduceEqDiff, Nat.reduceAdd, Nat.reduceLeDiff, Nat.reduceLT, dl_i, dl_r, dl_n, dl_u, eq_self, not_true_eq_false, not_false_eq_true, n10, n01, nm0, n0m, ht, ty_xtape, hX.1, imp_t, imp_f]
  rw [nIs (by omega) (by omega)]
  refine ⟨fun q => ?_, fun q => ?_⟩
  rotate_left
  · rw [if_pos (by omega)] at hk
    rw [← tp_self h.1.2.2.2.2.1 h4]
    refine call0 (x_fails (k := 3) ?_)
    simp only [ixr_of, run_s, run_0, rTn_readVillage, rok_i, rok_z, bx_cons, bx_nil, eADD, eBP, eC0, eC1, eC3, eCV1, eCV2, eCm1, eDUPr, eGI, eGR, eIAST, jIClt, jICne, eLA0, eLA1, eLI2, ePI, eRI, eSI2, fTn_readVillage_0, fTn_readVillage_9, fTn_readVillage_15, fTn_readVillage_28, fTn_readVillage_30, bTn_readVillage_0, bTn_readVillage_9, bTn_readVillage_15, bTn_readVillage_28, bTn_readVillage_30, Option.toList_some, Option.toList_none, List.cons_append, List.nil_append, List.length_cons, List.length_nil, List.mem_cons, List.not_mem_nil, or_false, false_or, or_true, true_or, ↓reduceIte, true_and, and_true, Nat.reduceEqDiff, Nat.reduceAdd, Nat.reduceLeDiff, Nat.reduceLT, dl_i, dl_r, dl_n, dl_u, eq_self, not_true_eq_false, not_false_eq_true, n10, n01, nm0, n0m, imp_t, imp_f]
    exact hk.2 _ _ rfl Fn.tf tf_e
  rw [if_neg (by omega)] at hk
  refine call0 (x_numS h (Or.inl rfl) (by decide) (fun c p hr hp hp2 _ hc => ?_) (fun e x hr hx => ?_))
  rotate_left
  · simp only [ixr_of, run_s, run_0, rTn_readVillage, rok_i, rok_z, bx_cons, bx_nil, eADD, eBP, eC0, eC1, eC3, eCV1, eCV2, eCm1, eDUPr, eGI, eGR, eIAST, jIClt, jICne, eLA0, eLA1, eLI2, ePI, eRI, eSI2, fTn_readVillage_0, fTn_readVillage_9, fTn_readVillage_15, fTn_readVillage_28, fTn_readVillage_30, bTn_readVillage_0, bTn_readVillage_9, bTn_readVillage_15, bTn_readVillage_28, bTn_readVillage_30, Option.toList_some, Option.toList_none, List.cons_append, List.nil_append, List.length_cons, List.length_nil, List.mem_cons, List.not_mem_nil, or_false, false_or, or_true, true_or, ↓reduceIte, true_and, and_true, Nat.reduceEqDiff, Nat.reduceAdd, Nat.reduceLeDiff, Nat.reduceLT, dl_i, dl_r, dl_n, dl_u, eq_self, not_true_eq_false, not_false_eq_true, n10, n01, nm0, n0m, imp_t, imp_f]
    rw [hr] at hk
    exact hk.2 _ _ rfl Fn.tf tf_e
  rw [hr] at hk
  have hp99 : p ≤ 99 := (nI_leI (by omega) (by decide)).mp hp2
  have e1 : tp I c (sk T n a) t 10 = nI S.1.1 := by rw [tp_o (by omega)]; exact hX.1
  have e2 : ∀ z, up (tp I c (sk T n a)) (t + 1 + 0) S.1.1 z t 10 = nI S.1.1 := fun z => by rw [up_n (by omega), e1]
  have v9 : S.1.1 < tnN 0 := q
  have np := nI_nm (p := p) (by omega)
  simp only [ixr_of, run_s, run_0, rTn_readVillage, rok_i, rok_z, bx_cons, bx_nil, eADD, eBP, eC0, eC1, eC3, eCV1, eCV2, eCm1, eDUPr, eGI, eGR, eIAST, jIClt, jICne, eLA0, eLA1, eLI2, ePI, eRI, eSI2, fTn_readVillage_0, fTn_readVillage_9, fTn_readVillage_15, fTn_readVillage_28, fTn_readVillage_30, bTn_readVillage_0, bTn_readVillage_9, bTn_readVillage_15, bTn_readVillage_28, bTn_readVillage_30, Option.toList_some, Option.toList_none, List.cons_append, List.nil_append, List.length_cons, List.length_nil, List.mem_cons, List.not_mem_nil, or_false, false_or, or_true, true_or, ↓reduceIte, true_and, and_true, Nat.reduceEqDiff, Nat.reduceAdd, Nat.reduceLeDiff, Nat.reduceLT, dl_i, dl_r, dl_n, dl_u, eq_self, not_true_eq_false, not_false_eq_true, n10, n01, nm0, n0m, ht, r0, t0, l0, e1, v9, e2, np, nI_add, imp_t, imp_f]
  refine ixr_n v9 ?_
  rw [e2, nI_add]
  refine hk.1 _ _ _ rfl ((Fn.tp.tr (Fn.up (by omega) ht3)).tr (Fn.up (by omega) ht3)) ((TS.tp (s := sk T n a) h hc).mvo ?_ ?_) (xtn_addV (hX.tp ht3))
  · funext y; rw [up_n (by omega), up_n (by omega)]
  · funext y; rw [up_n (by omega), up_n (by omega)]
end XTnR
