/-! the days of the class and the model's row: all that is put -/
section Puu
variable {nV v : Nat} {fr pn : Nat → Int32}
theorem p9h_s {r : Nat → Int32} {h : Nat} (hv : v < 9) (hh : h < 3) : p9h pn v (h + 1) r = ru (ru (ru (p9h pn v h r) (9 + 27 * v + 9 * h + v) (p9h pn v h r (9 + 27 * v + 9 * h + v) + pn (3 * v + h))) (441 + 3 * v + h) (p9h pn v h r (441 + 3 * v + h) + pn (3 * v + h))) (432 + v) (p9h pn v h r (432 + v) + pn (3 * v + h)) := by
  show ru (ru (ru (p9h pn v h r) _ _) (441 + 3 * v + h) (ru (p9h pn v h r) (9 + 27 * v + 9 * h + v) _ (441 + 3 * v + h) + pn (3 * v + h))) (432 + v) (ru (ru (p9h pn v h r) (9 + 27 * v + 9 * h + v) _) (441 + 3 * v + h) _ (432 + v) + pn (3 * v + h)) = _
  rw [ru_n (show 441 + 3 * v + h ≠ 9 + 27 * v + 9 * h + v by omega), ru_n (show 432 + v ≠ 441 + 3 * v + h by omega), ru_n (show 432 + v ≠ 9 + 27 * v + 9 * h + v by omega)]
theorem af_V {q : T3} {r : Nat → Int32} (h9 : nV ≤ 9) (hv : v < nV) (hp : ∀ h, h < 3 → fr (v * 3 + h) = pn (3 * v + h)) (h0 : AfR q r nV) : AfR (afV fr nV v q) (p9h pn v 3 (ru r (432 + v) (nI 0))) nV := by
  unfold afV
  rw [p9h_s (by omega) (by decide)]
  refine af_1 h9 hv (by decide) (hp 2 (by decide)) ?_
  rw [p9h_s (by omega) (by decide)]
  refine af_1 h9 hv (by decide) (hp 1 (by decide)) ?_
  rw [p9h_s (by omega) (by decide)]
  refine af_1 h9 hv (by decide) (hp 0 (by decide)) ?_
  obtain ⟨hB, hP, hL⟩ := h0
  refine ⟨hB.far h9 (by omega), fun x b hx hb => ?_, fun x hx => ?_⟩
  · show q.2.1 _ = ru r _ _ _
    rw [ru_n (by omega)]
    exact hP x b hx hb
  · show ru q.2.2 v _ x = ru r (432 + v) _ (432 + x)
    by_cases e : x = v
    · rw [e, ru_s, ru_s]
    · rw [ru_n e, ru_n (by omega)]
      exact hL x hx
theorem af_p9 {q : T3} {r : Nat → Int32} (h9 : nV ≤ 9) (hp : ∀ v h, v < nV → h < 3 → fr (v * 3 + h) = pn (3 * v + h)) (h0 : AfR q r nV) : ∀ v, v ≤ nV → AfR (afR fr nV v q) (p9 pn v r) nV
  | 0, _ => h0
  | v + 1, hv => af_V h9 (by omega) (fun h hh => hp v h (by omega) hh) (af_p9 h9 hp h0 v (by omega))
end Puu
