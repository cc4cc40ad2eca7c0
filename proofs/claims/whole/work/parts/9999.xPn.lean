/-! the days of the class and the model's row: what is put -/
section Pu
variable {nV v : Nat} {fr pn : Nat → Int32}
def AfR (q : T3) (r : Nat → Int32) (nV : Nat) : Prop := BR q.1 r nV ∧ (∀ v h, v < nV → h < 3 → q.2.1 (v * 3 + h) = r (441 + 3 * v + h)) ∧ ∀ v, v < nV → q.2.2 v = r (432 + v)
theorem af_1 {q : T3} {r : Nat → Int32} {h : Nat} {p : Int32} (h9 : nV ≤ 9) (hv : v < nV) (hh : h < 3) (hp : fr (v * 3 + h) = p) (h0 : AfR q r nV) : AfR (af1 fr nV v h q) (ru (ru (ru r (9 + 27 * v + 9 * h + v) (r (9 + 27 * v + 9 * h + v) + p)) (441 + 3 * v + h) (r (441 + 3 * v + h) + p)) (432 + v) (r (432 + v) + p)) nV := by
  obtain ⟨hB, hP, hL⟩ := h0
  unfold af1
  rw [hp]
  refine ⟨?_, fun x b hx hb => ?_, fun x hx => ?_⟩
  · dsimp only
    rw [hB.2 v h v hv hh hv]
    exact ((hB.uph h9 hv hh hv).far h9 (by omega)).far h9 (by omega)
  · dsimp only
    rw [ru_n (show 441 + 3 * x + b ≠ 432 + v by omega)]
    by_cases e : x * 3 + b = v * 3 + h
    · rw [e, ru_s, show 441 + 3 * x + b = 441 + 3 * v + h by omega, ru_s, hP v h hv hh]
    · rw [ru_n e, ru_n (by omega), ru_n (by omega)]
      exact hP x b hx hb
  · dsimp only
    by_cases e : x = v
    · rw [e, ru_s, ru_s, hL v hv]
    · rw [ru_n e, ru_n (by omega), ru_n (by omega), ru_n (by omega)]
      exact hL x hx
end Pu
