/-! what the class's villages put, closed -/
def cuT (pv : Pt → Int32) (h : Nat) (o : Option Pt) : Int32 := match o with
  | none => nI 0
  | some x => if x.1 = h then pv x else nI 0
theorem cuA_c {pv : Pt → Int32} {h : Nat} : ∀ (ps : List Pt) (r : Nat → Int32), cuA pv ps r h = r h + smI (fun p => cuT pv h ps[p]?) ps.length
  | [], r => (Int32.add_zero _).symm
  | x :: ps, r => by
    show cuA pv ps (ru r x.1 (r x.1 + pv x)) h = _
    rw [cuA_c ps, List.length_cons, Nat.add_comm, smI_app]
    have e1 : smI (fun p => cuT pv h (x :: ps)[p]?) 1 = cuT pv h (some x) := by
      show nI 0 + cuT pv h (some x) = _
      rw [nI_zero, Int32.zero_add]
    have e2 : smI (fun k => cuT pv h (x :: ps)[1 + k]?) ps.length = smI (fun p => cuT pv h ps[p]?) ps.length := smI_c _ (fun k _ => by rw [Nat.add_comm 1 k, List.getElem?_cons_succ])
    rw [e1, e2]
    unfold cuT
    dsimp only
    by_cases q : x.1 = h
    · rw [if_pos q, ← q, ru_s]
      grind
    · rw [if_neg q, ru_n (fun z => q z.symm), nI_zero]
      grind
