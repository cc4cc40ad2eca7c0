/-! answers' types of HerbWatersModel's methods; by program -/
theorem run_0 {tb : Tb} {κ : Kt} {ct : List Nat} {pc : Nat} {ls : Lv} {st : List Value} {I : Iv} {E : Ev} {u : Uv} : run tb κ ct 0 pc ls st I E u = κ.1 pc ls st I E u := rfl
theorem run_s {tb : Tb} {κ : Kt} {ct : List Nat} {n pc : Nat} {ls : Lv} {st : List Value} {I : Iv} {E : Ev} {u : Uv} : run tb κ ct (n + 1) pc ls st I E u = (if pc ∈ ct then κ.1 pc ls st I E u else match tbf tb pc with
    | some b => bx (run tb κ ct n, κ.2) b.1 b.2 ls st I E u
    | none => κ.1 pc ls st I E u) := rfl
theorem rM_tellsNothing : mM_tellsNothing.2.2.2 = none := rfl
theorem rM_thrown : mM_thrown.2.2.2 = some .int := rfl
theorem rM_bad : mM_bad.2.2.2 = some .boolean := rfl
theorem rM_in : mM_in.2.2.2 = some .boolean := rfl
theorem rM_less : mM_less.2.2.2 = some .int := rfl
theorem rM_feed : mM_feed.2.2.2 = some .int := rfl
theorem rM_byteAt : mM_byteAt.2.2.2 = some .int := rfl
theorem rM_blanks : mM_blanks.2.2.2 = none := rfl
theorem rM_wrong : mM_wrong.2.2.2 = none := rfl
theorem rM_isDigit : mM_isDigit.2.2.2 = some .boolean := rfl
theorem rM_isSmall : mM_isSmall.2.2.2 = some .boolean := rfl
theorem rM_number : mM_number.2.2.2 = some .int := rfl
theorem rM_wordHere : mM_wordHere.2.2.2 = some .long := rfl
theorem rM_seven : mM_seven.2.2.2 = some .long := rfl
theorem rM_isWord : mM_isWord.2.2.2 = some .boolean := rfl
theorem rM_skipWord : mM_skipWord.2.2.2 = none := rfl
theorem rM_takes : mM_takes.2.2.2 = some .boolean := rfl
theorem rM_sign : mM_sign.2.2.2 = none := rfl
theorem rM_takesSign : mM_takesSign.2.2.2 = some .boolean := rfl
theorem rM_starts : mM_starts.2.2.2 = none := rfl
theorem rM_kindHere : mM_kindHere.2.2.2 = some .int := rfl
theorem rM_villageHere : mM_villageHere.2.2.2 = some .int := rfl
theorem rM_herbHere : mM_herbHere.2.2.2 = some .int := rfl
theorem rM_partsFrom : mM_partsFrom.2.2.2 = some .int := rfl
theorem rM_partsHere : mM_partsHere.2.2.2 = some .int := rfl
theorem rM_clause : mM_clause.2.2.2 = none := rfl
theorem rM_ofVillage : mM_ofVillage.2.2.2 = none := rfl
theorem rM_town : mM_town.2.2.2 = some .int := rfl
theorem rM_stands : mM_stands.2.2.2 = none := rfl
theorem rM_copies : mM_copies.2.2.2 = none := rfl
theorem rM_settles : mM_settles.2.2.2 = none := rfl
theorem rM_says : mM_says.2.2.2 = none := rfl
theorem rM_opens : mM_opens.2.2.2 = some .boolean := rfl
theorem rM_anyOf : mM_anyOf.2.2.2 = none := rfl
theorem rM_eachOf : mM_eachOf.2.2.2 = none := rfl
theorem rM_oneOf : mM_oneOf.2.2.2 = none := rfl
theorem rM_sum : mM_sum.2.2.2 = none := rfl
theorem rM_product : mM_product.2.2.2 = none := rfl
theorem rM_value : mM_value.2.2.2 = none := rfl
theorem rM_partHere : mM_partHere.2.2.2 = none := rfl
theorem rM_isVillage : mM_isVillage.2.2.2 = some .boolean := rfl
theorem rM_opinion : mM_opinion.2.2.2 = some .int := rfl
theorem rM_book : mM_book.2.2.2 = some .int := rfl
theorem rM_fault : mM_fault.2.2.2 = some .int := rfl
theorem rM_by : mM_by.2.2.2 = some .int := rfl
theorem rM_worth : mM_worth.2.2.2 = some .int := rfl
theorem rM_puts : mM_puts.2.2.2 = some .int := rfl
theorem rM_thinks : mM_thinks.2.2.2 = some .int := rfl
theorem rM_asNow : mM_asNow.2.2.2 = none := rfl
theorem rM_fromBegin : mM_fromBegin.2.2.2 = none := rfl
theorem rM_flows : mM_flows.2.2.2 = none := rfl
theorem rM_herbAt : mM_herbAt.2.2.2 = some .int := rfl
theorem rM_herbsOf : mM_herbsOf.2.2.2 = some .int := rfl
theorem rM_strains : mM_strains.2.2.2 = none := rfl
theorem rM_knows : mM_knows.2.2.2 = none := rfl
theorem rM_steps : mM_steps.2.2.2 = none := rfl
theorem rM_viewOf : mM_viewOf.2.2.2 = some .int := rfl
theorem rM_told : mM_told.2.2.2 = some .int := rfl
theorem rM_staying : mM_staying.2.2.2 = some .int := rfl
theorem rM_basin : mM_basin.2.2.2 = some .int := rfl
theorem rM_village : mM_village.2.2.2 = some .int := rfl
theorem rM_led : mM_led.2.2.2 = some .int := rfl
theorem rM_days : mM_days.2.2.2 = some .int := rfl
theorem rM_undo : mM_undo.2.2.2 = some .int := rfl
theorem rM_tap : mM_tap.2.2.2 = some .int := rfl
theorem rM_sums : mM_sums.2.2.2 = some .int := rfl
theorem rM_put : mM_put.2.2.2 = some .int := rfl
theorem rM_goesOn : mM_goesOn.2.2.2 = none := rfl
theorem rM_view : mM_view.2.2.2 = some .int := rfl
theorem rM_ahead : mM_ahead.2.2.2 = some .int := rfl
theorem rM_when : mM_when.2.2.2 = some .int := rfl
theorem rM_areVillages : mM_areVillages.2.2.2 = some .boolean := rfl
theorem rM_please : mM_please.2.2.2 = some .int := rfl
theorem rM_contrary : mM_contrary.2.2.2 = some .int := rfl
theorem rM_ones : mM_ones.2.2.2 = some .int := rfl
theorem rM_whomBy : mM_whomBy.2.2.2 = some .int := rfl
theorem rM_whom : mM_whom.2.2.2 = some .int := rfl
theorem rM_feast : mM_feast.2.2.2 = some .int := rfl
theorem rM_filters : mM_filters.2.2.2 = some .int := rfl
theorem rM_rightBy : mM_rightBy.2.2.2 = some .int := rfl
theorem rM_minds : mM_minds.2.2.2 = some .int := rfl
theorem rM_right : mM_right.2.2.2 = some .int := rfl
theorem rM_tasteOf : mM_tasteOf.2.2.2 = some .int := rfl
theorem rM_tasted : mM_tasted.2.2.2 = some .int := rfl
theorem rM_where : mM_where.2.2.2 = some .int := rfl
theorem rM_isAs : mM_isAs.2.2.2 = some .boolean := rfl
theorem rM_round : mM_round.2.2.2 = some .int := rfl
theorem rM_grade : mM_grade.2.2.2 = some .int := rfl
theorem rM_lossBy : mM_lossBy.2.2.2 = some .int := rfl
theorem rM_wishOf : mM_wishOf.2.2.2 = some .int := rfl
theorem rM_loss : mM_loss.2.2.2 = some .int := rfl
theorem rM_areGrades : mM_areGrades.2.2.2 = some .boolean := rfl
theorem rM_restBy : mM_restBy.2.2.2 = some .int := rfl
theorem rM_rest : mM_rest.2.2.2 = some .int := rfl
theorem rM_droughtBy : mM_droughtBy.2.2.2 = some .int := rfl
theorem rM_drought : mM_drought.2.2.2 = some .int := rfl
theorem rM_span : mM_span.2.2.2 = some .int := rfl
theorem rM_image : mM_image.2.2.2 = some .int := rfl
theorem rM_restore : mM_restore.2.2.2 = some .int := rfl
theorem rM_status : mM_status.2.2.2 = some .int := rfl
theorem rM_count : mM_count.2.2.2 = some .int := rfl
/-- an implication that simp takes by its head alone -/
def imp (c p : Prop) : Prop := c → p
theorem imp_t {p : Prop} : imp True p = p := propext ⟨fun h => h trivial, fun h _ => h⟩
theorem imp_f {p : Prop} : imp False p = True := propext ⟨fun _ => trivial, fun _ h => h.elim⟩
theorem jIFeq {κ : Kt} {ls : Lv} {r : List Value} {I : Iv} {E : Ev} {u : Uv} {k : Lv → List Value → Iv → Ev → Uv → Prop} {off : Int} {t : Nat} {x : Int32} : (iIFeq off t).1 κ ls (.int x :: r) I E u k = (imp (x = nI 0) (κ.1 t ls r I E u) ∧ imp (¬ x = nI 0) (k ls r I E u)) := rfl
theorem jIFne {κ : Kt} {ls : Lv} {r : List Value} {I : Iv} {E : Ev} {u : Uv} {k : Lv → List Value → Iv → Ev → Uv → Prop} {off : Int} {t : Nat} {x : Int32} : (iIFne off t).1 κ ls (.int x :: r) I E u k = (imp (¬ x = nI 0) (κ.1 t ls r I E u) ∧ imp (x = nI 0) (k ls r I E u)) := rfl
theorem jIFlt {κ : Kt} {ls : Lv} {r : List Value} {I : Iv} {E : Ev} {u : Uv} {k : Lv → List Value → Iv → Ev → Uv → Prop} {off : Int} {t : Nat} {x : Int32} : (iIFlt off t).1 κ ls (.int x :: r) I E u k = (imp (x < nI 0) (κ.1 t ls r I E u) ∧ imp (¬ x < nI 0) (k ls r I E u)) := rfl
theorem jIFge {κ : Kt} {ls : Lv} {r : List Value} {I : Iv} {E : Ev} {u : Uv} {k : Lv → List Value → Iv → Ev → Uv → Prop} {off : Int} {t : Nat} {x : Int32} : (iIFge off t).1 κ ls (.int x :: r) I E u k = (imp (nI 0 ≤ x) (κ.1 t ls r I E u) ∧ imp (¬ nI 0 ≤ x) (k ls r I E u)) := rfl
theorem jIFgt {κ : Kt} {ls : Lv} {r : List Value} {I : Iv} {E : Ev} {u : Uv} {k : Lv → List Value → Iv → Ev → Uv → Prop} {off : Int} {t : Nat} {x : Int32} : (iIFgt off t).1 κ ls (.int x :: r) I E u k = (imp (nI 0 < x) (κ.1 t ls r I E u) ∧ imp (¬ nI 0 < x) (k ls r I E u)) := rfl
theorem jIFle {κ : Kt} {ls : Lv} {r : List Value} {I : Iv} {E : Ev} {u : Uv} {k : Lv → List Value → Iv → Ev → Uv → Prop} {off : Int} {t : Nat} {x : Int32} : (iIFle off t).1 κ ls (.int x :: r) I E u k = (imp (x ≤ nI 0) (κ.1 t ls r I E u) ∧ imp (¬ x ≤ nI 0) (k ls r I E u)) := rfl
theorem jICeq {κ : Kt} {ls : Lv} {r : List Value} {I : Iv} {E : Ev} {u : Uv} {k : Lv → List Value → Iv → Ev → Uv → Prop} {off : Int} {t : Nat} {x y : Int32} : (iICeq off t).1 κ ls (.int y :: .int x :: r) I E u k = (imp (x = y) (κ.1 t ls r I E u) ∧ imp (¬ x = y) (k ls r I E u)) := rfl
theorem jICne {κ : Kt} {ls : Lv} {r : List Value} {I : Iv} {E : Ev} {u : Uv} {k : Lv → List Value → Iv → Ev → Uv → Prop} {off : Int} {t : Nat} {x y : Int32} : (iICne off t).1 κ ls (.int y :: .int x :: r) I E u k = (imp (¬ x = y) (κ.1 t ls r I E u) ∧ imp (x = y) (k ls r I E u)) := rfl
theorem jIClt {κ : Kt} {ls : Lv} {r : List Value} {I : Iv} {E : Ev} {u : Uv} {k : Lv → List Value → Iv → Ev → Uv → Prop} {off : Int} {t : Nat} {x y : Int32} : (iIClt off t).1 κ ls (.int y :: .int x :: r) I E u k = (imp (x < y) (κ.1 t ls r I E u) ∧ imp (¬ x < y) (k ls r I E u)) := rfl
theorem jICge {κ : Kt} {ls : Lv} {r : List Value} {I : Iv} {E : Ev} {u : Uv} {k : Lv → List Value → Iv → Ev → Uv → Prop} {off : Int} {t : Nat} {x y : Int32} : (iICge off t).1 κ ls (.int y :: .int x :: r) I E u k = (imp (y ≤ x) (κ.1 t ls r I E u) ∧ imp (¬ y ≤ x) (k ls r I E u)) := rfl
theorem jICgt {κ : Kt} {ls : Lv} {r : List Value} {I : Iv} {E : Ev} {u : Uv} {k : Lv → List Value → Iv → Ev → Uv → Prop} {off : Int} {t : Nat} {x y : Int32} : (iICgt off t).1 κ ls (.int y :: .int x :: r) I E u k = (imp (y < x) (κ.1 t ls r I E u) ∧ imp (¬ y < x) (k ls r I E u)) := rfl
theorem jICle {κ : Kt} {ls : Lv} {r : List Value} {I : Iv} {E : Ev} {u : Uv} {k : Lv → List Value → Iv → Ev → Uv → Prop} {off : Int} {t : Nat} {x y : Int32} : (iICle off t).1 κ ls (.int y :: .int x :: r) I E u k = (imp (x ≤ y) (κ.1 t ls r I E u) ∧ imp (¬ x ≤ y) (k ls r I E u)) := rfl
theorem jswA_c {g : Go} {ls : Lv} {r : List Value} {I : Iv} {E : Ev} {u : Uv} {x : Int32} {i t : Nat} {ts : List Nat} : swA g ls r I E u x i (t :: ts) = (imp (x = nI i) (g t ls r I E u) ∧ swA g ls r I E u x (i + 1) ts) := rfl
theorem ixr_of {c L : Nat} {P : Nat → Prop} (h : c < L) (hL : L ≤ 2147483648) : ixr (nI c) L P = P c := by
  refine propext ⟨fun q => ?_, fun q => ⟨c, rfl, h, q⟩⟩
  obtain ⟨n, h1, h2, h3⟩ := q
  have : c = n := (nI_eq (by omega) (by omega)).mp h1
  subst this
  exact h3
