/-! code of the class; by program (wip/whole/gen_X.py) -/
def mH_right : Mt := (⟨"HerbWaters", "right", "()I"⟩, prog_1_method_25_code, 1, some .int)
theorem ok_H_right : Mok mH_right := ⟨gtb_mem 1078 (by decide +kernel) rfl, gtb_mem 93 (by decide +kernel) rfl, by decide +kernel, by decide⟩
theorem lH_v307 : Snd "HerbWaters" (iCV1 307 8 mTs_linesRight) := sCV1 _ rfl rfl ok_Ts_linesRight (gtb_mem 1080 (by decide +kernel) rfl) (gtb_mem 1081 (by decide +kernel) rfl) (gtb_mem 1079 (by decide +kernel) rfl)
def bH_right_0 : List Ir := [iLA0, (iGR 35 10 3), iLA0, (iGR 42 10 4), (iGI 195 2 11), (iCV1 307 8 mTs_linesRight), iRI]
def tH_right : Tb := [(0, bH_right_0, 15)]
theorem fH_right_0 : tbf tH_right 0 = some (bH_right_0, 15) := rfl
theorem kH_right_0 : Bok "HerbWaters" prog_1_method_25_code (0, bH_right_0, 15) := ⟨by decide +kernel, (List.forall_mem_cons.mpr ⟨sLA0, (List.forall_mem_cons.mpr ⟨lH_g35, (List.forall_mem_cons.mpr ⟨sLA0, (List.forall_mem_cons.mpr ⟨lH_g42, (List.forall_mem_cons.mpr ⟨lH_g195, (List.forall_mem_cons.mpr ⟨lH_v307, (List.forall_mem_cons.mpr ⟨sRI, (fun _ h => absurd h List.not_mem_nil)⟩)⟩)⟩)⟩)⟩)⟩)⟩)⟩
theorem kH_right : ∀ q ∈ tH_right, Bok "HerbWaters" prog_1_method_25_code q := (List.forall_mem_cons.mpr ⟨kH_right_0, (fun _ h => absurd h List.not_mem_nil)⟩)
theorem rH_right : mH_right.2.2.2 = some .int := rfl
def mH_where : Mt := (⟨"HerbWaters", "where", "(I)I"⟩, prog_1_method_26_code, 2, some .int)
theorem ok_H_where : Mok mH_where := ⟨gtb_mem 1584 (by decide +kernel) rfl, gtb_mem 93 (by decide +kernel) rfl, by decide +kernel, by decide⟩
theorem lH_v310 : Snd "HerbWaters" (iCV1 310 8 mTs_fewestTastes) := sCV1 _ rfl rfl ok_Ts_fewestTastes (gtb_mem 1586 (by decide +kernel) rfl) (gtb_mem 1587 (by decide +kernel) rfl) (gtb_mem 1585 (by decide +kernel) rfl)
def bH_where_0 : List Ir := [iLA0, iLI1, iC1, (iBP 60), (iCV3 118 10 mH_needIn), iLA0, (iGR 35 10 3), iLI1, (iCV1 310 8 mTs_fewestTastes), iRI]
def tH_where : Tb := [(0, bH_where_0, 17)]
theorem fH_where_0 : tbf tH_where 0 = some (bH_where_0, 17) := rfl
theorem kH_where_0 : Bok "HerbWaters" prog_1_method_26_code (0, bH_where_0, 17) := ⟨by decide +kernel, (List.forall_mem_cons.mpr ⟨sLA0, (List.forall_mem_cons.mpr ⟨sLI1, (List.forall_mem_cons.mpr ⟨sC1, (List.forall_mem_cons.mpr ⟨sBP, (List.forall_mem_cons.mpr ⟨lH_v118, (List.forall_mem_cons.mpr ⟨sLA0, (List.forall_mem_cons.mpr ⟨lH_g35, (List.forall_mem_cons.mpr ⟨sLI1, (List.forall_mem_cons.mpr ⟨lH_v310, (List.forall_mem_cons.mpr ⟨sRI, (fun _ h => absurd h List.not_mem_nil)⟩)⟩)⟩)⟩)⟩)⟩)⟩)⟩)⟩)⟩)⟩
theorem kH_where : ∀ q ∈ tH_where, Bok "HerbWaters" prog_1_method_26_code q := (List.forall_mem_cons.mpr ⟨kH_where_0, (fun _ h => absurd h List.not_mem_nil)⟩)
theorem rH_where : mH_where.2.2.2 = some .int := rfl
def mH_tasted : Mt := (⟨"HerbWaters", "tasted", "(II)I"⟩, prog_1_method_27_code, 3, some .int)
theorem ok_H_tasted : Mok mH_tasted := ⟨gtb_mem 1604 (by decide +kernel) rfl, gtb_mem 93 (by decide +kernel) rfl, by decide +kernel, by decide⟩
theorem lH_v313 : Snd "HerbWaters" (iCV2 313 8 mTs_basinsOf) := sCV2 _ rfl rfl ok_Ts_basinsOf (gtb_mem 1590 (by decide +kernel) rfl) (gtb_mem 1591 (by decide +kernel) rfl) (gtb_mem 1605 (by decide +kernel) rfl)
def bH_tasted_0 : List Ir := [iLA0, iLI1, (iCV1 150 10 mH_needVillage), iLA0, iLI2, iC1, (iBP 60), (iCV3 118 10 mH_needIn), iLA0, (iGR 35 10 3), iLI1, iLI2, (iCV2 313 8 mTs_basinsOf), iRI]
def tH_tasted : Tb := [(0, bH_tasted_0, 23)]
theorem fH_tasted_0 : tbf tH_tasted 0 = some (bH_tasted_0, 23) := rfl
theorem kH_tasted_0 : Bok "HerbWaters" prog_1_method_27_code (0, bH_tasted_0, 23) := ⟨by decide +kernel, (List.forall_mem_cons.mpr ⟨sLA0, (List.forall_mem_cons.mpr ⟨sLI1, (List.forall_mem_cons.mpr ⟨lH_v150, (List.forall_mem_cons.mpr ⟨sLA0, (List.forall_mem_cons.mpr ⟨sLI2, (List.forall_mem_cons.mpr ⟨sC1, (List.forall_mem_cons.mpr ⟨sBP, (List.forall_mem_cons.mpr ⟨lH_v118, (List.forall_mem_cons.mpr ⟨sLA0, (List.forall_mem_cons.mpr ⟨lH_g35, (List.forall_mem_cons.mpr ⟨sLI1, (List.forall_mem_cons.mpr ⟨sLI2, (List.forall_mem_cons.mpr ⟨lH_v313, (List.forall_mem_cons.mpr ⟨sRI, (fun _ h => absurd h List.not_mem_nil)⟩)⟩)⟩)⟩)⟩)⟩)⟩)⟩)⟩)⟩)⟩)⟩)⟩)⟩)⟩
theorem kH_tasted : ∀ q ∈ tH_tasted, Bok "HerbWaters" prog_1_method_27_code q := (List.forall_mem_cons.mpr ⟨kH_tasted_0, (fun _ h => absurd h List.not_mem_nil)⟩)
theorem rH_tasted : mH_tasted.2.2.2 = some .int := rfl
def mH_round : Mt := (⟨"HerbWaters", "round", "(I)I"⟩, prog_1_method_28_code, 2, some .int)
theorem ok_H_round : Mok mH_round := ⟨gtb_mem 1612 (by decide +kernel) rfl, gtb_mem 93 (by decide +kernel) rfl, by decide +kernel, by decide⟩
theorem lH_v316 : Snd "HerbWaters" (iCV1 316 4 mFo_findRound) := sCV1 _ rfl rfl ok_Fo_findRound (gtb_mem 1614 (by decide +kernel) rfl) (gtb_mem 1615 (by decide +kernel) rfl) (gtb_mem 1613 (by decide +kernel) rfl)
theorem lH_g319 : Snd "HerbWaters" (iGI 319 4 4) := sGIN _ rfl "HerbWaters" (List.mem_filter.mpr ⟨List.mem_of_getElem? (i := 413) (by decide +kernel), rfl⟩)
theorem lH_g322 : Snd "HerbWaters" (iGI 322 4 5) := sGIN _ rfl "HerbWaters" (List.mem_filter.mpr ⟨List.mem_of_getElem? (i := 415) (by decide +kernel), rfl⟩)
def bH_round_0 : List Ir := [iLA0, iLI1, iC0, iC1, (iCV3 118 10 mH_needIn), iLA0, (iGR 28 10 2), iLA0, (iGR 42 10 4), (iCV1 316 4 mFo_findRound), iLI1, (iIFne (13) 32)]
def bH_round_22 : List Ir := [iLA0, (iGR 28 10 2), (iGI 319 4 4), (iGO (10) 39)]
def bH_round_32 : List Ir := [iLA0, (iGR 28 10 2), (iGI 322 4 5)]
def bH_round_39 : List Ir := [iRI]
def tH_round : Tb := [(0, bH_round_0, 22), (22, bH_round_22, 32), (32, bH_round_32, 39), (39, bH_round_39, 40)]
theorem fH_round_0 : tbf tH_round 0 = some (bH_round_0, 22) := rfl
theorem fH_round_22 : tbf tH_round 22 = some (bH_round_22, 32) := rfl
theorem fH_round_32 : tbf tH_round 32 = some (bH_round_32, 39) := rfl
theorem fH_round_39 : tbf tH_round 39 = some (bH_round_39, 40) := rfl
theorem kH_round_0 : Bok "HerbWaters" prog_1_method_28_code (0, bH_round_0, 22) := ⟨by decide +kernel, (List.forall_mem_cons.mpr ⟨sLA0, (List.forall_mem_cons.mpr ⟨sLI1, (List.forall_mem_cons.mpr ⟨sC0, (List.forall_mem_cons.mpr ⟨sC1, (List.forall_mem_cons.mpr ⟨lH_v118, (List.forall_mem_cons.mpr ⟨sLA0, (List.forall_mem_cons.mpr ⟨lH_g28, (List.forall_mem_cons.mpr ⟨sLA0, (List.forall_mem_cons.mpr ⟨lH_g42, (List.forall_mem_cons.mpr ⟨lH_v316, (List.forall_mem_cons.mpr ⟨sLI1, (List.forall_mem_cons.mpr ⟨sIFne, (fun _ h => absurd h List.not_mem_nil)⟩)⟩)⟩)⟩)⟩)⟩)⟩)⟩)⟩)⟩)⟩)⟩)⟩
theorem kH_round_22 : Bok "HerbWaters" prog_1_method_28_code (22, bH_round_22, 32) := ⟨by decide +kernel, (List.forall_mem_cons.mpr ⟨sLA0, (List.forall_mem_cons.mpr ⟨lH_g28, (List.forall_mem_cons.mpr ⟨lH_g319, (List.forall_mem_cons.mpr ⟨sGO, (fun _ h => absurd h List.not_mem_nil)⟩)⟩)⟩)⟩)⟩
theorem kH_round_32 : Bok "HerbWaters" prog_1_method_28_code (32, bH_round_32, 39) := ⟨by decide +kernel, (List.forall_mem_cons.mpr ⟨sLA0, (List.forall_mem_cons.mpr ⟨lH_g28, (List.forall_mem_cons.mpr ⟨lH_g322, (fun _ h => absurd h List.not_mem_nil)⟩)⟩)⟩)⟩
theorem kH_round_39 : Bok "HerbWaters" prog_1_method_28_code (39, bH_round_39, 40) := ⟨by decide +kernel, (List.forall_mem_cons.mpr ⟨sRI, (fun _ h => absurd h List.not_mem_nil)⟩)⟩
theorem kH_round : ∀ q ∈ tH_round, Bok "HerbWaters" prog_1_method_28_code q := (List.forall_mem_cons.mpr ⟨kH_round_0, (List.forall_mem_cons.mpr ⟨kH_round_22, (List.forall_mem_cons.mpr ⟨kH_round_32, (List.forall_mem_cons.mpr ⟨kH_round_39, (fun _ h => absurd h List.not_mem_nil)⟩)⟩)⟩)⟩)
theorem rH_round : mH_round.2.2.2 = some .int := rfl
def mH_grade : Mt := (⟨"HerbWaters", "grade", "(II)I"⟩, prog_1_method_29_code, 4, some .int)
theorem ok_H_grade : Mok mH_grade := ⟨gtb_mem 1638 (by decide +kernel) rfl, gtb_mem 93 (by decide +kernel) rfl, by decide +kernel, by decide⟩
def bH_grade_0 : List Ir := [iLA0, iLI1, (iCV1 150 10 mH_needVillage), iLA0, iLI2, iC0, iC3, (iCV3 118 10 mH_needIn), iLA0, (iGR 42 10 4), (iGR 217 2 5), iLI1, iIALD, iSI3, iLA0, (iGR 42 10 4), (iGR 217 2 5), iLI1, iLI2, iIAST, iLA0, (iGR 49 10 5), iLA0, (iGR 42 10 4), (iCV1 108 3 mDi_begin), iLI3, iRI]
def tH_grade : Tb := [(0, bH_grade_0, 45)]
theorem fH_grade_0 : tbf tH_grade 0 = some (bH_grade_0, 45) := rfl
theorem kH_grade_0 : Bok "HerbWaters" prog_1_method_29_code (0, bH_grade_0, 45) := ⟨by decide +kernel, (List.forall_mem_cons.mpr ⟨sLA0, (List.forall_mem_cons.mpr ⟨sLI1, (List.forall_mem_cons.mpr ⟨lH_v150, (List.forall_mem_cons.mpr ⟨sLA0, (List.forall_mem_cons.mpr ⟨sLI2, (List.forall_mem_cons.mpr ⟨sC0, (List.forall_mem_cons.mpr ⟨sC3, (List.forall_mem_cons.mpr ⟨lH_v118, (List.forall_mem_cons.mpr ⟨sLA0, (List.forall_mem_cons.mpr ⟨lH_g42, (List.forall_mem_cons.mpr ⟨lH_g217, (List.forall_mem_cons.mpr ⟨sLI1, (List.forall_mem_cons.mpr ⟨sIALD, (List.forall_mem_cons.mpr ⟨sSI3, (List.forall_mem_cons.mpr ⟨sLA0, (List.forall_mem_cons.mpr ⟨lH_g42, (List.forall_mem_cons.mpr ⟨lH_g217, (List.forall_mem_cons.mpr ⟨sLI1, (List.forall_mem_cons.mpr ⟨sLI2, (List.forall_mem_cons.mpr ⟨sIAST, (List.forall_mem_cons.mpr ⟨sLA0, (List.forall_mem_cons.mpr ⟨lH_g49, (List.forall_mem_cons.mpr ⟨sLA0, (List.forall_mem_cons.mpr ⟨lH_g42, (List.forall_mem_cons.mpr ⟨lH_v108, (List.forall_mem_cons.mpr ⟨sLI3, (List.forall_mem_cons.mpr ⟨sRI, (fun _ h => absurd h List.not_mem_nil)⟩)⟩)⟩)⟩)⟩)⟩)⟩)⟩)⟩)⟩)⟩)⟩)⟩)⟩)⟩)⟩)⟩)⟩)⟩)⟩)⟩)⟩)⟩)⟩)⟩)⟩)⟩)⟩
theorem kH_grade : ∀ q ∈ tH_grade, Bok "HerbWaters" prog_1_method_29_code q := (List.forall_mem_cons.mpr ⟨kH_grade_0, (fun _ h => absurd h List.not_mem_nil)⟩)
theorem rH_grade : mH_grade.2.2.2 = some .int := rfl
def mH_loss : Mt := (⟨"HerbWaters", "loss", "(IIII)I"⟩, prog_1_method_30_code, 5, some .int)
theorem ok_H_loss : Mok mH_loss := ⟨gtb_mem 1645 (by decide +kernel) rfl, gtb_mem 93 (by decide +kernel) rfl, by decide +kernel, by decide⟩
def mH_needGame : Mt := (⟨"HerbWaters", "needGame", "(II)V"⟩, prog_1_method_41_code, 3, none)
theorem ok_H_needGame : Mok mH_needGame := ⟨gtb_mem 1649 (by decide +kernel) rfl, gtb_mem 93 (by decide +kernel) rfl, by decide +kernel, by decide⟩
theorem lH_v325 : Snd "HerbWaters" (iCV2 325 10 mH_needGame) := sCV2 _ rfl rfl ok_H_needGame (gtb_mem 1648 (by decide +kernel) rfl) (gtb_mem 38 (by decide +kernel) rfl) (gtb_mem 1646 (by decide +kernel) rfl)
theorem lH_k329 : Snd "HerbWaters" (iLDCW 329 2147483647) := sLDCW (gtb_mem 1650 (by decide +kernel) rfl)
theorem lH_v330 : Snd "HerbWaters" (iCV6 330 4 mFo_lossWith) := sCV6 _ rfl rfl ok_Fo_lossWith (gtb_mem 1652 (by decide +kernel) rfl) (gtb_mem 1653 (by decide +kernel) rfl) (gtb_mem 1651 (by decide +kernel) rfl)
theorem lH_v334 : Snd "HerbWaters" (iCV4 334 4 mFo_wishOf) := sCV4 _ rfl rfl ok_Fo_wishOf (gtb_mem 1657 (by decide +kernel) rfl) (gtb_mem 1658 (by decide +kernel) rfl) (gtb_mem 1656 (by decide +kernel) rfl)
def bH_loss_0 : List Ir := [iLA0, iLI1, (iCV1 150 10 mH_needVillage), iLA0, iLI2, iLI3, (iCV2 325 10 mH_needGame), iLA0, iLI4, iC0, iC1, (iCV3 118 10 mH_needIn), iLI4, (iIFne (30) 51)]
def bH_loss_24 : List Ir := [iLA0, (iGR 28 10 2), iLA0, (iGR 42 10 4), iLI1, iLA0, (iGR 42 10 4), (iGR 217 2 5), iLI1, iIALD, iLI2, iLI3, (iLDCW 329 2147483647), (iCV6 330 4 mFo_lossWith), iRI]
def bH_loss_51 : List Ir := [iLA0, (iGR 28 10 2), iLA0, (iGR 42 10 4), iLI1, iLI2, iLI3, (iCV4 334 4 mFo_wishOf), iRI]
def tH_loss : Tb := [(0, bH_loss_0, 24), (24, bH_loss_24, 51), (51, bH_loss_51, 66)]
theorem fH_loss_0 : tbf tH_loss 0 = some (bH_loss_0, 24) := rfl
theorem fH_loss_24 : tbf tH_loss 24 = some (bH_loss_24, 51) := rfl
theorem fH_loss_51 : tbf tH_loss 51 = some (bH_loss_51, 66) := rfl
theorem kH_loss_0 : Bok "HerbWaters" prog_1_method_30_code (0, bH_loss_0, 24) := ⟨by decide +kernel, (List.forall_mem_cons.mpr ⟨sLA0, (List.forall_mem_cons.mpr ⟨sLI1, (List.forall_mem_cons.mpr ⟨lH_v150, (List.forall_mem_cons.mpr ⟨sLA0, (List.forall_mem_cons.mpr ⟨sLI2, (List.forall_mem_cons.mpr ⟨sLI3, (List.forall_mem_cons.mpr ⟨lH_v325, (List.forall_mem_cons.mpr ⟨sLA0, (List.forall_mem_cons.mpr ⟨sLI4, (List.forall_mem_cons.mpr ⟨sC0, (List.forall_mem_cons.mpr ⟨sC1, (List.forall_mem_cons.mpr ⟨lH_v118, (List.forall_mem_cons.mpr ⟨sLI4, (List.forall_mem_cons.mpr ⟨sIFne, (fun _ h => absurd h List.not_mem_nil)⟩)⟩)⟩)⟩)⟩)⟩)⟩)⟩)⟩)⟩)⟩)⟩)⟩)⟩)⟩
theorem kH_loss_24 : Bok "HerbWaters" prog_1_method_30_code (24, bH_loss_24, 51) := ⟨by decide +kernel, (List.forall_mem_cons.mpr ⟨sLA0, (List.forall_mem_cons.mpr ⟨lH_g28, (List.forall_mem_cons.mpr ⟨sLA0, (List.forall_mem_cons.mpr ⟨lH_g42, (List.forall_mem_cons.mpr ⟨sLI1, (List.forall_mem_cons.mpr ⟨sLA0, (List.forall_mem_cons.mpr ⟨lH_g42, (List.forall_mem_cons.mpr ⟨lH_g217, (List.forall_mem_cons.mpr ⟨sLI1, (List.forall_mem_cons.mpr ⟨sIALD, (List.forall_mem_cons.mpr ⟨sLI2, (List.forall_mem_cons.mpr ⟨sLI3, (List.forall_mem_cons.mpr ⟨lH_k329, (List.forall_mem_cons.mpr ⟨lH_v330, (List.forall_mem_cons.mpr ⟨sRI, (fun _ h => absurd h List.not_mem_nil)⟩)⟩)⟩)⟩)⟩)⟩)⟩)⟩)⟩)⟩)⟩)⟩)⟩)⟩)⟩)⟩
theorem kH_loss_51 : Bok "HerbWaters" prog_1_method_30_code (51, bH_loss_51, 66) := ⟨by decide +kernel, (List.forall_mem_cons.mpr ⟨sLA0, (List.forall_mem_cons.mpr ⟨lH_g28, (List.forall_mem_cons.mpr ⟨sLA0, (List.forall_mem_cons.mpr ⟨lH_g42, (List.forall_mem_cons.mpr ⟨sLI1, (List.forall_mem_cons.mpr ⟨sLI2, (List.forall_mem_cons.mpr ⟨sLI3, (List.forall_mem_cons.mpr ⟨lH_v334, (List.forall_mem_cons.mpr ⟨sRI, (fun _ h => absurd h List.not_mem_nil)⟩)⟩)⟩)⟩)⟩)⟩)⟩)⟩)⟩)⟩
theorem kH_loss : ∀ q ∈ tH_loss, Bok "HerbWaters" prog_1_method_30_code q := (List.forall_mem_cons.mpr ⟨kH_loss_0, (List.forall_mem_cons.mpr ⟨kH_loss_24, (List.forall_mem_cons.mpr ⟨kH_loss_51, (fun _ h => absurd h List.not_mem_nil)⟩)⟩)⟩)
theorem rH_loss : mH_loss.2.2.2 = some .int := rfl
def mH_rest : Mt := (⟨"HerbWaters", "rest", "(II)I"⟩, prog_1_method_31_code, 4, some .int)
theorem ok_H_rest : Mok mH_rest := ⟨gtb_mem 1668 (by decide +kernel) rfl, gtb_mem 93 (by decide +kernel) rfl, by decide +kernel, by decide⟩
theorem lH_v337 : Snd "HerbWaters" (iCV3 337 4 mFo_settle) := sCV3 _ rfl rfl ok_Fo_settle (gtb_mem 1670 (by decide +kernel) rfl) (gtb_mem 1671 (by decide +kernel) rfl) (gtb_mem 1669 (by decide +kernel) rfl)
def bH_rest_0 : List Ir := [iLA0, iLI1, iLI2, (iCV2 325 10 mH_needGame), iLA0, (iGR 28 10 2), iLA0, (iGR 42 10 4), iLI1, iLI2, (iCV3 337 4 mFo_settle), iSI3, iLA0, (iGR 49 10 5), iLA0, (iGR 42 10 4), (iCV1 108 3 mDi_begin), iLI3, iRI]
def tH_rest : Tb := [(0, bH_rest_0, 33)]
theorem fH_rest_0 : tbf tH_rest 0 = some (bH_rest_0, 33) := rfl
theorem kH_rest_0 : Bok "HerbWaters" prog_1_method_31_code (0, bH_rest_0, 33) := ⟨by decide +kernel, (List.forall_mem_cons.mpr ⟨sLA0, (List.forall_mem_cons.mpr ⟨sLI1, (List.forall_mem_cons.mpr ⟨sLI2, (List.forall_mem_cons.mpr ⟨lH_v325, (List.forall_mem_cons.mpr ⟨sLA0, (List.forall_mem_cons.mpr ⟨lH_g28, (List.forall_mem_cons.mpr ⟨sLA0, (List.forall_mem_cons.mpr ⟨lH_g42, (List.forall_mem_cons.mpr ⟨sLI1, (List.forall_mem_cons.mpr ⟨sLI2, (List.forall_mem_cons.mpr ⟨lH_v337, (List.forall_mem_cons.mpr ⟨sSI3, (List.forall_mem_cons.mpr ⟨sLA0, (List.forall_mem_cons.mpr ⟨lH_g49, (List.forall_mem_cons.mpr ⟨sLA0, (List.forall_mem_cons.mpr ⟨lH_g42, (List.forall_mem_cons.mpr ⟨lH_v108, (List.forall_mem_cons.mpr ⟨sLI3, (List.forall_mem_cons.mpr ⟨sRI, (fun _ h => absurd h List.not_mem_nil)⟩)⟩)⟩)⟩)⟩)⟩)⟩)⟩)⟩)⟩)⟩)⟩)⟩)⟩)⟩)⟩)⟩)⟩)⟩)⟩
theorem kH_rest : ∀ q ∈ tH_rest, Bok "HerbWaters" prog_1_method_31_code q := (List.forall_mem_cons.mpr ⟨kH_rest_0, (fun _ h => absurd h List.not_mem_nil)⟩)
theorem rH_rest : mH_rest.2.2.2 = some .int := rfl
def mH_drought : Mt := (⟨"HerbWaters", "drought", "(IIII)I"⟩, prog_1_method_32_code, 6, some .int)
theorem ok_H_drought : Mok mH_drought := ⟨gtb_mem 1683 (by decide +kernel) rfl, gtb_mem 93 (by decide +kernel) rfl, by decide +kernel, by decide⟩
def mH_needDrought : Mt := (⟨"HerbWaters", "needDrought", "(II)V"⟩, prog_1_method_42_code, 3, none)
theorem ok_H_needDrought : Mok mH_needDrought := ⟨gtb_mem 1687 (by decide +kernel) rfl, gtb_mem 93 (by decide +kernel) rfl, by decide +kernel, by decide⟩
theorem lH_v341 : Snd "HerbWaters" (iCV2 341 10 mH_needDrought) := sCV2 _ rfl rfl ok_H_needDrought (gtb_mem 1686 (by decide +kernel) rfl) (gtb_mem 39 (by decide +kernel) rfl) (gtb_mem 1684 (by decide +kernel) rfl)
theorem lH_v344 : Snd "HerbWaters" (iCV4 344 4 mFo_droughtWater) := sCV4 _ rfl rfl ok_Fo_droughtWater (gtb_mem 1689 (by decide +kernel) rfl) (gtb_mem 1690 (by decide +kernel) rfl) (gtb_mem 1688 (by decide +kernel) rfl)
theorem lH_g347 : Snd "HerbWaters" (iGR 347 4 1) := sGRN _ rfl "HerbWaters" (List.mem_filter.mpr ⟨List.mem_of_getElem? (i := 409) (by decide +kernel), rfl⟩)
def bH_drought_0 : List Ir := [iLA0, iLI2, iLI3, (iCV2 341 10 mH_needDrought), iLA0, iLI4, iC0, iC1, (iCV3 118 10 mH_needIn), iLA0, (iGR 28 10 2), iLA0, (iGR 42 10 4), iLI1, iLI2, iLI3, (iCV4 344 4 mFo_droughtWater), iSI5, iLI4, (iIFne (16) 48)]
def bH_drought_35 : List Ir := [iLA0, (iGR 28 10 2), (iGR 347 4 1), (iCV0 240 2 mDy_seen), (iGO (5) 50)]
def bH_drought_48 : List Ir := [iLI5]
def bH_drought_50 : List Ir := [iRI]
def tH_drought : Tb := [(0, bH_drought_0, 35), (35, bH_drought_35, 48), (48, bH_drought_48, 50), (50, bH_drought_50, 51)]
theorem fH_drought_0 : tbf tH_drought 0 = some (bH_drought_0, 35) := rfl
theorem fH_drought_35 : tbf tH_drought 35 = some (bH_drought_35, 48) := rfl
theorem fH_drought_48 : tbf tH_drought 48 = some (bH_drought_48, 50) := rfl
theorem fH_drought_50 : tbf tH_drought 50 = some (bH_drought_50, 51) := rfl
theorem kH_drought_0 : Bok "HerbWaters" prog_1_method_32_code (0, bH_drought_0, 35) := ⟨by decide +kernel, (List.forall_mem_cons.mpr ⟨sLA0, (List.forall_mem_cons.mpr ⟨sLI2, (List.forall_mem_cons.mpr ⟨sLI3, (List.forall_mem_cons.mpr ⟨lH_v341, (List.forall_mem_cons.mpr ⟨sLA0, (List.forall_mem_cons.mpr ⟨sLI4, (List.forall_mem_cons.mpr ⟨sC0, (List.forall_mem_cons.mpr ⟨sC1, (List.forall_mem_cons.mpr ⟨lH_v118, (List.forall_mem_cons.mpr ⟨sLA0, (List.forall_mem_cons.mpr ⟨lH_g28, (List.forall_mem_cons.mpr ⟨sLA0, (List.forall_mem_cons.mpr ⟨lH_g42, (List.forall_mem_cons.mpr ⟨sLI1, (List.forall_mem_cons.mpr ⟨sLI2, (List.forall_mem_cons.mpr ⟨sLI3, (List.forall_mem_cons.mpr ⟨lH_v344, (List.forall_mem_cons.mpr ⟨sSI5, (List.forall_mem_cons.mpr ⟨sLI4, (List.forall_mem_cons.mpr ⟨sIFne, (fun _ h => absurd h List.not_mem_nil)⟩)⟩)⟩)⟩)⟩)⟩)⟩)⟩)⟩)⟩)⟩)⟩)⟩)⟩)⟩)⟩)⟩)⟩)⟩)⟩)⟩
theorem kH_drought_35 : Bok "HerbWaters" prog_1_method_32_code (35, bH_drought_35, 48) := ⟨by decide +kernel, (List.forall_mem_cons.mpr ⟨sLA0, (List.forall_mem_cons.mpr ⟨lH_g28, (List.forall_mem_cons.mpr ⟨lH_g347, (List.forall_mem_cons.mpr ⟨lH_v240, (List.forall_mem_cons.mpr ⟨sGO, (fun _ h => absurd h List.not_mem_nil)⟩)⟩)⟩)⟩)⟩)⟩
theorem kH_drought_48 : Bok "HerbWaters" prog_1_method_32_code (48, bH_drought_48, 50) := ⟨by decide +kernel, (List.forall_mem_cons.mpr ⟨sLI5, (fun _ h => absurd h List.not_mem_nil)⟩)⟩
theorem kH_drought_50 : Bok "HerbWaters" prog_1_method_32_code (50, bH_drought_50, 51) := ⟨by decide +kernel, (List.forall_mem_cons.mpr ⟨sRI, (fun _ h => absurd h List.not_mem_nil)⟩)⟩
theorem kH_drought : ∀ q ∈ tH_drought, Bok "HerbWaters" prog_1_method_32_code q := (List.forall_mem_cons.mpr ⟨kH_drought_0, (List.forall_mem_cons.mpr ⟨kH_drought_35, (List.forall_mem_cons.mpr ⟨kH_drought_48, (List.forall_mem_cons.mpr ⟨kH_drought_50, (fun _ h => absurd h List.not_mem_nil)⟩)⟩)⟩)⟩)
theorem rH_drought : mH_drought.2.2.2 = some .int := rfl
def mH_span : Mt := (⟨"HerbWaters", "span", "(IIIII)I"⟩, prog_1_method_33_code, 11, some .int)
theorem ok_H_span : Mok mH_span := ⟨gtb_mem 1698 (by decide +kernel) rfl, gtb_mem 93 (by decide +kernel) rfl, by decide +kernel, by decide⟩
theorem lH_s350 : Snd "HerbWaters" (iMAX 350) := sMAX (gtb_mem 1699 (by decide +kernel) rfl) (gtb_mem 548 (by decide +kernel) rfl) (gtb_mem 105 (by decide +kernel) rfl) (gtb_mem 549 (by decide +kernel) rfl)
def bH_span_0 : List Ir := [iLA0, iLI2, iC1, (iBP 30), (iCV3 118 10 mH_needIn), iLA0, iLI3, iLI4, (iCV2 341 10 mH_needDrought), iLA0, iLI5, iC0, iC2, (iCV3 118 10 mH_needIn), iC0, iSI6, (iLDCW 329 2147483647), iSI7, iC0, iSI8, iC0, iSI9]
def bH_span_37 : List Ir := [iLI9, iLI2, (iICge (70) 110)]
def bH_span_43 : List Ir := [iLA0, (iGR 28 10 2), iLA0, (iGR 42 10 4), iLI1, iLI9, iADD, iLI3, iLI4, (iCV4 344 4 mFo_droughtWater), iSI10, iLI6, iLA0, (iGR 28 10 2), (iGR 347 4 1), (iCV0 240 2 mDy_seen), (iIFne (7) 82)]
def bH_span_78 : List Ir := [iC1, (iGO (4) 83)]
def bH_span_82 : List Ir := [iC0]
def bH_span_83 : List Ir := [iADD, iSI6, iLI7, iLI10, (iMIN 153), iSI7, iLI8, iLI10, (iMAX 350), iSI8, (iINC9 1), (iGO (-70) 37)]
def bH_span_110 : List Ir := [iLI5, (iIFne (8) 120)]
def bH_span_115 : List Ir := [iLI6, (iGO (16) 133)]
def bH_span_120 : List Ir := [iLI5, iC1, (iICne (8) 131)]
def bH_span_126 : List Ir := [iLI7, (iGO (5) 133)]
def bH_span_131 : List Ir := [iLI8]
def bH_span_133 : List Ir := [iRI]
def tH_span : Tb := [(0, bH_span_0, 37), (37, bH_span_37, 43), (43, bH_span_43, 78), (78, bH_span_78, 82), (82, bH_span_82, 83), (83, bH_span_83, 110), (110, bH_span_110, 115), (115, bH_span_115, 120), (120, bH_span_120, 126), (126, bH_span_126, 131), (131, bH_span_131, 133), (133, bH_span_133, 134)]
theorem fH_span_0 : tbf tH_span 0 = some (bH_span_0, 37) := rfl
theorem fH_span_37 : tbf tH_span 37 = some (bH_span_37, 43) := rfl
theorem fH_span_43 : tbf tH_span 43 = some (bH_span_43, 78) := rfl
theorem fH_span_78 : tbf tH_span 78 = some (bH_span_78, 82) := rfl
theorem fH_span_82 : tbf tH_span 82 = some (bH_span_82, 83) := rfl
theorem fH_span_83 : tbf tH_span 83 = some (bH_span_83, 110) := rfl
theorem fH_span_110 : tbf tH_span 110 = some (bH_span_110, 115) := rfl
theorem fH_span_115 : tbf tH_span 115 = some (bH_span_115, 120) := rfl
theorem fH_span_120 : tbf tH_span 120 = some (bH_span_120, 126) := rfl
theorem fH_span_126 : tbf tH_span 126 = some (bH_span_126, 131) := rfl
theorem fH_span_131 : tbf tH_span 131 = some (bH_span_131, 133) := rfl
theorem fH_span_133 : tbf tH_span 133 = some (bH_span_133, 134) := rfl
theorem kH_span_0 : Bok "HerbWaters" prog_1_method_33_code (0, bH_span_0, 37) := ⟨by decide +kernel, (List.forall_mem_cons.mpr ⟨sLA0, (List.forall_mem_cons.mpr ⟨sLI2, (List.forall_mem_cons.mpr ⟨sC1, (List.forall_mem_cons.mpr ⟨sBP, (List.forall_mem_cons.mpr ⟨lH_v118, (List.forall_mem_cons.mpr ⟨sLA0, (List.forall_mem_cons.mpr ⟨sLI3, (List.forall_mem_cons.mpr ⟨sLI4, (List.forall_mem_cons.mpr ⟨lH_v341, (List.forall_mem_cons.mpr ⟨sLA0, (List.forall_mem_cons.mpr ⟨sLI5, (List.forall_mem_cons.mpr ⟨sC0, (List.forall_mem_cons.mpr ⟨sC2, (List.forall_mem_cons.mpr ⟨lH_v118, (List.forall_mem_cons.mpr ⟨sC0, (List.forall_mem_cons.mpr ⟨sSI6, (List.forall_mem_cons.mpr ⟨lH_k329, (List.forall_mem_cons.mpr ⟨sSI7, (List.forall_mem_cons.mpr ⟨sC0, (List.forall_mem_cons.mpr ⟨sSI8, (List.forall_mem_cons.mpr ⟨sC0, (List.forall_mem_cons.mpr ⟨sSI9, (fun _ h => absurd h List.not_mem_nil)⟩)⟩)⟩)⟩)⟩)⟩)⟩)⟩)⟩)⟩)⟩)⟩)⟩)⟩)⟩)⟩)⟩)⟩)⟩)⟩)⟩)⟩)⟩
theorem kH_span_37 : Bok "HerbWaters" prog_1_method_33_code (37, bH_span_37, 43) := ⟨by decide +kernel, (List.forall_mem_cons.mpr ⟨sLI9, (List.forall_mem_cons.mpr ⟨sLI2, (List.forall_mem_cons.mpr ⟨sICge, (fun _ h => absurd h List.not_mem_nil)⟩)⟩)⟩)⟩
theorem kH_span_43 : Bok "HerbWaters" prog_1_method_33_code (43, bH_span_43, 78) := ⟨by decide +kernel, (List.forall_mem_cons.mpr ⟨sLA0, (List.forall_mem_cons.mpr ⟨lH_g28, (List.forall_mem_cons.mpr ⟨sLA0, (List.forall_mem_cons.mpr ⟨lH_g42, (List.forall_mem_cons.mpr ⟨sLI1, (List.forall_mem_cons.mpr ⟨sLI9, (List.forall_mem_cons.mpr ⟨sADD, (List.forall_mem_cons.mpr ⟨sLI3, (List.forall_mem_cons.mpr ⟨sLI4, (List.forall_mem_cons.mpr ⟨lH_v344, (List.forall_mem_cons.mpr ⟨sSI10, (List.forall_mem_cons.mpr ⟨sLI6, (List.forall_mem_cons.mpr ⟨sLA0, (List.forall_mem_cons.mpr ⟨lH_g28, (List.forall_mem_cons.mpr ⟨lH_g347, (List.forall_mem_cons.mpr ⟨lH_v240, (List.forall_mem_cons.mpr ⟨sIFne, (fun _ h => absurd h List.not_mem_nil)⟩)⟩)⟩)⟩)⟩)⟩)⟩)⟩)⟩)⟩)⟩)⟩)⟩)⟩)⟩)⟩)⟩)⟩
theorem kH_span_78 : Bok "HerbWaters" prog_1_method_33_code (78, bH_span_78, 82) := ⟨by decide +kernel, (List.forall_mem_cons.mpr ⟨sC1, (List.forall_mem_cons.mpr ⟨sGO, (fun _ h => absurd h List.not_mem_nil)⟩)⟩)⟩
theorem kH_span_82 : Bok "HerbWaters" prog_1_method_33_code (82, bH_span_82, 83) := ⟨by decide +kernel, (List.forall_mem_cons.mpr ⟨sC0, (fun _ h => absurd h List.not_mem_nil)⟩)⟩
theorem kH_span_83 : Bok "HerbWaters" prog_1_method_33_code (83, bH_span_83, 110) := ⟨by decide +kernel, (List.forall_mem_cons.mpr ⟨sADD, (List.forall_mem_cons.mpr ⟨sSI6, (List.forall_mem_cons.mpr ⟨sLI7, (List.forall_mem_cons.mpr ⟨sLI10, (List.forall_mem_cons.mpr ⟨lH_s153, (List.forall_mem_cons.mpr ⟨sSI7, (List.forall_mem_cons.mpr ⟨sLI8, (List.forall_mem_cons.mpr ⟨sLI10, (List.forall_mem_cons.mpr ⟨lH_s350, (List.forall_mem_cons.mpr ⟨sSI8, (List.forall_mem_cons.mpr ⟨sINC9, (List.forall_mem_cons.mpr ⟨sGO, (fun _ h => absurd h List.not_mem_nil)⟩)⟩)⟩)⟩)⟩)⟩)⟩)⟩)⟩)⟩)⟩)⟩)⟩
theorem kH_span_110 : Bok "HerbWaters" prog_1_method_33_code (110, bH_span_110, 115) := ⟨by decide +kernel, (List.forall_mem_cons.mpr ⟨sLI5, (List.forall_mem_cons.mpr ⟨sIFne, (fun _ h => absurd h List.not_mem_nil)⟩)⟩)⟩
theorem kH_span_115 : Bok "HerbWaters" prog_1_method_33_code (115, bH_span_115, 120) := ⟨by decide +kernel, (List.forall_mem_cons.mpr ⟨sLI6, (List.forall_mem_cons.mpr ⟨sGO, (fun _ h => absurd h List.not_mem_nil)⟩)⟩)⟩
theorem kH_span_120 : Bok "HerbWaters" prog_1_method_33_code (120, bH_span_120, 126) := ⟨by decide +kernel, (List.forall_mem_cons.mpr ⟨sLI5, (List.forall_mem_cons.mpr ⟨sC1, (List.forall_mem_cons.mpr ⟨sICne, (fun _ h => absurd h List.not_mem_nil)⟩)⟩)⟩)⟩
theorem kH_span_126 : Bok "HerbWaters" prog_1_method_33_code (126, bH_span_126, 131) := ⟨by decide +kernel, (List.forall_mem_cons.mpr ⟨sLI7, (List.forall_mem_cons.mpr ⟨sGO, (fun _ h => absurd h List.not_mem_nil)⟩)⟩)⟩
theorem kH_span_131 : Bok "HerbWaters" prog_1_method_33_code (131, bH_span_131, 133) := ⟨by decide +kernel, (List.forall_mem_cons.mpr ⟨sLI8, (fun _ h => absurd h List.not_mem_nil)⟩)⟩
theorem kH_span_133 : Bok "HerbWaters" prog_1_method_33_code (133, bH_span_133, 134) := ⟨by decide +kernel, (List.forall_mem_cons.mpr ⟨sRI, (fun _ h => absurd h List.not_mem_nil)⟩)⟩
theorem kH_span : ∀ q ∈ tH_span, Bok "HerbWaters" prog_1_method_33_code q := (List.forall_mem_cons.mpr ⟨kH_span_0, (List.forall_mem_cons.mpr ⟨kH_span_37, (List.forall_mem_cons.mpr ⟨kH_span_43, (List.forall_mem_cons.mpr ⟨kH_span_78, (List.forall_mem_cons.mpr ⟨kH_span_82, (List.forall_mem_cons.mpr ⟨kH_span_83, (List.forall_mem_cons.mpr ⟨kH_span_110, (List.forall_mem_cons.mpr ⟨kH_span_115, (List.forall_mem_cons.mpr ⟨kH_span_120, (List.forall_mem_cons.mpr ⟨kH_span_126, (List.forall_mem_cons.mpr ⟨kH_span_131, (List.forall_mem_cons.mpr ⟨kH_span_133, (fun _ h => absurd h List.not_mem_nil)⟩)⟩)⟩)⟩)⟩)⟩)⟩)⟩)⟩)⟩)⟩)⟩)
theorem rH_span : mH_span.2.2.2 = some .int := rfl
def mH_image : Mt := (⟨"HerbWaters", "image", "()I"⟩, prog_1_method_34_code, 1, some .int)
theorem ok_H_image : Mok mH_image := ⟨gtb_mem 1094 (by decide +kernel) rfl, gtb_mem 93 (by decide +kernel) rfl, by decide +kernel, by decide⟩
theorem lH_g91 : Snd "HerbWaters" (iGI 91 10 12) := sGI _ rfl (gtb_mem 590 (by decide +kernel) rfl)
theorem lH_g53 : Snd "HerbWaters" (iGR 53 10 6) := sGR _ rfl (gtb_mem 584 (by decide +kernel) rfl)
theorem lH_v353 : Snd "HerbWaters" (iCV1 353 2 mDy_copyFrom) := sCV1 _ rfl rfl ok_Dy_copyFrom (gtb_mem 572 (by decide +kernel) rfl) (gtb_mem 573 (by decide +kernel) rfl) (gtb_mem 1095 (by decide +kernel) rfl)
def bH_image_0 : List Ir := [iLA0, (iGI 91 10 12), iC3, (iIClt (5) 10)]
def bH_image_8 : List Ir := [iCm1, iRI]
def bH_image_10 : List Ir := [iLA0, (iGR 53 10 6), iLA0, (iGI 91 10 12), iAALD105, iLA0, (iGR 42 10 4), (iCV1 353 2 mDy_copyFrom), iLA0, iDUPr, (iGI 91 10 12), iC1, iADD, (iPI 91 10 12), iLA0, (iGI 91 10 12), iRI]
def tH_image : Tb := [(0, bH_image_0, 8), (8, bH_image_8, 10), (10, bH_image_10, 41)]
theorem fH_image_0 : tbf tH_image 0 = some (bH_image_0, 8) := rfl
theorem fH_image_8 : tbf tH_image 8 = some (bH_image_8, 10) := rfl
theorem fH_image_10 : tbf tH_image 10 = some (bH_image_10, 41) := rfl
theorem kH_image_0 : Bok "HerbWaters" prog_1_method_34_code (0, bH_image_0, 8) := ⟨by decide +kernel, (List.forall_mem_cons.mpr ⟨sLA0, (List.forall_mem_cons.mpr ⟨lH_g91, (List.forall_mem_cons.mpr ⟨sC3, (List.forall_mem_cons.mpr ⟨sIClt, (fun _ h => absurd h List.not_mem_nil)⟩)⟩)⟩)⟩)⟩
theorem kH_image_8 : Bok "HerbWaters" prog_1_method_34_code (8, bH_image_8, 10) := ⟨by decide +kernel, (List.forall_mem_cons.mpr ⟨sCm1, (List.forall_mem_cons.mpr ⟨sRI, (fun _ h => absurd h List.not_mem_nil)⟩)⟩)⟩
theorem kH_image_10 : Bok "HerbWaters" prog_1_method_34_code (10, bH_image_10, 41) := ⟨by decide +kernel, (List.forall_mem_cons.mpr ⟨sLA0, (List.forall_mem_cons.mpr ⟨lH_g53, (List.forall_mem_cons.mpr ⟨sLA0, (List.forall_mem_cons.mpr ⟨lH_g91, (List.forall_mem_cons.mpr ⟨sAALD105, (List.forall_mem_cons.mpr ⟨sLA0, (List.forall_mem_cons.mpr ⟨lH_g42, (List.forall_mem_cons.mpr ⟨lH_v353, (List.forall_mem_cons.mpr ⟨sLA0, (List.forall_mem_cons.mpr ⟨sDUPr, (List.forall_mem_cons.mpr ⟨lH_g91, (List.forall_mem_cons.mpr ⟨sC1, (List.forall_mem_cons.mpr ⟨sADD, (List.forall_mem_cons.mpr ⟨lH_p91, (List.forall_mem_cons.mpr ⟨sLA0, (List.forall_mem_cons.mpr ⟨lH_g91, (List.forall_mem_cons.mpr ⟨sRI, (fun _ h => absurd h List.not_mem_nil)⟩)⟩)⟩)⟩)⟩)⟩)⟩)⟩)⟩)⟩)⟩)⟩)⟩)⟩)⟩)⟩)⟩)⟩
theorem kH_image : ∀ q ∈ tH_image, Bok "HerbWaters" prog_1_method_34_code q := (List.forall_mem_cons.mpr ⟨kH_image_0, (List.forall_mem_cons.mpr ⟨kH_image_8, (List.forall_mem_cons.mpr ⟨kH_image_10, (fun _ h => absurd h List.not_mem_nil)⟩)⟩)⟩)
theorem rH_image : mH_image.2.2.2 = some .int := rfl
def mH_restore : Mt := (⟨"HerbWaters", "restore", "()I"⟩, prog_1_method_35_code, 1, some .int)
theorem ok_H_restore : Mok mH_restore := ⟨gtb_mem 1099 (by decide +kernel) rfl, gtb_mem 93 (by decide +kernel) rfl, by decide +kernel, by decide⟩
def bH_restore_0 : List Ir := [iLA0, (iGI 91 10 12), (iIFgt (5) 9)]
def bH_restore_7 : List Ir := [iCm1, iRI]
def bH_restore_9 : List Ir := [iLA0, iDUPr, (iGI 91 10 12), iC1, iSUB, (iPI 91 10 12), iLA0, (iGR 42 10 4), iLA0, (iGR 53 10 6), iLA0, (iGI 91 10 12), iAALD105, (iCV1 353 2 mDy_copyFrom), iLA0, (iGR 49 10 5), iLA0, (iGR 42 10 4), (iCV1 108 3 mDi_begin), iLA0, (iGI 91 10 12), iRI]
def tH_restore : Tb := [(0, bH_restore_0, 7), (7, bH_restore_7, 9), (9, bH_restore_9, 51)]
theorem fH_restore_0 : tbf tH_restore 0 = some (bH_restore_0, 7) := rfl
theorem fH_restore_7 : tbf tH_restore 7 = some (bH_restore_7, 9) := rfl
theorem fH_restore_9 : tbf tH_restore 9 = some (bH_restore_9, 51) := rfl
theorem kH_restore_0 : Bok "HerbWaters" prog_1_method_35_code (0, bH_restore_0, 7) := ⟨by decide +kernel, (List.forall_mem_cons.mpr ⟨sLA0, (List.forall_mem_cons.mpr ⟨lH_g91, (List.forall_mem_cons.mpr ⟨sIFgt, (fun _ h => absurd h List.not_mem_nil)⟩)⟩)⟩)⟩
theorem kH_restore_7 : Bok "HerbWaters" prog_1_method_35_code (7, bH_restore_7, 9) := ⟨by decide +kernel, (List.forall_mem_cons.mpr ⟨sCm1, (List.forall_mem_cons.mpr ⟨sRI, (fun _ h => absurd h List.not_mem_nil)⟩)⟩)⟩
theorem kH_restore_9 : Bok "HerbWaters" prog_1_method_35_code (9, bH_restore_9, 51) := ⟨by decide +kernel, (List.forall_mem_cons.mpr ⟨sLA0, (List.forall_mem_cons.mpr ⟨sDUPr, (List.forall_mem_cons.mpr ⟨lH_g91, (List.forall_mem_cons.mpr ⟨sC1, (List.forall_mem_cons.mpr ⟨sSUB, (List.forall_mem_cons.mpr ⟨lH_p91, (List.forall_mem_cons.mpr ⟨sLA0, (List.forall_mem_cons.mpr ⟨lH_g42, (List.forall_mem_cons.mpr ⟨sLA0, (List.forall_mem_cons.mpr ⟨lH_g53, (List.forall_mem_cons.mpr ⟨sLA0, (List.forall_mem_cons.mpr ⟨lH_g91, (List.forall_mem_cons.mpr ⟨sAALD105, (List.forall_mem_cons.mpr ⟨lH_v353, (List.forall_mem_cons.mpr ⟨sLA0, (List.forall_mem_cons.mpr ⟨lH_g49, (List.forall_mem_cons.mpr ⟨sLA0, (List.forall_mem_cons.mpr ⟨lH_g42, (List.forall_mem_cons.mpr ⟨lH_v108, (List.forall_mem_cons.mpr ⟨sLA0, (List.forall_mem_cons.mpr ⟨lH_g91, (List.forall_mem_cons.mpr ⟨sRI, (fun _ h => absurd h List.not_mem_nil)⟩)⟩)⟩)⟩)⟩)⟩)⟩)⟩)⟩)⟩)⟩)⟩)⟩)⟩)⟩)⟩)⟩)⟩)⟩)⟩)⟩)⟩)⟩
theorem kH_restore : ∀ q ∈ tH_restore, Bok "HerbWaters" prog_1_method_35_code q := (List.forall_mem_cons.mpr ⟨kH_restore_0, (List.forall_mem_cons.mpr ⟨kH_restore_7, (List.forall_mem_cons.mpr ⟨kH_restore_9, (fun _ h => absurd h List.not_mem_nil)⟩)⟩)⟩)
theorem rH_restore : mH_restore.2.2.2 = some .int := rfl
def mH_status : Mt := (⟨"HerbWaters", "status", "(I)I"⟩, prog_1_method_36_code, 2, some .int)
theorem ok_H_status : Mok mH_status := ⟨gtb_mem 1103 (by decide +kernel) rfl, gtb_mem 93 (by decide +kernel) rfl, by decide +kernel, by decide⟩
theorem lH_g95 : Snd "HerbWaters" (iGI 95 10 13) := sGI _ rfl (gtb_mem 591 (by decide +kernel) rfl)
theorem lH_g98 : Snd "HerbWaters" (iGI 98 10 14) := sGI _ rfl (gtb_mem 592 (by decide +kernel) rfl)
def bH_status_0 : List Ir := [iLI1, (iIFne (10) 11)]
def bH_status_4 : List Ir := [iLA0, (iGI 95 10 13), (iGO (16) 24)]
def bH_status_11 : List Ir := [iLI1, iC1, (iICne (10) 23)]
def bH_status_16 : List Ir := [iLA0, (iGI 98 10 14), (iGO (4) 24)]
def bH_status_23 : List Ir := [iCm1]
def bH_status_24 : List Ir := [iRI]
def tH_status : Tb := [(0, bH_status_0, 4), (4, bH_status_4, 11), (11, bH_status_11, 16), (16, bH_status_16, 23), (23, bH_status_23, 24), (24, bH_status_24, 25)]
theorem fH_status_0 : tbf tH_status 0 = some (bH_status_0, 4) := rfl
theorem fH_status_4 : tbf tH_status 4 = some (bH_status_4, 11) := rfl
theorem fH_status_11 : tbf tH_status 11 = some (bH_status_11, 16) := rfl
theorem fH_status_16 : tbf tH_status 16 = some (bH_status_16, 23) := rfl
theorem fH_status_23 : tbf tH_status 23 = some (bH_status_23, 24) := rfl
theorem fH_status_24 : tbf tH_status 24 = some (bH_status_24, 25) := rfl
theorem kH_status_0 : Bok "HerbWaters" prog_1_method_36_code (0, bH_status_0, 4) := ⟨by decide +kernel, (List.forall_mem_cons.mpr ⟨sLI1, (List.forall_mem_cons.mpr ⟨sIFne, (fun _ h => absurd h List.not_mem_nil)⟩)⟩)⟩
theorem kH_status_4 : Bok "HerbWaters" prog_1_method_36_code (4, bH_status_4, 11) := ⟨by decide +kernel, (List.forall_mem_cons.mpr ⟨sLA0, (List.forall_mem_cons.mpr ⟨lH_g95, (List.forall_mem_cons.mpr ⟨sGO, (fun _ h => absurd h List.not_mem_nil)⟩)⟩)⟩)⟩
theorem kH_status_11 : Bok "HerbWaters" prog_1_method_36_code (11, bH_status_11, 16) := ⟨by decide +kernel, (List.forall_mem_cons.mpr ⟨sLI1, (List.forall_mem_cons.mpr ⟨sC1, (List.forall_mem_cons.mpr ⟨sICne, (fun _ h => absurd h List.not_mem_nil)⟩)⟩)⟩)⟩
theorem kH_status_16 : Bok "HerbWaters" prog_1_method_36_code (16, bH_status_16, 23) := ⟨by decide +kernel, (List.forall_mem_cons.mpr ⟨sLA0, (List.forall_mem_cons.mpr ⟨lH_g98, (List.forall_mem_cons.mpr ⟨sGO, (fun _ h => absurd h List.not_mem_nil)⟩)⟩)⟩)⟩
theorem kH_status_23 : Bok "HerbWaters" prog_1_method_36_code (23, bH_status_23, 24) := ⟨by decide +kernel, (List.forall_mem_cons.mpr ⟨sCm1, (fun _ h => absurd h List.not_mem_nil)⟩)⟩
theorem kH_status_24 : Bok "HerbWaters" prog_1_method_36_code (24, bH_status_24, 25) := ⟨by decide +kernel, (List.forall_mem_cons.mpr ⟨sRI, (fun _ h => absurd h List.not_mem_nil)⟩)⟩
theorem kH_status : ∀ q ∈ tH_status, Bok "HerbWaters" prog_1_method_36_code q := (List.forall_mem_cons.mpr ⟨kH_status_0, (List.forall_mem_cons.mpr ⟨kH_status_4, (List.forall_mem_cons.mpr ⟨kH_status_11, (List.forall_mem_cons.mpr ⟨kH_status_16, (List.forall_mem_cons.mpr ⟨kH_status_23, (List.forall_mem_cons.mpr ⟨kH_status_24, (fun _ h => absurd h List.not_mem_nil)⟩)⟩)⟩)⟩)⟩)⟩)
theorem rH_status : mH_status.2.2.2 = some .int := rfl
def mH_count : Mt := (⟨"HerbWaters", "count", "(I)I"⟩, prog_1_method_37_code, 2, some .int)
theorem ok_H_count : Mok mH_count := ⟨gtb_mem 1107 (by decide +kernel) rfl, gtb_mem 93 (by decide +kernel) rfl, by decide +kernel, by decide⟩
def bH_count_0 : List Ir := [iLI1, (iSW 0 (56) #[(27), (32), (40)] 27 [28, 33, 41] 57)]
def bH_count_28 : List Ir := [iLA0, (iGI 91 10 12), iRI]
def bH_count_33 : List Ir := [iLA0, (iGR 10 10 0), (iGI 111 7 1), iRI]
def bH_count_41 : List Ir := [iLA0, (iGR 42 10 4), (iGI 189 2 9), iLA0, (iGR 49 10 5), (iGI 233 3 1), iSUB, iRI]
def bH_count_57 : List Ir := [iCm1, iRI]
def tH_count : Tb := [(0, bH_count_0, 28), (28, bH_count_28, 33), (33, bH_count_33, 41), (41, bH_count_41, 57), (57, bH_count_57, 59)]
theorem fH_count_0 : tbf tH_count 0 = some (bH_count_0, 28) := rfl
theorem fH_count_28 : tbf tH_count 28 = some (bH_count_28, 33) := rfl
theorem fH_count_33 : tbf tH_count 33 = some (bH_count_33, 41) := rfl
theorem fH_count_41 : tbf tH_count 41 = some (bH_count_41, 57) := rfl
theorem fH_count_57 : tbf tH_count 57 = some (bH_count_57, 59) := rfl
theorem kH_count_0 : Bok "HerbWaters" prog_1_method_37_code (0, bH_count_0, 28) := ⟨by decide +kernel, (List.forall_mem_cons.mpr ⟨sLI1, (List.forall_mem_cons.mpr ⟨sSW, (fun _ h => absurd h List.not_mem_nil)⟩)⟩)⟩
theorem kH_count_28 : Bok "HerbWaters" prog_1_method_37_code (28, bH_count_28, 33) := ⟨by decide +kernel, (List.forall_mem_cons.mpr ⟨sLA0, (List.forall_mem_cons.mpr ⟨lH_g91, (List.forall_mem_cons.mpr ⟨sRI, (fun _ h => absurd h List.not_mem_nil)⟩)⟩)⟩)⟩
theorem kH_count_33 : Bok "HerbWaters" prog_1_method_37_code (33, bH_count_33, 41) := ⟨by decide +kernel, (List.forall_mem_cons.mpr ⟨sLA0, (List.forall_mem_cons.mpr ⟨lH_g10, (List.forall_mem_cons.mpr ⟨lH_g111, (List.forall_mem_cons.mpr ⟨sRI, (fun _ h => absurd h List.not_mem_nil)⟩)⟩)⟩)⟩)⟩
theorem kH_count_41 : Bok "HerbWaters" prog_1_method_37_code (41, bH_count_41, 57) := ⟨by decide +kernel, (List.forall_mem_cons.mpr ⟨sLA0, (List.forall_mem_cons.mpr ⟨lH_g42, (List.forall_mem_cons.mpr ⟨lH_g189, (List.forall_mem_cons.mpr ⟨sLA0, (List.forall_mem_cons.mpr ⟨lH_g49, (List.forall_mem_cons.mpr ⟨lH_g233, (List.forall_mem_cons.mpr ⟨sSUB, (List.forall_mem_cons.mpr ⟨sRI, (fun _ h => absurd h List.not_mem_nil)⟩)⟩)⟩)⟩)⟩)⟩)⟩)⟩)⟩
theorem kH_count_57 : Bok "HerbWaters" prog_1_method_37_code (57, bH_count_57, 59) := ⟨by decide +kernel, (List.forall_mem_cons.mpr ⟨sCm1, (List.forall_mem_cons.mpr ⟨sRI, (fun _ h => absurd h List.not_mem_nil)⟩)⟩)⟩
theorem kH_count : ∀ q ∈ tH_count, Bok "HerbWaters" prog_1_method_37_code q := (List.forall_mem_cons.mpr ⟨kH_count_0, (List.forall_mem_cons.mpr ⟨kH_count_28, (List.forall_mem_cons.mpr ⟨kH_count_33, (List.forall_mem_cons.mpr ⟨kH_count_41, (List.forall_mem_cons.mpr ⟨kH_count_57, (fun _ h => absurd h List.not_mem_nil)⟩)⟩)⟩)⟩)⟩)
theorem rH_count : mH_count.2.2.2 = some .int := rfl
theorem lH_p95 : Snd "HerbWaters" (iPI 95 10 13) := sPI _ rfl rfl (gtb_mem 591 (by decide +kernel) rfl)
def bH_needVillage_0 : List Ir := [iLI1, (iIFlt (17) 18)]
def bH_needVillage_4 : List Ir := [iLI1, iLA0, (iGR 19 10 1), (iGR 101 0 0), (iGI 147 9 10), (iIClt (24) 39)]
def bH_needVillage_18 : List Ir := [iLA0, iDUPr, (iGI 95 10 13), iC1, iADD, (iPI 95 10 13)]
def bH_needVillage_39 : List Ir := [iRV]
def tH_needVillage : Tb := [(0, bH_needVillage_0, 4), (4, bH_needVillage_4, 18), (18, bH_needVillage_18, 28), (39, bH_needVillage_39, 40)]
theorem fH_needVillage_0 : tbf tH_needVillage 0 = some (bH_needVillage_0, 4) := rfl
theorem fH_needVillage_4 : tbf tH_needVillage 4 = some (bH_needVillage_4, 18) := rfl
theorem fH_needVillage_18 : tbf tH_needVillage 18 = some (bH_needVillage_18, 28) := rfl
theorem fH_needVillage_39 : tbf tH_needVillage 39 = some (bH_needVillage_39, 40) := rfl
theorem kH_needVillage_0 : Bok "HerbWaters" prog_1_method_38_code (0, bH_needVillage_0, 4) := ⟨by decide +kernel, (List.forall_mem_cons.mpr ⟨sLI1, (List.forall_mem_cons.mpr ⟨sIFlt, (fun _ h => absurd h List.not_mem_nil)⟩)⟩)⟩
theorem kH_needVillage_4 : Bok "HerbWaters" prog_1_method_38_code (4, bH_needVillage_4, 18) := ⟨by decide +kernel, (List.forall_mem_cons.mpr ⟨sLI1, (List.forall_mem_cons.mpr ⟨sLA0, (List.forall_mem_cons.mpr ⟨lH_g19, (List.forall_mem_cons.mpr ⟨lH_g101, (List.forall_mem_cons.mpr ⟨lH_g147, (List.forall_mem_cons.mpr ⟨sIClt, (fun _ h => absurd h List.not_mem_nil)⟩)⟩)⟩)⟩)⟩)⟩)⟩
theorem kH_needVillage_18 : Bok "HerbWaters" prog_1_method_38_code (18, bH_needVillage_18, 28) := ⟨by decide +kernel, (List.forall_mem_cons.mpr ⟨sLA0, (List.forall_mem_cons.mpr ⟨sDUPr, (List.forall_mem_cons.mpr ⟨lH_g95, (List.forall_mem_cons.mpr ⟨sC1, (List.forall_mem_cons.mpr ⟨sADD, (List.forall_mem_cons.mpr ⟨lH_p95, (fun _ h => absurd h List.not_mem_nil)⟩)⟩)⟩)⟩)⟩)⟩)⟩
theorem kH_needVillage_39 : Bok "HerbWaters" prog_1_method_38_code (39, bH_needVillage_39, 40) := ⟨by decide +kernel, (List.forall_mem_cons.mpr ⟨sRV, (fun _ h => absurd h List.not_mem_nil)⟩)⟩
theorem kH_needVillage : ∀ q ∈ tH_needVillage, Bok "HerbWaters" prog_1_method_38_code q := (List.forall_mem_cons.mpr ⟨kH_needVillage_0, (List.forall_mem_cons.mpr ⟨kH_needVillage_4, (List.forall_mem_cons.mpr ⟨kH_needVillage_18, (List.forall_mem_cons.mpr ⟨kH_needVillage_39, (fun _ h => absurd h List.not_mem_nil)⟩)⟩)⟩)⟩)
theorem rH_needVillage : mH_needVillage.2.2.2 = none := rfl
theorem lH_p98 : Snd "HerbWaters" (iPI 98 10 14) := sPI _ rfl rfl (gtb_mem 592 (by decide +kernel) rfl)
def bH_needIn_0 : List Ir := [iLI1, iLI2, (iIClt (8) 10)]
def bH_needIn_5 : List Ir := [iLI1, iLI3, (iICle (24) 31)]
def bH_needIn_10 : List Ir := [iLA0, iDUPr, (iGI 98 10 14), iC1, iADD, (iPI 98 10 14)]
def bH_needIn_31 : List Ir := [iRV]
def tH_needIn : Tb := [(0, bH_needIn_0, 5), (5, bH_needIn_5, 10), (10, bH_needIn_10, 20), (31, bH_needIn_31, 32)]
theorem fH_needIn_0 : tbf tH_needIn 0 = some (bH_needIn_0, 5) := rfl
theorem fH_needIn_5 : tbf tH_needIn 5 = some (bH_needIn_5, 10) := rfl
theorem fH_needIn_10 : tbf tH_needIn 10 = some (bH_needIn_10, 20) := rfl
theorem fH_needIn_31 : tbf tH_needIn 31 = some (bH_needIn_31, 32) := rfl
theorem kH_needIn_0 : Bok "HerbWaters" prog_1_method_39_code (0, bH_needIn_0, 5) := ⟨by decide +kernel, (List.forall_mem_cons.mpr ⟨sLI1, (List.forall_mem_cons.mpr ⟨sLI2, (List.forall_mem_cons.mpr ⟨sIClt, (fun _ h => absurd h List.not_mem_nil)⟩)⟩)⟩)⟩
theorem kH_needIn_5 : Bok "HerbWaters" prog_1_method_39_code (5, bH_needIn_5, 10) := ⟨by decide +kernel, (List.forall_mem_cons.mpr ⟨sLI1, (List.forall_mem_cons.mpr ⟨sLI3, (List.forall_mem_cons.mpr ⟨sICle, (fun _ h => absurd h List.not_mem_nil)⟩)⟩)⟩)⟩
theorem kH_needIn_10 : Bok "HerbWaters" prog_1_method_39_code (10, bH_needIn_10, 20) := ⟨by decide +kernel, (List.forall_mem_cons.mpr ⟨sLA0, (List.forall_mem_cons.mpr ⟨sDUPr, (List.forall_mem_cons.mpr ⟨lH_g98, (List.forall_mem_cons.mpr ⟨sC1, (List.forall_mem_cons.mpr ⟨sADD, (List.forall_mem_cons.mpr ⟨lH_p98, (fun _ h => absurd h List.not_mem_nil)⟩)⟩)⟩)⟩)⟩)⟩)⟩
theorem kH_needIn_31 : Bok "HerbWaters" prog_1_method_39_code (31, bH_needIn_31, 32) := ⟨by decide +kernel, (List.forall_mem_cons.mpr ⟨sRV, (fun _ h => absurd h List.not_mem_nil)⟩)⟩
theorem kH_needIn : ∀ q ∈ tH_needIn, Bok "HerbWaters" prog_1_method_39_code q := (List.forall_mem_cons.mpr ⟨kH_needIn_0, (List.forall_mem_cons.mpr ⟨kH_needIn_5, (List.forall_mem_cons.mpr ⟨kH_needIn_10, (List.forall_mem_cons.mpr ⟨kH_needIn_31, (fun _ h => absurd h List.not_mem_nil)⟩)⟩)⟩)⟩)
theorem rH_needIn : mH_needIn.2.2.2 = none := rfl
theorem lH_v368 : Snd "HerbWaters" (iCV0 368 9 mTn_allBits) := sCV0 _ rfl rfl ok_Tn_allBits (gtb_mem 649 (by decide +kernel) rfl) (gtb_mem 650 (by decide +kernel) rfl) (gtb_mem 1534 (by decide +kernel) rfl)
def bH_needSet_0 : List Ir := [iLA0, iLI1, iC0, iLA0, (iGR 19 10 1), (iGR 101 0 0), (iCV0 368 9 mTn_allBits), (iCV3 118 10 mH_needIn), iRV]
def tH_needSet : Tb := [(0, bH_needSet_0, 17)]
theorem fH_needSet_0 : tbf tH_needSet 0 = some (bH_needSet_0, 17) := rfl
theorem kH_needSet_0 : Bok "HerbWaters" prog_1_method_40_code (0, bH_needSet_0, 17) := ⟨by decide +kernel, (List.forall_mem_cons.mpr ⟨sLA0, (List.forall_mem_cons.mpr ⟨sLI1, (List.forall_mem_cons.mpr ⟨sC0, (List.forall_mem_cons.mpr ⟨sLA0, (List.forall_mem_cons.mpr ⟨lH_g19, (List.forall_mem_cons.mpr ⟨lH_g101, (List.forall_mem_cons.mpr ⟨lH_v368, (List.forall_mem_cons.mpr ⟨lH_v118, (List.forall_mem_cons.mpr ⟨sRV, (fun _ h => absurd h List.not_mem_nil)⟩)⟩)⟩)⟩)⟩)⟩)⟩)⟩)⟩)⟩
theorem kH_needSet : ∀ q ∈ tH_needSet, Bok "HerbWaters" prog_1_method_40_code q := (List.forall_mem_cons.mpr ⟨kH_needSet_0, (fun _ h => absurd h List.not_mem_nil)⟩)
theorem rH_needSet : mH_needSet.2.2.2 = none := rfl
def bH_needGame_0 : List Ir := [iLA0, iLI1, iC1, (iBP 30), (iCV3 118 10 mH_needIn), iLA0, iLI2, iC0, (iBP 99), (iCV3 118 10 mH_needIn), iRV]
def tH_needGame : Tb := [(0, bH_needGame_0, 17)]
theorem fH_needGame_0 : tbf tH_needGame 0 = some (bH_needGame_0, 17) := rfl
theorem kH_needGame_0 : Bok "HerbWaters" prog_1_method_41_code (0, bH_needGame_0, 17) := ⟨by decide +kernel, (List.forall_mem_cons.mpr ⟨sLA0, (List.forall_mem_cons.mpr ⟨sLI1, (List.forall_mem_cons.mpr ⟨sC1, (List.forall_mem_cons.mpr ⟨sBP, (List.forall_mem_cons.mpr ⟨lH_v118, (List.forall_mem_cons.mpr ⟨sLA0, (List.forall_mem_cons.mpr ⟨sLI2, (List.forall_mem_cons.mpr ⟨sC0, (List.forall_mem_cons.mpr ⟨sBP, (List.forall_mem_cons.mpr ⟨lH_v118, (List.forall_mem_cons.mpr ⟨sRV, (fun _ h => absurd h List.not_mem_nil)⟩)⟩)⟩)⟩)⟩)⟩)⟩)⟩)⟩)⟩)⟩)⟩
theorem kH_needGame : ∀ q ∈ tH_needGame, Bok "HerbWaters" prog_1_method_41_code q := (List.forall_mem_cons.mpr ⟨kH_needGame_0, (fun _ h => absurd h List.not_mem_nil)⟩)
theorem rH_needGame : mH_needGame.2.2.2 = none := rfl
def bH_needDrought_0 : List Ir := [iLA0, iLI1, iC0, (iBP 16), (iCV3 118 10 mH_needIn), iLA0, iLI2, iC1, (iBP 60), (iCV3 118 10 mH_needIn), iRV]
def tH_needDrought : Tb := [(0, bH_needDrought_0, 17)]
theorem fH_needDrought_0 : tbf tH_needDrought 0 = some (bH_needDrought_0, 17) := rfl
theorem kH_needDrought_0 : Bok "HerbWaters" prog_1_method_42_code (0, bH_needDrought_0, 17) := ⟨by decide +kernel, (List.forall_mem_cons.mpr ⟨sLA0, (List.forall_mem_cons.mpr ⟨sLI1, (List.forall_mem_cons.mpr ⟨sC0, (List.forall_mem_cons.mpr ⟨sBP, (List.forall_mem_cons.mpr ⟨lH_v118, (List.forall_mem_cons.mpr ⟨sLA0, (List.forall_mem_cons.mpr ⟨sLI2, (List.forall_mem_cons.mpr ⟨sC1, (List.forall_mem_cons.mpr ⟨sBP, (List.forall_mem_cons.mpr ⟨lH_v118, (List.forall_mem_cons.mpr ⟨sRV, (fun _ h => absurd h List.not_mem_nil)⟩)⟩)⟩)⟩)⟩)⟩)⟩)⟩)⟩)⟩)⟩)⟩
theorem kH_needDrought : ∀ q ∈ tH_needDrought, Bok "HerbWaters" prog_1_method_42_code q := (List.forall_mem_cons.mpr ⟨kH_needDrought_0, (fun _ h => absurd h List.not_mem_nil)⟩)
theorem rH_needDrought : mH_needDrought.2.2.2 = none := rfl
def mTp_init : Mt := (⟨"HerbWaters$Tape", "<init>", "()V"⟩, prog_9_method_1_code, 1, none)
theorem ok_Tp_init : Mok mTp_init := ⟨gtb_mem 136 (by decide +kernel) rfl, gtb_mem 94 (by decide +kernel) rfl, by decide +kernel, by decide⟩
theorem lTp_i3 : Snd "HerbWaters$Tape" (iOI 3) := sOI (gtb_mem 137 (by decide +kernel) rfl) (gtb_mem 130 (by decide +kernel) rfl) (gtb_mem 131 (by decide +kernel) rfl)
theorem lTp_f11 : SndI "HerbWaters$Tape" (iPRF 11 7 0) := sPRF _ rfl rfl rfl (gtb_mem 138 (by decide +kernel) rfl)
def bTp_init_0 : List Ir := [iLA0, (iOI 3), iLA0, (iSP 600), iNAB, (iPRF 11 7 0), iLA0, iC0, (iPI 15 7 1), iLA0, iC0, (iPI 19 7 2), iLA0, iC0, (iPI 22 7 3), iLA0, iC0, (iPI 25 7 4), iLA0, iC0, (iPI 28 7 5), iLA0, iCm1, (iPI 31 7 6), iRV]
def tTp_init : Tb := [(0, bTp_init_0, 44)]
theorem fTp_init_0 : tbf tTp_init 0 = some (bTp_init_0, 44) := rfl
theorem kTp_init_0 : BokI "HerbWaters$Tape" prog_9_method_1_code (0, bTp_init_0, 44) := ⟨by decide +kernel, (List.forall_mem_cons.mpr ⟨(Snd.i sLA0), (List.forall_mem_cons.mpr ⟨(Snd.i lTp_i3), (List.forall_mem_cons.mpr ⟨(Snd.i sLA0), (List.forall_mem_cons.mpr ⟨(Snd.i sSP), (List.forall_mem_cons.mpr ⟨(Snd.i (sNAB (gtb_mem 163 (by decide +kernel) rfl))), (List.forall_mem_cons.mpr ⟨lTp_f11, (List.forall_mem_cons.mpr ⟨(Snd.i sLA0), (List.forall_mem_cons.mpr ⟨(Snd.i sC0), (List.forall_mem_cons.mpr ⟨(Snd.i lTp_p15), (List.forall_mem_cons.mpr ⟨(Snd.i sLA0), (List.forall_mem_cons.mpr ⟨(Snd.i sC0), (List.forall_mem_cons.mpr ⟨(Snd.i lTp_p19), (List.forall_mem_cons.mpr ⟨(Snd.i sLA0), (List.forall_mem_cons.mpr ⟨(Snd.i sC0), (List.forall_mem_cons.mpr ⟨(Snd.i lTp_p22), (List.forall_mem_cons.mpr ⟨(Snd.i sLA0), (List.forall_mem_cons.mpr ⟨(Snd.i sC0), (List.forall_mem_cons.mpr ⟨(Snd.i lTp_p25), (List.forall_mem_cons.mpr ⟨(Snd.i sLA0), (List.forall_mem_cons.mpr ⟨(Snd.i sC0), (List.forall_mem_cons.mpr ⟨(Snd.i lTp_p28), (List.forall_mem_cons.mpr ⟨(Snd.i sLA0), (List.forall_mem_cons.mpr ⟨(Snd.i sCm1), (List.forall_mem_cons.mpr ⟨(Snd.i lTp_p31), (List.forall_mem_cons.mpr ⟨(Snd.i sRV), (fun _ h => absurd h List.not_mem_nil)⟩)⟩)⟩)⟩)⟩)⟩)⟩)⟩)⟩)⟩)⟩)⟩)⟩)⟩)⟩)⟩)⟩)⟩)⟩)⟩)⟩)⟩)⟩)⟩)⟩)⟩
theorem kTp_init : ∀ q ∈ tTp_init, BokI "HerbWaters$Tape" prog_9_method_1_code q := (List.forall_mem_cons.mpr ⟨kTp_init_0, (fun _ h => absurd h List.not_mem_nil)⟩)
theorem rTp_init : mTp_init.2.2.2 = none := rfl
def mTn_init : Mt := (⟨"HerbWaters$Town", "<init>", "()V"⟩, prog_11_method_1_code, 1, none)
theorem ok_Tn_init : Mok mTn_init := ⟨gtb_mem 174 (by decide +kernel) rfl, gtb_mem 96 (by decide +kernel) rfl, by decide +kernel, by decide⟩
theorem lTn_i3 : Snd "HerbWaters$Town" (iOI 3) := sOI (gtb_mem 175 (by decide +kernel) rfl) (gtb_mem 130 (by decide +kernel) rfl) (gtb_mem 131 (by decide +kernel) rfl)
theorem lTn_f9 : SndI "HerbWaters$Town" (iPRF 9 9 0) := sPRF _ rfl rfl rfl (gtb_mem 176 (by decide +kernel) rfl)
theorem lTn_f15 : SndI "HerbWaters$Town" (iPRF 15 9 1) := sPRF _ rfl rfl rfl (gtb_mem 178 (by decide +kernel) rfl)
theorem lTn_f18 : SndI "HerbWaters$Town" (iPRF 18 9 2) := sPRF _ rfl rfl rfl (gtb_mem 181 (by decide +kernel) rfl)
theorem lTn_f21 : SndI "HerbWaters$Town" (iPRF 21 9 3) := sPRF _ rfl rfl rfl (gtb_mem 183 (by decide +kernel) rfl)
theorem lTn_f24 : SndI "HerbWaters$Town" (iPRF 24 9 4) := sPRF _ rfl rfl rfl (gtb_mem 188 (by decide +kernel) rfl)
theorem lTn_f27 : SndI "HerbWaters$Town" (iPRF 27 9 5) := sPRF _ rfl rfl rfl (gtb_mem 191 (by decide +kernel) rfl)
theorem lTn_f30 : SndI "HerbWaters$Town" (iPRF 30 9 6) := sPRF _ rfl rfl rfl (gtb_mem 192 (by decide +kernel) rfl)
theorem lTn_f33 : SndI "HerbWaters$Town" (iPRF 33 9 7) := sPRF _ rfl rfl rfl (gtb_mem 194 (by decide +kernel) rfl)
theorem lTn_f36 : SndI "HerbWaters$Town" (iPRF 36 9 8) := sPRF _ rfl rfl rfl (gtb_mem 196 (by decide +kernel) rfl)
theorem lTn_f39 : SndI "HerbWaters$Town" (iPRF 39 9 9) := sPRF _ rfl rfl rfl (gtb_mem 198 (by decide +kernel) rfl)
def bTn_init_0 : List Ir := [iLA0, (iOI 3), iLA0, (iBP 9), iNAI, (iPRF 9 9 0), iLA0, (iBP 9), iNAI, (iPRF 15 9 1), iLA0, (iBP 9), iNAI, (iPRF 18 9 2), iLA0, (iBP 9), iNAI, (iPRF 21 9 3), iLA0, (iBP 9), iNAI, (iPRF 24 9 4), iLA0, (iBP 9), iNAI, (iPRF 27 9 5), iLA0, (iBP 27), iNAI, (iPRF 30 9 6), iLA0, (iBP 20), iNAI, (iPRF 33 9 7), iLA0, (iBP 20), iNAI, (iPRF 36 9 8), iLA0, (iBP 20), iNAI, (iPRF 39 9 9), iLA0, iC0, (iPI 42 9 10), iLA0, iC0, (iPI 46 9 11), iLA0, iCm1, (iPI 49 9 12), iLA0, iC0, (iPI 52 9 13), iLA0, (iBP 20), (iPI 55 9 14), iRV]
def tTn_init : Tb := [(0, bTn_init_0, 111)]
theorem fTn_init_0 : tbf tTn_init 0 = some (bTn_init_0, 111) := rfl
theorem kTn_init_0 : BokI "HerbWaters$Town" prog_11_method_1_code (0, bTn_init_0, 111) := ⟨by decide +kernel, (List.forall_mem_cons.mpr ⟨(Snd.i sLA0), (List.forall_mem_cons.mpr ⟨(Snd.i lTn_i3), (List.forall_mem_cons.mpr ⟨(Snd.i sLA0), (List.forall_mem_cons.mpr ⟨(Snd.i sBP), (List.forall_mem_cons.mpr ⟨(Snd.i (sNAI (gtb_mem 246 (by decide +kernel) rfl))), (List.forall_mem_cons.mpr ⟨lTn_f9, (List.forall_mem_cons.mpr ⟨(Snd.i sLA0), (List.forall_mem_cons.mpr ⟨(Snd.i sBP), (List.forall_mem_cons.mpr ⟨(Snd.i (sNAI (gtb_mem 246 (by decide +kernel) rfl))), (List.forall_mem_cons.mpr ⟨lTn_f15, (List.forall_mem_cons.mpr ⟨(Snd.i sLA0), (List.forall_mem_cons.mpr ⟨(Snd.i sBP), (List.forall_mem_cons.mpr ⟨(Snd.i (sNAI (gtb_mem 246 (by decide +kernel) rfl))), (List.forall_mem_cons.mpr ⟨lTn_f18, (List.forall_mem_cons.mpr ⟨(Snd.i sLA0), (List.forall_mem_cons.mpr ⟨(Snd.i sBP), (List.forall_mem_cons.mpr ⟨(Snd.i (sNAI (gtb_mem 246 (by decide +kernel) rfl))), (List.forall_mem_cons.mpr ⟨lTn_f21, (List.forall_mem_cons.mpr ⟨(Snd.i sLA0), (List.forall_mem_cons.mpr ⟨(Snd.i sBP), (List.forall_mem_cons.mpr ⟨(Snd.i (sNAI (gtb_mem 246 (by decide +kernel) rfl))), (List.forall_mem_cons.mpr ⟨lTn_f24, (List.forall_mem_cons.mpr ⟨(Snd.i sLA0), (List.forall_mem_cons.mpr ⟨(Snd.i sBP), (List.forall_mem_cons.mpr ⟨(Snd.i (sNAI (gtb_mem 246 (by decide +kernel) rfl))), (List.forall_mem_cons.mpr ⟨lTn_f27, (List.forall_mem_cons.mpr ⟨(Snd.i sLA0), (List.forall_mem_cons.mpr ⟨(Snd.i sBP), (List.forall_mem_cons.mpr ⟨(Snd.i (sNAI (gtb_mem 246 (by decide +kernel) rfl))), (List.forall_mem_cons.mpr ⟨lTn_f30, (List.forall_mem_cons.mpr ⟨(Snd.i sLA0), (List.forall_mem_cons.mpr ⟨(Snd.i sBP), (List.forall_mem_cons.mpr ⟨(Snd.i (sNAI (gtb_mem 246 (by decide +kernel) rfl))), (List.forall_mem_cons.mpr ⟨lTn_f33, (List.forall_mem_cons.mpr ⟨(Snd.i sLA0), (List.forall_mem_cons.mpr ⟨(Snd.i sBP), (List.forall_mem_cons.mpr ⟨(Snd.i (sNAI (gtb_mem 246 (by decide +kernel) rfl))), (List.forall_mem_cons.mpr ⟨lTn_f36, (List.forall_mem_cons.mpr ⟨(Snd.i sLA0), (List.forall_mem_cons.mpr ⟨(Snd.i sBP), (List.forall_mem_cons.mpr ⟨(Snd.i (sNAI (gtb_mem 246 (by decide +kernel) rfl))), (List.forall_mem_cons.mpr ⟨lTn_f39, (List.forall_mem_cons.mpr ⟨(Snd.i sLA0), (List.forall_mem_cons.mpr ⟨(Snd.i sC0), (List.forall_mem_cons.mpr ⟨(Snd.i lTn_p42), (List.forall_mem_cons.mpr ⟨(Snd.i sLA0), (List.forall_mem_cons.mpr ⟨(Snd.i sC0), (List.forall_mem_cons.mpr ⟨(Snd.i lTn_p46), (List.forall_mem_cons.mpr ⟨(Snd.i sLA0), (List.forall_mem_cons.mpr ⟨(Snd.i sCm1), (List.forall_mem_cons.mpr ⟨(Snd.i lTn_p49), (List.forall_mem_cons.mpr ⟨(Snd.i sLA0), (List.forall_mem_cons.mpr ⟨(Snd.i sC0), (List.forall_mem_cons.mpr ⟨(Snd.i lTn_p52), (List.forall_mem_cons.mpr ⟨(Snd.i sLA0), (List.forall_mem_cons.mpr ⟨(Snd.i sBP), (List.forall_mem_cons.mpr ⟨(Snd.i lTn_p55), (List.forall_mem_cons.mpr ⟨(Snd.i sRV), (fun _ h => absurd h List.not_mem_nil)⟩)⟩)⟩)⟩)⟩)⟩)⟩)⟩)⟩)⟩)⟩)⟩)⟩)⟩)⟩)⟩)⟩)⟩)⟩)⟩)⟩)⟩)⟩)⟩)⟩)⟩)⟩)⟩)⟩)⟩)⟩)⟩)⟩)⟩)⟩)⟩)⟩)⟩)⟩)⟩)⟩)⟩)⟩)⟩)⟩)⟩)⟩)⟩)⟩)⟩)⟩)⟩)⟩)⟩)⟩)⟩)⟩)⟩)⟩
theorem kTn_init : ∀ q ∈ tTn_init, BokI "HerbWaters$Town" prog_11_method_1_code q := (List.forall_mem_cons.mpr ⟨kTn_init_0, (fun _ h => absurd h List.not_mem_nil)⟩)
theorem rTn_init : mTn_init.2.2.2 = none := rfl
def mOp_init : Mt := (⟨"HerbWaters$Opinion", "<init>", "()V"⟩, prog_7_method_1_code, 1, none)
theorem ok_Op_init : Mok mOp_init := ⟨gtb_mem 252 (by decide +kernel) rfl, gtb_mem 97 (by decide +kernel) rfl, by decide +kernel, by decide⟩
theorem lOp_i5 : Snd "HerbWaters$Opinion" (iOI 5) := sOI (gtb_mem 253 (by decide +kernel) rfl) (gtb_mem 130 (by decide +kernel) rfl) (gtb_mem 131 (by decide +kernel) rfl)
theorem lOp_f11 : SndI "HerbWaters$Opinion" (iPRF 11 5 0) := sPRF _ rfl rfl rfl (gtb_mem 254 (by decide +kernel) rfl)
theorem lOp_f15 : SndI "HerbWaters$Opinion" (iPRF 15 5 1) := sPRF _ rfl rfl rfl (gtb_mem 255 (by decide +kernel) rfl)
def bOp_init_0 : List Ir := [iLA0, (iOI 5), iLA0, (iSP 160), iNAI, (iPRF 11 5 0), iLA0, (iBP 64), iNAI, (iPRF 15 5 1), iLA0, iC0, (iPI 18 5 2), iLA0, iC0, (iPI 22 5 3), iLA0, iC0, (iPI 25 5 4), iLA0, iC0, (iPZ 28 5 5), iRV]
def tOp_init : Tb := [(0, bOp_init_0, 42)]
theorem fOp_init_0 : tbf tOp_init 0 = some (bOp_init_0, 42) := rfl
theorem kOp_init_0 : BokI "HerbWaters$Opinion" prog_7_method_1_code (0, bOp_init_0, 42) := ⟨by decide +kernel, (List.forall_mem_cons.mpr ⟨(Snd.i sLA0), (List.forall_mem_cons.mpr ⟨(Snd.i lOp_i5), (List.forall_mem_cons.mpr ⟨(Snd.i sLA0), (List.forall_mem_cons.mpr ⟨(Snd.i sSP), (List.forall_mem_cons.mpr ⟨(Snd.i (sNAI (gtb_mem 246 (by decide +kernel) rfl))), (List.forall_mem_cons.mpr ⟨lOp_f11, (List.forall_mem_cons.mpr ⟨(Snd.i sLA0), (List.forall_mem_cons.mpr ⟨(Snd.i sBP), (List.forall_mem_cons.mpr ⟨(Snd.i (sNAI (gtb_mem 246 (by decide +kernel) rfl))), (List.forall_mem_cons.mpr ⟨lOp_f15, (List.forall_mem_cons.mpr ⟨(Snd.i sLA0), (List.forall_mem_cons.mpr ⟨(Snd.i sC0), (List.forall_mem_cons.mpr ⟨(Snd.i lOp_p18), (List.forall_mem_cons.mpr ⟨(Snd.i sLA0), (List.forall_mem_cons.mpr ⟨(Snd.i sC0), (List.forall_mem_cons.mpr ⟨(Snd.i lOp_p22), (List.forall_mem_cons.mpr ⟨(Snd.i sLA0), (List.forall_mem_cons.mpr ⟨(Snd.i sC0), (List.forall_mem_cons.mpr ⟨(Snd.i lOp_p25), (List.forall_mem_cons.mpr ⟨(Snd.i sLA0), (List.forall_mem_cons.mpr ⟨(Snd.i sC0), (List.forall_mem_cons.mpr ⟨(Snd.i lOp_p28), (List.forall_mem_cons.mpr ⟨(Snd.i sRV), (fun _ h => absurd h List.not_mem_nil)⟩)⟩)⟩)⟩)⟩)⟩)⟩)⟩)⟩)⟩)⟩)⟩)⟩)⟩)⟩)⟩)⟩)⟩)⟩)⟩)⟩)⟩)⟩)⟩
theorem kOp_init : ∀ q ∈ tOp_init, BokI "HerbWaters$Opinion" prog_7_method_1_code q := (List.forall_mem_cons.mpr ⟨kOp_init_0, (fun _ h => absurd h List.not_mem_nil)⟩)
theorem rOp_init : mOp_init.2.2.2 = none := rfl
def mOr_init : Mt := (⟨"HerbWaters$OpinionReader", "<init>", "(LHerbWaters$Tape;LHerbWaters$Opinion;)V"⟩, prog_8_method_1_code, 3, none)
theorem ok_Or_init : Mok mOr_init := ⟨gtb_mem 518 (by decide +kernel) rfl, gtb_mem 103 (by decide +kernel) rfl, by decide +kernel, by decide⟩
theorem lOr_i3 : Snd "HerbWaters$OpinionReader" (iOI 3) := sOI (gtb_mem 519 (by decide +kernel) rfl) (gtb_mem 130 (by decide +kernel) rfl) (gtb_mem 131 (by decide +kernel) rfl)
theorem lOr_f15 : SndI "HerbWaters$OpinionReader" (iPRF 15 6 0) := sPRF _ rfl rfl rfl (gtb_mem 520 (by decide +kernel) rfl)
def bOr_init_0 : List Ir := [iLA0, (iOI 3), iLA0, iC0, (iPI 9 6 2), iLA0, iLA1, (iPRF 15 6 0), iLA0, iLA2, (iPR 19 6 1), iRV]
def tOr_init : Tb := [(0, bOr_init_0, 20)]
theorem fOr_init_0 : tbf tOr_init 0 = some (bOr_init_0, 20) := rfl
theorem kOr_init_0 : BokI "HerbWaters$OpinionReader" prog_8_method_1_code (0, bOr_init_0, 20) := ⟨by decide +kernel, (List.forall_mem_cons.mpr ⟨(Snd.i sLA0), (List.forall_mem_cons.mpr ⟨(Snd.i lOr_i3), (List.forall_mem_cons.mpr ⟨(Snd.i sLA0), (List.forall_mem_cons.mpr ⟨(Snd.i sC0), (List.forall_mem_cons.mpr ⟨(Snd.i lOr_p9), (List.forall_mem_cons.mpr ⟨(Snd.i sLA0), (List.forall_mem_cons.mpr ⟨(Snd.i sLA1), (List.forall_mem_cons.mpr ⟨lOr_f15, (List.forall_mem_cons.mpr ⟨(Snd.i sLA0), (List.forall_mem_cons.mpr ⟨(Snd.i sLA2), (List.forall_mem_cons.mpr ⟨(Snd.i lOr_p19), (List.forall_mem_cons.mpr ⟨(Snd.i sRV), (fun _ h => absurd h List.not_mem_nil)⟩)⟩)⟩)⟩)⟩)⟩)⟩)⟩)⟩)⟩)⟩)⟩)⟩
theorem kOr_init : ∀ q ∈ tOr_init, BokI "HerbWaters$OpinionReader" prog_8_method_1_code q := (List.forall_mem_cons.mpr ⟨kOr_init_0, (fun _ h => absurd h List.not_mem_nil)⟩)
theorem rOr_init : mOr_init.2.2.2 = none := rfl
def mBk_init : Mt := (⟨"HerbWaters$Book", "<init>", "()V"⟩, prog_3_method_1_code, 1, none)
theorem ok_Bk_init : Mok mBk_init := ⟨gtb_mem 441 (by decide +kernel) rfl, gtb_mem 101 (by decide +kernel) rfl, by decide +kernel, by decide⟩
theorem lBk_i3 : Snd "HerbWaters$Book" (iOI 3) := sOI (gtb_mem 442 (by decide +kernel) rfl) (gtb_mem 130 (by decide +kernel) rfl) (gtb_mem 131 (by decide +kernel) rfl)
theorem lBk_f11 : SndI "HerbWaters$Book" (iPRF 11 1 0) := sPRF _ rfl rfl rfl (gtb_mem 443 (by decide +kernel) rfl)
theorem lBk_f15 : SndI "HerbWaters$Book" (iPRF 15 1 1) := sPRF _ rfl rfl rfl (gtb_mem 444 (by decide +kernel) rfl)
def bBk_init_0 : List Ir := [iLA0, (iOI 3), iLA0, (iBP 12), iNAI, (iPRF 11 1 0), iLA0, (iBP 12), iNAI, (iPRF 15 1 1), iLA0, iC0, (iPI 18 1 2), iLA0, iC0, (iPI 22 1 3), iRV]
def tBk_init : Tb := [(0, bBk_init_0, 31)]
theorem fBk_init_0 : tbf tBk_init 0 = some (bBk_init_0, 31) := rfl
theorem kBk_init_0 : BokI "HerbWaters$Book" prog_3_method_1_code (0, bBk_init_0, 31) := ⟨by decide +kernel, (List.forall_mem_cons.mpr ⟨(Snd.i sLA0), (List.forall_mem_cons.mpr ⟨(Snd.i lBk_i3), (List.forall_mem_cons.mpr ⟨(Snd.i sLA0), (List.forall_mem_cons.mpr ⟨(Snd.i sBP), (List.forall_mem_cons.mpr ⟨(Snd.i (sNAI (gtb_mem 246 (by decide +kernel) rfl))), (List.forall_mem_cons.mpr ⟨lBk_f11, (List.forall_mem_cons.mpr ⟨(Snd.i sLA0), (List.forall_mem_cons.mpr ⟨(Snd.i sBP), (List.forall_mem_cons.mpr ⟨(Snd.i (sNAI (gtb_mem 246 (by decide +kernel) rfl))), (List.forall_mem_cons.mpr ⟨lBk_f15, (List.forall_mem_cons.mpr ⟨(Snd.i sLA0), (List.forall_mem_cons.mpr ⟨(Snd.i sC0), (List.forall_mem_cons.mpr ⟨(Snd.i lBk_p18), (List.forall_mem_cons.mpr ⟨(Snd.i sLA0), (List.forall_mem_cons.mpr ⟨(Snd.i sC0), (List.forall_mem_cons.mpr ⟨(Snd.i lBk_p22), (List.forall_mem_cons.mpr ⟨(Snd.i sRV), (fun _ h => absurd h List.not_mem_nil)⟩)⟩)⟩)⟩)⟩)⟩)⟩)⟩)⟩)⟩)⟩)⟩)⟩)⟩)⟩)⟩)⟩)⟩
theorem kBk_init : ∀ q ∈ tBk_init, BokI "HerbWaters$Book" prog_3_method_1_code q := (List.forall_mem_cons.mpr ⟨kBk_init_0, (fun _ h => absurd h List.not_mem_nil)⟩)
theorem rBk_init : mBk_init.2.2.2 = none := rfl
theorem lDy_i3 : Snd "HerbWaters$Days" (iOI 3) := sOI (gtb_mem 310 (by decide +kernel) rfl) (gtb_mem 130 (by decide +kernel) rfl) (gtb_mem 131 (by decide +kernel) rfl)
theorem lDy_f9 : SndI "HerbWaters$Days" (iPRF 9 2 0) := sPRF _ rfl rfl rfl (gtb_mem 311 (by decide +kernel) rfl)
theorem lDy_f15 : SndI "HerbWaters$Days" (iPRF 15 2 1) := sPRF _ rfl rfl rfl (gtb_mem 315 (by decide +kernel) rfl)
theorem lDy_f18 : SndI "HerbWaters$Days" (iPRF 18 2 2) := sPRF _ rfl rfl rfl (gtb_mem 318 (by decide +kernel) rfl)
theorem lDy_f21 : SndI "HerbWaters$Days" (iPRF 21 2 3) := sPRF _ rfl rfl rfl (gtb_mem 321 (by decide +kernel) rfl)
theorem lDy_f24 : SndI "HerbWaters$Days" (iPRF 24 2 4) := sPRF _ rfl rfl rfl (gtb_mem 324 (by decide +kernel) rfl)
theorem lDy_f27 : SndI "HerbWaters$Days" (iPRF 27 2 5) := sPRF _ rfl rfl rfl (gtb_mem 327 (by decide +kernel) rfl)
theorem lDy_f30 : SndI "HerbWaters$Days" (iPRF 30 2 6) := sPRF _ rfl rfl rfl (gtb_mem 331 (by decide +kernel) rfl)
def bDy_init_0 : List Ir := [iLA0, (iOI 3), iLA0, (iSP 252), iNAI, (iPRF 9 2 0), iLA0, (iSP 180), iNAI, (iPRF 15 2 1), iLA0, (iBP 9), iNAI, (iPRF 18 2 2), iLA0, (iBP 27), iNAI, (iPRF 21 2 3), iLA0, (iBP 27), iNAI, (iPRF 24 2 4), iLA0, (iBP 9), iNAI, (iPRF 27 2 5), iLA0, iC4, iNAI, (iPRF 30 2 6), iLA0, iC0, (iPI 33 2 7), iLA0, iC1, (iPI 37 2 8), iLA0, iC0, (iPI 40 2 9), iLA0, iC0, (iPI 43 2 10), iLA0, iC0, (iPI 46 2 11), iLA0, iC0, (iPI 49 2 12), iLA0, iC0, (iPI 52 2 13), iLA0, iCm1, (iPI 55 2 14), iLA0, iC0, (iPI 58 2 15), iLA0, iC0, (iPI 61 2 16), iLA0, iC0, (iPI 64 2 17), iRV]
def tDy_init : Tb := [(0, bDy_init_0, 117)]
theorem fDy_init_0 : tbf tDy_init 0 = some (bDy_init_0, 117) := rfl
theorem kDy_init_0 : BokI "HerbWaters$Days" prog_4_method_1_code (0, bDy_init_0, 117) := ⟨by decide +kernel, (List.forall_mem_cons.mpr ⟨(Snd.i sLA0), (List.forall_mem_cons.mpr ⟨(Snd.i lDy_i3), (List.forall_mem_cons.mpr ⟨(Snd.i sLA0), (List.forall_mem_cons.mpr ⟨(Snd.i sSP), (List.forall_mem_cons.mpr ⟨(Snd.i (sNAI (gtb_mem 246 (by decide +kernel) rfl))), (List.forall_mem_cons.mpr ⟨lDy_f9, (List.forall_mem_cons.mpr ⟨(Snd.i sLA0), (List.forall_mem_cons.mpr ⟨(Snd.i sSP), (List.forall_mem_cons.mpr ⟨(Snd.i (sNAI (gtb_mem 246 (by decide +kernel) rfl))), (List.forall_mem_cons.mpr ⟨lDy_f15, (List.forall_mem_cons.mpr ⟨(Snd.i sLA0), (List.forall_mem_cons.mpr ⟨(Snd.i sBP), (List.forall_mem_cons.mpr ⟨(Snd.i (sNAI (gtb_mem 246 (by decide +kernel) rfl))), (List.forall_mem_cons.mpr ⟨lDy_f18, (List.forall_mem_cons.mpr ⟨(Snd.i sLA0), (List.forall_mem_cons.mpr ⟨(Snd.i sBP), (List.forall_mem_cons.mpr ⟨(Snd.i (sNAI (gtb_mem 246 (by decide +kernel) rfl))), (List.forall_mem_cons.mpr ⟨lDy_f21, (List.forall_mem_cons.mpr ⟨(Snd.i sLA0), (List.forall_mem_cons.mpr ⟨(Snd.i sBP), (List.forall_mem_cons.mpr ⟨(Snd.i (sNAI (gtb_mem 246 (by decide +kernel) rfl))), (List.forall_mem_cons.mpr ⟨lDy_f24, (List.forall_mem_cons.mpr ⟨(Snd.i sLA0), (List.forall_mem_cons.mpr ⟨(Snd.i sBP), (List.forall_mem_cons.mpr ⟨(Snd.i (sNAI (gtb_mem 246 (by decide +kernel) rfl))), (List.forall_mem_cons.mpr ⟨lDy_f27, (List.forall_mem_cons.mpr ⟨(Snd.i sLA0), (List.forall_mem_cons.mpr ⟨(Snd.i sC4), (List.forall_mem_cons.mpr ⟨(Snd.i (sNAI (gtb_mem 246 (by decide +kernel) rfl))), (List.forall_mem_cons.mpr ⟨lDy_f30, (List.forall_mem_cons.mpr ⟨(Snd.i sLA0), (List.forall_mem_cons.mpr ⟨(Snd.i sC0), (List.forall_mem_cons.mpr ⟨(Snd.i lDy_p33), (List.forall_mem_cons.mpr ⟨(Snd.i sLA0), (List.forall_mem_cons.mpr ⟨(Snd.i sC1), (List.forall_mem_cons.mpr ⟨(Snd.i lDy_p37), (List.forall_mem_cons.mpr ⟨(Snd.i sLA0), (List.forall_mem_cons.mpr ⟨(Snd.i sC0), (List.forall_mem_cons.mpr ⟨(Snd.i lDy_p40), (List.forall_mem_cons.mpr ⟨(Snd.i sLA0), (List.forall_mem_cons.mpr ⟨(Snd.i sC0), (List.forall_mem_cons.mpr ⟨(Snd.i lDy_p43), (List.forall_mem_cons.mpr ⟨(Snd.i sLA0), (List.forall_mem_cons.mpr ⟨(Snd.i sC0), (List.forall_mem_cons.mpr ⟨(Snd.i lDy_p46), (List.forall_mem_cons.mpr ⟨(Snd.i sLA0), (List.forall_mem_cons.mpr ⟨(Snd.i sC0), (List.forall_mem_cons.mpr ⟨(Snd.i lDy_p49), (List.forall_mem_cons.mpr ⟨(Snd.i sLA0), (List.forall_mem_cons.mpr ⟨(Snd.i sC0), (List.forall_mem_cons.mpr ⟨(Snd.i lDy_p52), (List.forall_mem_cons.mpr ⟨(Snd.i sLA0), (List.forall_mem_cons.mpr ⟨(Snd.i sCm1), (List.forall_mem_cons.mpr ⟨(Snd.i lDy_p55), (List.forall_mem_cons.mpr ⟨(Snd.i sLA0), (List.forall_mem_cons.mpr ⟨(Snd.i sC0), (List.forall_mem_cons.mpr ⟨(Snd.i lDy_p58), (List.forall_mem_cons.mpr ⟨(Snd.i sLA0), (List.forall_mem_cons.mpr ⟨(Snd.i sC0), (List.forall_mem_cons.mpr ⟨(Snd.i lDy_p61), (List.forall_mem_cons.mpr ⟨(Snd.i sLA0), (List.forall_mem_cons.mpr ⟨(Snd.i sC0), (List.forall_mem_cons.mpr ⟨(Snd.i lDy_p64), (List.forall_mem_cons.mpr ⟨(Snd.i sRV), (fun _ h => absurd h List.not_mem_nil)⟩)⟩)⟩)⟩)⟩)⟩)⟩)⟩)⟩)⟩)⟩)⟩)⟩)⟩)⟩)⟩)⟩)⟩)⟩)⟩)⟩)⟩)⟩)⟩)⟩)⟩)⟩)⟩)⟩)⟩)⟩)⟩)⟩)⟩)⟩)⟩)⟩)⟩)⟩)⟩)⟩)⟩)⟩)⟩)⟩)⟩)⟩)⟩)⟩)⟩)⟩)⟩)⟩)⟩)⟩)⟩)⟩)⟩)⟩)⟩)⟩)⟩)⟩)⟩)⟩
theorem kDy_init : ∀ q ∈ tDy_init, BokI "HerbWaters$Days" prog_4_method_1_code q := (List.forall_mem_cons.mpr ⟨kDy_init_0, (fun _ h => absurd h List.not_mem_nil)⟩)
theorem rDy_init : mDy_init.2.2.2 = none := rfl
def mDi_init : Mt := (⟨"HerbWaters$Diary", "<init>", "()V"⟩, prog_5_method_1_code, 1, none)
theorem ok_Di_init : Mok mDi_init := ⟨gtb_mem 498 (by decide +kernel) rfl, gtb_mem 102 (by decide +kernel) rfl, by decide +kernel, by decide⟩
theorem lDi_i5 : Snd "HerbWaters$Diary" (iOI 5) := sOI (gtb_mem 499 (by decide +kernel) rfl) (gtb_mem 130 (by decide +kernel) rfl) (gtb_mem 131 (by decide +kernel) rfl)
theorem lDi_a11 : Snd "HerbWaters$Diary" (iAOD 11) := sAOD (gtb_mem 500 (by decide +kernel) rfl)
theorem lDi_f13 : SndI "HerbWaters$Diary" (iPRF 13 3 0) := sPRF _ rfl rfl rfl (gtb_mem 502 (by decide +kernel) rfl)
def bDi_init_0 : List Ir := [iLA0, (iOI 5), iLA0, (iBP 32), (iAOD 11), (iPRF 13 3 0), iLA0, iC0, (iPI 17 3 1), iRV]
def tDi_init : Tb := [(0, bDi_init_0, 19)]
theorem fDi_init_0 : tbf tDi_init 0 = some (bDi_init_0, 19) := rfl
theorem kDi_init_0 : BokI "HerbWaters$Diary" prog_5_method_1_code (0, bDi_init_0, 19) := ⟨by decide +kernel, (List.forall_mem_cons.mpr ⟨(Snd.i sLA0), (List.forall_mem_cons.mpr ⟨(Snd.i lDi_i5), (List.forall_mem_cons.mpr ⟨(Snd.i sLA0), (List.forall_mem_cons.mpr ⟨(Snd.i sBP), (List.forall_mem_cons.mpr ⟨(Snd.i lDi_a11), (List.forall_mem_cons.mpr ⟨lDi_f13, (List.forall_mem_cons.mpr ⟨(Snd.i sLA0), (List.forall_mem_cons.mpr ⟨(Snd.i sC0), (List.forall_mem_cons.mpr ⟨(Snd.i lDi_p17), (List.forall_mem_cons.mpr ⟨(Snd.i sRV), (fun _ h => absurd h List.not_mem_nil)⟩)⟩)⟩)⟩)⟩)⟩)⟩)⟩)⟩)⟩)⟩
theorem kDi_init : ∀ q ∈ tDi_init, BokI "HerbWaters$Diary" prog_5_method_1_code q := (List.forall_mem_cons.mpr ⟨kDi_init_0, (fun _ h => absurd h List.not_mem_nil)⟩)
theorem rDi_init : mDi_init.2.2.2 = none := rfl
def mAq_init : Mt := (⟨"HerbWaters$Aqueduct", "<init>", "()V"⟩, prog_2_method_1_code, 2, none)
theorem ok_Aq_init : Mok mAq_init := ⟨gtb_mem 168 (by decide +kernel) rfl, gtb_mem 95 (by decide +kernel) rfl, by decide +kernel, by decide⟩
theorem lAq_i3 : Snd "HerbWaters$Aqueduct" (iOI 3) := sOI (gtb_mem 169 (by decide +kernel) rfl) (gtb_mem 130 (by decide +kernel) rfl) (gtb_mem 131 (by decide +kernel) rfl)
theorem lAq_n9 : Snd "HerbWaters$Aqueduct" (iNEW 9 9 15) := sNEW _ rfl rfl (gtb_mem 170 (by decide +kernel) rfl) (gtb_mem 171 (by decide +kernel) rfl) (gtb_mem 96 (by decide +kernel) rfl)
theorem lAq_i11 : Snd "HerbWaters$Aqueduct" (iCI0 11 mTn_init) := sCI0N rfl ok_Tn_init (gtb_mem 173 (by decide +kernel) rfl) "HerbWaters" (List.mem_filter.mpr ⟨List.mem_of_getElem? (i := 172) (by decide +kernel), rfl⟩)
theorem lAq_p12 : Snd "HerbWaters$Aqueduct" (iPR 12 0 0) := sPR _ rfl rfl (gtb_mem 277 (by decide +kernel) rfl)
theorem lAq_a18 : Snd "HerbWaters$Aqueduct" (iAOO 18) := sAOO (gtb_mem 247 (by decide +kernel) rfl)
theorem lAq_f20 : SndI "HerbWaters$Aqueduct" (iPRF 20 0 1) := sPRF _ rfl rfl rfl (gtb_mem 281 (by decide +kernel) rfl)
theorem lAq_f24 : SndI "HerbWaters$Aqueduct" (iPRF 24 0 2) := sPRF _ rfl rfl rfl (gtb_mem 282 (by decide +kernel) rfl)
theorem lAq_f28 : SndI "HerbWaters$Aqueduct" (iPRF 28 0 3) := sPRF _ rfl rfl rfl (gtb_mem 283 (by decide +kernel) rfl)
theorem lAq_f31 : SndI "HerbWaters$Aqueduct" (iPRF 31 0 4) := sPRF _ rfl rfl rfl (gtb_mem 284 (by decide +kernel) rfl)
theorem lAq_f34 : SndI "HerbWaters$Aqueduct" (iPRF 34 0 5) := sPRF _ rfl rfl rfl (gtb_mem 285 (by decide +kernel) rfl)
theorem lAq_n18 : Snd "HerbWaters$Aqueduct" (iNEW 18 5 6) := sNEW _ rfl rfl (gtb_mem 247 (by decide +kernel) rfl) (gtb_mem 249 (by decide +kernel) rfl) (gtb_mem 97 (by decide +kernel) rfl)
theorem lAq_i37 : Snd "HerbWaters$Aqueduct" (iCI0 37 mOp_init) := sCI0N rfl ok_Op_init (gtb_mem 251 (by decide +kernel) rfl) "HerbWaters" (List.mem_filter.mpr ⟨List.mem_of_getElem? (i := 250) (by decide +kernel), rfl⟩)
def bAq_init_0 : List Ir := [iLA0, (iOI 3), iLA0, (iNEW 9 9 15), iDUPr, (iCI0 11 mTn_init), (iPR 12 0 0), iLA0, (iBP 9), (iAOO 18), (iPRF 20 0 1), iLA0, (iSP 252), iNAI, (iPRF 24 0 2), iLA0, (iBP 27), iNAI, (iPRF 28 0 3), iLA0, iC3, iNAI, (iPRF 31 0 4), iLA0, (iBP 7), iNAI, (iPRF 34 0 5), iC0, iSI1]
def bAq_init_58 : List Ir := [iLI1, (iBP 9), (iICge (22) 83)]
def bAq_init_64 : List Ir := [iLA0, (iGR 20 0 1), iLI1, (iNEW 18 5 6), iDUPr, (iCI0 37 mOp_init), iAAST106, (iINC1 1), (iGO (-22) 58)]
def bAq_init_83 : List Ir := [iRV]
def tAq_init : Tb := [(0, bAq_init_0, 58), (58, bAq_init_58, 64), (64, bAq_init_64, 83), (83, bAq_init_83, 84)]
theorem fAq_init_0 : tbf tAq_init 0 = some (bAq_init_0, 58) := rfl
theorem fAq_init_58 : tbf tAq_init 58 = some (bAq_init_58, 64) := rfl
theorem fAq_init_64 : tbf tAq_init 64 = some (bAq_init_64, 83) := rfl
theorem fAq_init_83 : tbf tAq_init 83 = some (bAq_init_83, 84) := rfl
theorem kAq_init_0 : BokI "HerbWaters$Aqueduct" prog_2_method_1_code (0, bAq_init_0, 58) := ⟨by decide +kernel, (List.forall_mem_cons.mpr ⟨(Snd.i sLA0), (List.forall_mem_cons.mpr ⟨(Snd.i lAq_i3), (List.forall_mem_cons.mpr ⟨(Snd.i sLA0), (List.forall_mem_cons.mpr ⟨(Snd.i lAq_n9), (List.forall_mem_cons.mpr ⟨(Snd.i sDUPr), (List.forall_mem_cons.mpr ⟨(Snd.i lAq_i11), (List.forall_mem_cons.mpr ⟨(Snd.i lAq_p12), (List.forall_mem_cons.mpr ⟨(Snd.i sLA0), (List.forall_mem_cons.mpr ⟨(Snd.i sBP), (List.forall_mem_cons.mpr ⟨(Snd.i lAq_a18), (List.forall_mem_cons.mpr ⟨lAq_f20, (List.forall_mem_cons.mpr ⟨(Snd.i sLA0), (List.forall_mem_cons.mpr ⟨(Snd.i sSP), (List.forall_mem_cons.mpr ⟨(Snd.i (sNAI (gtb_mem 246 (by decide +kernel) rfl))), (List.forall_mem_cons.mpr ⟨lAq_f24, (List.forall_mem_cons.mpr ⟨(Snd.i sLA0), (List.forall_mem_cons.mpr ⟨(Snd.i sBP), (List.forall_mem_cons.mpr ⟨(Snd.i (sNAI (gtb_mem 246 (by decide +kernel) rfl))), (List.forall_mem_cons.mpr ⟨lAq_f28, (List.forall_mem_cons.mpr ⟨(Snd.i sLA0), (List.forall_mem_cons.mpr ⟨(Snd.i sC3), (List.forall_mem_cons.mpr ⟨(Snd.i (sNAI (gtb_mem 246 (by decide +kernel) rfl))), (List.forall_mem_cons.mpr ⟨lAq_f31, (List.forall_mem_cons.mpr ⟨(Snd.i sLA0), (List.forall_mem_cons.mpr ⟨(Snd.i sBP), (List.forall_mem_cons.mpr ⟨(Snd.i (sNAI (gtb_mem 246 (by decide +kernel) rfl))), (List.forall_mem_cons.mpr ⟨lAq_f34, (List.forall_mem_cons.mpr ⟨(Snd.i sC0), (List.forall_mem_cons.mpr ⟨(Snd.i sSI1), (fun _ h => absurd h List.not_mem_nil)⟩)⟩)⟩)⟩)⟩)⟩)⟩)⟩)⟩)⟩)⟩)⟩)⟩)⟩)⟩)⟩)⟩)⟩)⟩)⟩)⟩)⟩)⟩)⟩)⟩)⟩)⟩)⟩)⟩)⟩
theorem kAq_init_58 : BokI "HerbWaters$Aqueduct" prog_2_method_1_code (58, bAq_init_58, 64) := ⟨by decide +kernel, (List.forall_mem_cons.mpr ⟨(Snd.i sLI1), (List.forall_mem_cons.mpr ⟨(Snd.i sBP), (List.forall_mem_cons.mpr ⟨(Snd.i sICge), (fun _ h => absurd h List.not_mem_nil)⟩)⟩)⟩)⟩
theorem kAq_init_64 : BokI "HerbWaters$Aqueduct" prog_2_method_1_code (64, bAq_init_64, 83) := ⟨by decide +kernel, (List.forall_mem_cons.mpr ⟨(Snd.i sLA0), (List.forall_mem_cons.mpr ⟨(Snd.i lAq_g20), (List.forall_mem_cons.mpr ⟨(Snd.i sLI1), (List.forall_mem_cons.mpr ⟨(Snd.i lAq_n18), (List.forall_mem_cons.mpr ⟨(Snd.i sDUPr), (List.forall_mem_cons.mpr ⟨(Snd.i lAq_i37), (List.forall_mem_cons.mpr ⟨(Snd.i sAAST106), (List.forall_mem_cons.mpr ⟨(Snd.i sINC1), (List.forall_mem_cons.mpr ⟨(Snd.i sGO), (fun _ h => absurd h List.not_mem_nil)⟩)⟩)⟩)⟩)⟩)⟩)⟩)⟩)⟩)⟩
theorem kAq_init_83 : BokI "HerbWaters$Aqueduct" prog_2_method_1_code (83, bAq_init_83, 84) := ⟨by decide +kernel, (List.forall_mem_cons.mpr ⟨(Snd.i sRV), (fun _ h => absurd h List.not_mem_nil)⟩)⟩
theorem kAq_init : ∀ q ∈ tAq_init, BokI "HerbWaters$Aqueduct" prog_2_method_1_code q := (List.forall_mem_cons.mpr ⟨kAq_init_0, (List.forall_mem_cons.mpr ⟨kAq_init_58, (List.forall_mem_cons.mpr ⟨kAq_init_64, (List.forall_mem_cons.mpr ⟨kAq_init_83, (fun _ h => absurd h List.not_mem_nil)⟩)⟩)⟩)⟩)
theorem rAq_init : mAq_init.2.2.2 = none := rfl
def mFo_init : Mt := (⟨"HerbWaters$Foresight", "<init>", "(LHerbWaters$Aqueduct;)V"⟩, prog_6_method_1_code, 2, none)
theorem ok_Fo_init : Mok mFo_init := ⟨gtb_mem 303 (by decide +kernel) rfl, gtb_mem 98 (by decide +kernel) rfl, by decide +kernel, by decide⟩
theorem lFo_i5 : Snd "HerbWaters$Foresight" (iOI 5) := sOI (gtb_mem 304 (by decide +kernel) rfl) (gtb_mem 130 (by decide +kernel) rfl) (gtb_mem 131 (by decide +kernel) rfl)
theorem lFo_n1 : Snd "HerbWaters$Foresight" (iNEW 1 2 18) := sNEW _ rfl rfl (gtb_mem 305 (by decide +kernel) rfl) (gtb_mem 306 (by decide +kernel) rfl) (gtb_mem 99 (by decide +kernel) rfl)
theorem lFo_i11 : Snd "HerbWaters$Foresight" (iCI0 11 mDy_init) := sCI0N rfl ok_Dy_init (gtb_mem 308 (by decide +kernel) rfl) "HerbWaters" (List.mem_filter.mpr ⟨List.mem_of_getElem? (i := 307) (by decide +kernel), rfl⟩)
theorem lFo_f12 : SndI "HerbWaters$Foresight" (iPRF 12 4 1) := sPRF _ rfl rfl rfl (gtb_mem 408 (by decide +kernel) rfl)
theorem lFo_f18 : SndI "HerbWaters$Foresight" (iPRF 18 4 2) := sPRF _ rfl rfl rfl (gtb_mem 410 (by decide +kernel) rfl)
theorem lFo_f32 : SndI "HerbWaters$Foresight" (iPRF 32 4 0) := sPRF _ rfl rfl rfl (gtb_mem 407 (by decide +kernel) rfl)
def bFo_init_0 : List Ir := [iLA0, (iOI 5), iLA0, (iNEW 1 2 18), iDUPr, (iCI0 11 mDy_init), (iPRF 12 4 1), iLA0, (iBP 21), iNAI, (iPRF 18 4 2), iLA0, iC0, iNAI, (iPR 22 4 3), iLA0, iCm1, (iPI 25 4 4), iLA0, iCm1, (iPI 29 4 5), iLA0, iLA1, (iPRF 32 4 0), iRV]
def tFo_init : Tb := [(0, bFo_init_0, 46)]
theorem fFo_init_0 : tbf tFo_init 0 = some (bFo_init_0, 46) := rfl
theorem kFo_init_0 : BokI "HerbWaters$Foresight" prog_6_method_1_code (0, bFo_init_0, 46) := ⟨by decide +kernel, (List.forall_mem_cons.mpr ⟨(Snd.i sLA0), (List.forall_mem_cons.mpr ⟨(Snd.i lFo_i5), (List.forall_mem_cons.mpr ⟨(Snd.i sLA0), (List.forall_mem_cons.mpr ⟨(Snd.i lFo_n1), (List.forall_mem_cons.mpr ⟨(Snd.i sDUPr), (List.forall_mem_cons.mpr ⟨(Snd.i lFo_i11), (List.forall_mem_cons.mpr ⟨lFo_f12, (List.forall_mem_cons.mpr ⟨(Snd.i sLA0), (List.forall_mem_cons.mpr ⟨(Snd.i sBP), (List.forall_mem_cons.mpr ⟨(Snd.i (sNAI (gtb_mem 246 (by decide +kernel) rfl))), (List.forall_mem_cons.mpr ⟨lFo_f18, (List.forall_mem_cons.mpr ⟨(Snd.i sLA0), (List.forall_mem_cons.mpr ⟨(Snd.i sC0), (List.forall_mem_cons.mpr ⟨(Snd.i (sNAI (gtb_mem 246 (by decide +kernel) rfl))), (List.forall_mem_cons.mpr ⟨(Snd.i lFo_p22), (List.forall_mem_cons.mpr ⟨(Snd.i sLA0), (List.forall_mem_cons.mpr ⟨(Snd.i sCm1), (List.forall_mem_cons.mpr ⟨(Snd.i lFo_p25), (List.forall_mem_cons.mpr ⟨(Snd.i sLA0), (List.forall_mem_cons.mpr ⟨(Snd.i sCm1), (List.forall_mem_cons.mpr ⟨(Snd.i lFo_p29), (List.forall_mem_cons.mpr ⟨(Snd.i sLA0), (List.forall_mem_cons.mpr ⟨(Snd.i sLA1), (List.forall_mem_cons.mpr ⟨lFo_f32, (List.forall_mem_cons.mpr ⟨(Snd.i sRV), (fun _ h => absurd h List.not_mem_nil)⟩)⟩)⟩)⟩)⟩)⟩)⟩)⟩)⟩)⟩)⟩)⟩)⟩)⟩)⟩)⟩)⟩)⟩)⟩)⟩)⟩)⟩)⟩)⟩)⟩)⟩
theorem kFo_init : ∀ q ∈ tFo_init, BokI "HerbWaters$Foresight" prog_6_method_1_code q := (List.forall_mem_cons.mpr ⟨kFo_init_0, (fun _ h => absurd h List.not_mem_nil)⟩)
theorem rFo_init : mFo_init.2.2.2 = none := rfl
def mTs_init : Mt := (⟨"HerbWaters$Tasters", "<init>", "(LHerbWaters$Aqueduct;)V"⟩, prog_10_method_1_code, 2, none)
theorem ok_Ts_init : Mok mTs_init := ⟨gtb_mem 433 (by decide +kernel) rfl, gtb_mem 100 (by decide +kernel) rfl, by decide +kernel, by decide⟩
theorem lTs_i3 : Snd "HerbWaters$Tasters" (iOI 3) := sOI (gtb_mem 434 (by decide +kernel) rfl) (gtb_mem 130 (by decide +kernel) rfl) (gtb_mem 131 (by decide +kernel) rfl)
theorem lTs_n9 : Snd "HerbWaters$Tasters" (iNEW 9 2 18) := sNEW _ rfl rfl (gtb_mem 435 (by decide +kernel) rfl) (gtb_mem 306 (by decide +kernel) rfl) (gtb_mem 99 (by decide +kernel) rfl)
theorem lTs_i11 : Snd "HerbWaters$Tasters" (iCI0 11 mDy_init) := sCI0N rfl ok_Dy_init (gtb_mem 308 (by decide +kernel) rfl) "HerbWaters" (List.mem_filter.mpr ⟨List.mem_of_getElem? (i := 436) (by decide +kernel), rfl⟩)
theorem lTs_f12 : SndI "HerbWaters$Tasters" (iPRF 12 8 1) := sPRF _ rfl rfl rfl (gtb_mem 460 (by decide +kernel) rfl)
theorem lTs_f18 : SndI "HerbWaters$Tasters" (iPRF 18 8 2) := sPRF _ rfl rfl rfl (gtb_mem 461 (by decide +kernel) rfl)
theorem lTs_n22 : Snd "HerbWaters$Tasters" (iNEW 22 1 4) := sNEW _ rfl rfl (gtb_mem 437 (by decide +kernel) rfl) (gtb_mem 438 (by decide +kernel) rfl) (gtb_mem 101 (by decide +kernel) rfl)
theorem lTs_i24 : Snd "HerbWaters$Tasters" (iCI0 24 mBk_init) := sCI0N rfl ok_Bk_init (gtb_mem 440 (by decide +kernel) rfl) "HerbWaters" (List.mem_filter.mpr ⟨List.mem_of_getElem? (i := 439) (by decide +kernel), rfl⟩)
theorem lTs_p25 : Snd "HerbWaters$Tasters" (iPR 25 8 3) := sPR _ rfl rfl (gtb_mem 462 (by decide +kernel) rfl)
theorem lTs_f46 : SndI "HerbWaters$Tasters" (iPRF 46 8 0) := sPRF _ rfl rfl rfl (gtb_mem 459 (by decide +kernel) rfl)
def bTs_init_0 : List Ir := [iLA0, (iOI 3), iLA0, (iNEW 9 2 18), iDUPr, (iCI0 11 mDy_init), (iPRF 12 8 1), iLA0, (iBP 9), iNAI, (iPRF 18 8 2), iLA0, (iNEW 22 1 4), iDUPr, (iCI0 24 mBk_init), (iPR 25 8 3), iLA0, iC0, (iPZ 29 8 4), iLA0, iC0, (iPI 33 8 5), iLA0, iCm1, (iPI 37 8 6), iLA0, iC0, (iPI 40 8 7), iLA0, iC0, (iPI 43 8 8), iLA0, iLA1, (iPRF 46 8 0), iRV]
def tTs_init : Tb := [(0, bTs_init_0, 65)]
theorem fTs_init_0 : tbf tTs_init 0 = some (bTs_init_0, 65) := rfl
theorem kTs_init_0 : BokI "HerbWaters$Tasters" prog_10_method_1_code (0, bTs_init_0, 65) := ⟨by decide +kernel, (List.forall_mem_cons.mpr ⟨(Snd.i sLA0), (List.forall_mem_cons.mpr ⟨(Snd.i lTs_i3), (List.forall_mem_cons.mpr ⟨(Snd.i sLA0), (List.forall_mem_cons.mpr ⟨(Snd.i lTs_n9), (List.forall_mem_cons.mpr ⟨(Snd.i sDUPr), (List.forall_mem_cons.mpr ⟨(Snd.i lTs_i11), (List.forall_mem_cons.mpr ⟨lTs_f12, (List.forall_mem_cons.mpr ⟨(Snd.i sLA0), (List.forall_mem_cons.mpr ⟨(Snd.i sBP), (List.forall_mem_cons.mpr ⟨(Snd.i (sNAI (gtb_mem 246 (by decide +kernel) rfl))), (List.forall_mem_cons.mpr ⟨lTs_f18, (List.forall_mem_cons.mpr ⟨(Snd.i sLA0), (List.forall_mem_cons.mpr ⟨(Snd.i lTs_n22), (List.forall_mem_cons.mpr ⟨(Snd.i sDUPr), (List.forall_mem_cons.mpr ⟨(Snd.i lTs_i24), (List.forall_mem_cons.mpr ⟨(Snd.i lTs_p25), (List.forall_mem_cons.mpr ⟨(Snd.i sLA0), (List.forall_mem_cons.mpr ⟨(Snd.i sC0), (List.forall_mem_cons.mpr ⟨(Snd.i lTs_p29), (List.forall_mem_cons.mpr ⟨(Snd.i sLA0), (List.forall_mem_cons.mpr ⟨(Snd.i sC0), (List.forall_mem_cons.mpr ⟨(Snd.i lTs_p33), (List.forall_mem_cons.mpr ⟨(Snd.i sLA0), (List.forall_mem_cons.mpr ⟨(Snd.i sCm1), (List.forall_mem_cons.mpr ⟨(Snd.i lTs_p37), (List.forall_mem_cons.mpr ⟨(Snd.i sLA0), (List.forall_mem_cons.mpr ⟨(Snd.i sC0), (List.forall_mem_cons.mpr ⟨(Snd.i lTs_p40), (List.forall_mem_cons.mpr ⟨(Snd.i sLA0), (List.forall_mem_cons.mpr ⟨(Snd.i sC0), (List.forall_mem_cons.mpr ⟨(Snd.i lTs_p43), (List.forall_mem_cons.mpr ⟨(Snd.i sLA0), (List.forall_mem_cons.mpr ⟨(Snd.i sLA1), (List.forall_mem_cons.mpr ⟨lTs_f46, (List.forall_mem_cons.mpr ⟨(Snd.i sRV), (fun _ h => absurd h List.not_mem_nil)⟩)⟩)⟩)⟩)⟩)⟩)⟩)⟩)⟩)⟩)⟩)⟩)⟩)⟩)⟩)⟩)⟩)⟩)⟩)⟩)⟩)⟩)⟩)⟩)⟩)⟩)⟩)⟩)⟩)⟩)⟩)⟩)⟩)⟩)⟩)⟩
theorem kTs_init : ∀ q ∈ tTs_init, BokI "HerbWaters$Tasters" prog_10_method_1_code q := (List.forall_mem_cons.mpr ⟨kTs_init_0, (fun _ h => absurd h List.not_mem_nil)⟩)
theorem rTs_init : mTs_init.2.2.2 = none := rfl
def mH_init : Mt := (⟨"HerbWaters", "<init>", "()V"⟩, prog_1_method_1_code, 2, none)
theorem ok_H_init : Mok mH_init := ⟨gtb_mem 128 (by decide +kernel) rfl, gtb_mem 93 (by decide +kernel) rfl, by decide +kernel, by decide⟩
theorem lH_i1 : Snd "HerbWaters" (iOI 1) := sOI (gtb_mem 129 (by decide +kernel) rfl) (gtb_mem 130 (by decide +kernel) rfl) (gtb_mem 131 (by decide +kernel) rfl)
theorem lH_n7 : Snd "HerbWaters" (iNEW 7 7 7) := sNEW _ rfl rfl (gtb_mem 132 (by decide +kernel) rfl) (gtb_mem 133 (by decide +kernel) rfl) (gtb_mem 94 (by decide +kernel) rfl)
theorem lH_i9 : Snd "HerbWaters" (iCI0 9 mTp_init) := sCI0N rfl ok_Tp_init (gtb_mem 135 (by decide +kernel) rfl) "HerbWaters" (List.mem_filter.mpr ⟨List.mem_of_getElem? (i := 134) (by decide +kernel), rfl⟩)
theorem lH_f10 : SndI "HerbWaters" (iPRF 10 10 0) := sPRF _ rfl rfl rfl (gtb_mem 578 (by decide +kernel) rfl)
theorem lH_n16 : Snd "HerbWaters" (iNEW 16 0 6) := sNEW _ rfl rfl (gtb_mem 164 (by decide +kernel) rfl) (gtb_mem 165 (by decide +kernel) rfl) (gtb_mem 95 (by decide +kernel) rfl)
theorem lH_i18 : Snd "HerbWaters" (iCI0 18 mAq_init) := sCI0 rfl ok_Aq_init (gtb_mem 167 (by decide +kernel) rfl) (gtb_mem 166 (by decide +kernel) rfl)
theorem lH_f19 : SndI "HerbWaters" (iPRF 19 10 1) := sPRF _ rfl rfl rfl (gtb_mem 579 (by decide +kernel) rfl)
theorem lH_n23 : Snd "HerbWaters" (iNEW 23 4 6) := sNEW _ rfl rfl (gtb_mem 299 (by decide +kernel) rfl) (gtb_mem 300 (by decide +kernel) rfl) (gtb_mem 98 (by decide +kernel) rfl)
theorem lH_i25 : Snd "HerbWaters" (iCI1 25 mFo_init) := sCI1 rfl ok_Fo_init (gtb_mem 302 (by decide +kernel) rfl) (gtb_mem 301 (by decide +kernel) rfl)
theorem lH_f28 : SndI "HerbWaters" (iPRF 28 10 2) := sPRF _ rfl rfl rfl (gtb_mem 580 (by decide +kernel) rfl)
theorem lH_n32 : Snd "HerbWaters" (iNEW 32 8 9) := sNEW _ rfl rfl (gtb_mem 429 (by decide +kernel) rfl) (gtb_mem 430 (by decide +kernel) rfl) (gtb_mem 100 (by decide +kernel) rfl)
theorem lH_i34 : Snd "HerbWaters" (iCI1 34 mTs_init) := sCI1 rfl ok_Ts_init (gtb_mem 432 (by decide +kernel) rfl) (gtb_mem 431 (by decide +kernel) rfl)
theorem lH_f35 : SndI "HerbWaters" (iPRF 35 10 3) := sPRF _ rfl rfl rfl (gtb_mem 581 (by decide +kernel) rfl)
theorem lH_n39 : Snd "HerbWaters" (iNEW 39 2 18) := sNEW _ rfl rfl (gtb_mem 492 (by decide +kernel) rfl) (gtb_mem 306 (by decide +kernel) rfl) (gtb_mem 99 (by decide +kernel) rfl)
theorem lH_i41 : Snd "HerbWaters" (iCI0 41 mDy_init) := sCI0N rfl ok_Dy_init (gtb_mem 308 (by decide +kernel) rfl) "HerbWaters" (List.mem_filter.mpr ⟨List.mem_of_getElem? (i := 493) (by decide +kernel), rfl⟩)
theorem lH_f42 : SndI "HerbWaters" (iPRF 42 10 4) := sPRF _ rfl rfl rfl (gtb_mem 582 (by decide +kernel) rfl)
theorem lH_n46 : Snd "HerbWaters" (iNEW 46 3 2) := sNEW _ rfl rfl (gtb_mem 494 (by decide +kernel) rfl) (gtb_mem 495 (by decide +kernel) rfl) (gtb_mem 102 (by decide +kernel) rfl)
theorem lH_i48 : Snd "HerbWaters" (iCI0 48 mDi_init) := sCI0N rfl ok_Di_init (gtb_mem 497 (by decide +kernel) rfl) "HerbWaters" (List.mem_filter.mpr ⟨List.mem_of_getElem? (i := 496) (by decide +kernel), rfl⟩)
theorem lH_f49 : SndI "HerbWaters" (iPRF 49 10 5) := sPRF _ rfl rfl rfl (gtb_mem 583 (by decide +kernel) rfl)
theorem lH_a39 : Snd "HerbWaters" (iAOD 39) := sAOD (gtb_mem 492 (by decide +kernel) rfl)
theorem lH_f53 : SndI "HerbWaters" (iPRF 53 10 6) := sPRF _ rfl rfl rfl (gtb_mem 584 (by decide +kernel) rfl)
theorem lH_f57 : SndI "HerbWaters" (iPRF 57 10 7) := sPRF _ rfl rfl rfl (gtb_mem 585 (by decide +kernel) rfl)
theorem lH_n61 : Snd "HerbWaters" (iNEW 61 9 15) := sNEW _ rfl rfl (gtb_mem 510 (by decide +kernel) rfl) (gtb_mem 171 (by decide +kernel) rfl) (gtb_mem 96 (by decide +kernel) rfl)
theorem lH_i63 : Snd "HerbWaters" (iCI0 63 mTn_init) := sCI0N rfl ok_Tn_init (gtb_mem 173 (by decide +kernel) rfl) "HerbWaters" (List.mem_filter.mpr ⟨List.mem_of_getElem? (i := 511) (by decide +kernel), rfl⟩)
theorem lH_n68 : Snd "HerbWaters" (iNEW 68 5 6) := sNEW _ rfl rfl (gtb_mem 512 (by decide +kernel) rfl) (gtb_mem 249 (by decide +kernel) rfl) (gtb_mem 97 (by decide +kernel) rfl)
theorem lH_i70 : Snd "HerbWaters" (iCI0 70 mOp_init) := sCI0N rfl ok_Op_init (gtb_mem 251 (by decide +kernel) rfl) "HerbWaters" (List.mem_filter.mpr ⟨List.mem_of_getElem? (i := 513) (by decide +kernel), rfl⟩)
theorem lH_n75 : Snd "HerbWaters" (iNEW 75 6 3) := sNEW _ rfl rfl (gtb_mem 514 (by decide +kernel) rfl) (gtb_mem 515 (by decide +kernel) rfl) (gtb_mem 103 (by decide +kernel) rfl)
theorem lH_i77 : Snd "HerbWaters" (iCI2 77 mOr_init) := sCI2 rfl ok_Or_init (gtb_mem 517 (by decide +kernel) rfl) (gtb_mem 516 (by decide +kernel) rfl)
theorem lH_f80 : SndI "HerbWaters" (iPRF 80 10 10) := sPRF _ rfl rfl rfl (gtb_mem 588 (by decide +kernel) rfl)
theorem lH_n84 : Snd "HerbWaters" (iNEW 84 1 4) := sNEW _ rfl rfl (gtb_mem 530 (by decide +kernel) rfl) (gtb_mem 438 (by decide +kernel) rfl) (gtb_mem 101 (by decide +kernel) rfl)
theorem lH_i86 : Snd "HerbWaters" (iCI0 86 mBk_init) := sCI0N rfl ok_Bk_init (gtb_mem 440 (by decide +kernel) rfl) "HerbWaters" (List.mem_filter.mpr ⟨List.mem_of_getElem? (i := 531) (by decide +kernel), rfl⟩)
def bH_init_0 : List Ir := [iLA0, (iOI 1), iLA0, (iNEW 7 7 7), iDUPr, (iCI0 9 mTp_init), (iPRF 10 10 0), iLA0, (iNEW 16 0 6), iDUPr, (iCI0 18 mAq_init), (iPRF 19 10 1), iLA0, (iNEW 23 4 6), iDUPr, iLA0, (iGR 19 10 1), (iCI1 25 mFo_init), (iPRF 28 10 2), iLA0, (iNEW 32 8 9), iDUPr, iLA0, (iGR 19 10 1), (iCI1 34 mTs_init), (iPRF 35 10 3), iLA0, (iNEW 39 2 18), iDUPr, (iCI0 41 mDy_init), (iPRF 42 10 4), iLA0, (iNEW 46 3 2), iDUPr, (iCI0 48 mDi_init), (iPRF 49 10 5), iLA0, iC3, (iAOD 39), (iPRF 53 10 6), iLA0, iC3, iNAI, (iPRF 57 10 7), iLA0, (iNEW 61 9 15), iDUPr, (iCI0 63 mTn_init), (iPR 64 10 8), iLA0, (iNEW 68 5 6), iDUPr, (iCI0 70 mOp_init), (iPR 71 10 9), iLA0, (iNEW 75 6 3), iDUPr, iLA0, (iGR 10 10 0), iLA0, (iGR 71 10 9), (iCI2 77 mOr_init), (iPRF 80 10 10), iLA0, (iNEW 84 1 4), iDUPr, (iCI0 86 mBk_init), (iPR 87 10 11), iLA0, iC0, (iPI 91 10 12), iLA0, iC0, (iPI 95 10 13), iLA0, iC0, (iPI 98 10 14), iC0, iSI1]
def bH_init_162 : List Ir := [iLI1, iC3, (iICge (22) 186)]
def bH_init_167 : List Ir := [iLA0, (iGR 53 10 6), iLI1, (iNEW 39 2 18), iDUPr, (iCI0 41 mDy_init), iAAST105, (iINC1 1), (iGO (-21) 162)]
def bH_init_186 : List Ir := [iLA0, (iGR 42 10 4), iLA0, (iGR 19 10 1), (iGR 101 0 0), (iCV1 104 2 mDy_begin), iLA0, (iGR 49 10 5), iLA0, (iGR 42 10 4), (iCV1 108 3 mDi_begin), iRV]
def tH_init : Tb := [(0, bH_init_0, 162), (162, bH_init_162, 167), (167, bH_init_167, 186), (186, bH_init_186, 212)]
theorem fH_init_0 : tbf tH_init 0 = some (bH_init_0, 162) := rfl
theorem fH_init_162 : tbf tH_init 162 = some (bH_init_162, 167) := rfl
theorem fH_init_167 : tbf tH_init 167 = some (bH_init_167, 186) := rfl
theorem fH_init_186 : tbf tH_init 186 = some (bH_init_186, 212) := rfl
theorem kH_init_0 : BokI "HerbWaters" prog_1_method_1_code (0, bH_init_0, 162) := ⟨by decide +kernel, (List.forall_mem_cons.mpr ⟨(Snd.i sLA0), (List.forall_mem_cons.mpr ⟨(Snd.i lH_i1), (List.forall_mem_cons.mpr ⟨(Snd.i sLA0), (List.forall_mem_cons.mpr ⟨(Snd.i lH_n7), (List.forall_mem_cons.mpr ⟨(Snd.i sDUPr), (List.forall_mem_cons.mpr ⟨(Snd.i lH_i9), (List.forall_mem_cons.mpr ⟨lH_f10, (List.forall_mem_cons.mpr ⟨(Snd.i sLA0), (List.forall_mem_cons.mpr ⟨(Snd.i lH_n16), (List.forall_mem_cons.mpr ⟨(Snd.i sDUPr), (List.forall_mem_cons.mpr ⟨(Snd.i lH_i18), (List.forall_mem_cons.mpr ⟨lH_f19, (List.forall_mem_cons.mpr ⟨(Snd.i sLA0), (List.forall_mem_cons.mpr ⟨(Snd.i lH_n23), (List.forall_mem_cons.mpr ⟨(Snd.i sDUPr), (List.forall_mem_cons.mpr ⟨(Snd.i sLA0), (List.forall_mem_cons.mpr ⟨(Snd.i lH_g19), (List.forall_mem_cons.mpr ⟨(Snd.i lH_i25), (List.forall_mem_cons.mpr ⟨lH_f28, (List.forall_mem_cons.mpr ⟨(Snd.i sLA0), (List.forall_mem_cons.mpr ⟨(Snd.i lH_n32), (List.forall_mem_cons.mpr ⟨(Snd.i sDUPr), (List.forall_mem_cons.mpr ⟨(Snd.i sLA0), (List.forall_mem_cons.mpr ⟨(Snd.i lH_g19), (List.forall_mem_cons.mpr ⟨(Snd.i lH_i34), (List.forall_mem_cons.mpr ⟨lH_f35, (List.forall_mem_cons.mpr ⟨(Snd.i sLA0), (List.forall_mem_cons.mpr ⟨(Snd.i lH_n39), (List.forall_mem_cons.mpr ⟨(Snd.i sDUPr), (List.forall_mem_cons.mpr ⟨(Snd.i lH_i41), (List.forall_mem_cons.mpr ⟨lH_f42, (List.forall_mem_cons.mpr ⟨(Snd.i sLA0), (List.forall_mem_cons.mpr ⟨(Snd.i lH_n46), (List.forall_mem_cons.mpr ⟨(Snd.i sDUPr), (List.forall_mem_cons.mpr ⟨(Snd.i lH_i48), (List.forall_mem_cons.mpr ⟨lH_f49, (List.forall_mem_cons.mpr ⟨(Snd.i sLA0), (List.forall_mem_cons.mpr ⟨(Snd.i sC3), (List.forall_mem_cons.mpr ⟨(Snd.i lH_a39), (List.forall_mem_cons.mpr ⟨lH_f53, (List.forall_mem_cons.mpr ⟨(Snd.i sLA0), (List.forall_mem_cons.mpr ⟨(Snd.i sC3), (List.forall_mem_cons.mpr ⟨(Snd.i (sNAI (gtb_mem 246 (by decide +kernel) rfl))), (List.forall_mem_cons.mpr ⟨lH_f57, (List.forall_mem_cons.mpr ⟨(Snd.i sLA0), (List.forall_mem_cons.mpr ⟨(Snd.i lH_n61), (List.forall_mem_cons.mpr ⟨(Snd.i sDUPr), (List.forall_mem_cons.mpr ⟨(Snd.i lH_i63), (List.forall_mem_cons.mpr ⟨(Snd.i lH_p64), (List.forall_mem_cons.mpr ⟨(Snd.i sLA0), (List.forall_mem_cons.mpr ⟨(Snd.i lH_n68), (List.forall_mem_cons.mpr ⟨(Snd.i sDUPr), (List.forall_mem_cons.mpr ⟨(Snd.i lH_i70), (List.forall_mem_cons.mpr ⟨(Snd.i lH_p71), (List.forall_mem_cons.mpr ⟨(Snd.i sLA0), (List.forall_mem_cons.mpr ⟨(Snd.i lH_n75), (List.forall_mem_cons.mpr ⟨(Snd.i sDUPr), (List.forall_mem_cons.mpr ⟨(Snd.i sLA0), (List.forall_mem_cons.mpr ⟨(Snd.i lH_g10), (List.forall_mem_cons.mpr ⟨(Snd.i sLA0), (List.forall_mem_cons.mpr ⟨(Snd.i lH_g71), (List.forall_mem_cons.mpr ⟨(Snd.i lH_i77), (List.forall_mem_cons.mpr ⟨lH_f80, (List.forall_mem_cons.mpr ⟨(Snd.i sLA0), (List.forall_mem_cons.mpr ⟨(Snd.i lH_n84), (List.forall_mem_cons.mpr ⟨(Snd.i sDUPr), (List.forall_mem_cons.mpr ⟨(Snd.i lH_i86), (List.forall_mem_cons.mpr ⟨(Snd.i lH_p87), (List.forall_mem_cons.mpr ⟨(Snd.i sLA0), (List.forall_mem_cons.mpr ⟨(Snd.i sC0), (List.forall_mem_cons.mpr ⟨(Snd.i lH_p91), (List.forall_mem_cons.mpr ⟨(Snd.i sLA0), (List.forall_mem_cons.mpr ⟨(Snd.i sC0), (List.forall_mem_cons.mpr ⟨(Snd.i lH_p95), (List.forall_mem_cons.mpr ⟨(Snd.i sLA0), (List.forall_mem_cons.mpr ⟨(Snd.i sC0), (List.forall_mem_cons.mpr ⟨(Snd.i lH_p98), (List.forall_mem_cons.mpr ⟨(Snd.i sC0), (List.forall_mem_cons.mpr ⟨(Snd.i sSI1), (fun _ h => absurd h List.not_mem_nil)⟩)⟩)⟩)⟩)⟩)⟩)⟩)⟩)⟩)⟩)⟩)⟩)⟩)⟩)⟩)⟩)⟩)⟩)⟩)⟩)⟩)⟩)⟩)⟩)⟩)⟩)⟩)⟩)⟩)⟩)⟩)⟩)⟩)⟩)⟩)⟩)⟩)⟩)⟩)⟩)⟩)⟩)⟩)⟩)⟩)⟩)⟩)⟩)⟩)⟩)⟩)⟩)⟩)⟩)⟩)⟩)⟩)⟩)⟩)⟩)⟩)⟩)⟩)⟩)⟩)⟩)⟩)⟩)⟩)⟩)⟩)⟩)⟩)⟩)⟩)⟩)⟩)⟩)⟩)⟩
theorem kH_init_162 : BokI "HerbWaters" prog_1_method_1_code (162, bH_init_162, 167) := ⟨by decide +kernel, (List.forall_mem_cons.mpr ⟨(Snd.i sLI1), (List.forall_mem_cons.mpr ⟨(Snd.i sC3), (List.forall_mem_cons.mpr ⟨(Snd.i sICge), (fun _ h => absurd h List.not_mem_nil)⟩)⟩)⟩)⟩
theorem kH_init_167 : BokI "HerbWaters" prog_1_method_1_code (167, bH_init_167, 186) := ⟨by decide +kernel, (List.forall_mem_cons.mpr ⟨(Snd.i sLA0), (List.forall_mem_cons.mpr ⟨(Snd.i lH_g53), (List.forall_mem_cons.mpr ⟨(Snd.i sLI1), (List.forall_mem_cons.mpr ⟨(Snd.i lH_n39), (List.forall_mem_cons.mpr ⟨(Snd.i sDUPr), (List.forall_mem_cons.mpr ⟨(Snd.i lH_i41), (List.forall_mem_cons.mpr ⟨(Snd.i sAAST105), (List.forall_mem_cons.mpr ⟨(Snd.i sINC1), (List.forall_mem_cons.mpr ⟨(Snd.i sGO), (fun _ h => absurd h List.not_mem_nil)⟩)⟩)⟩)⟩)⟩)⟩)⟩)⟩)⟩)⟩
theorem kH_init_186 : BokI "HerbWaters" prog_1_method_1_code (186, bH_init_186, 212) := ⟨by decide +kernel, (List.forall_mem_cons.mpr ⟨(Snd.i sLA0), (List.forall_mem_cons.mpr ⟨(Snd.i lH_g42), (List.forall_mem_cons.mpr ⟨(Snd.i sLA0), (List.forall_mem_cons.mpr ⟨(Snd.i lH_g19), (List.forall_mem_cons.mpr ⟨(Snd.i lH_g101), (List.forall_mem_cons.mpr ⟨(Snd.i lH_v104), (List.forall_mem_cons.mpr ⟨(Snd.i sLA0), (List.forall_mem_cons.mpr ⟨(Snd.i lH_g49), (List.forall_mem_cons.mpr ⟨(Snd.i sLA0), (List.forall_mem_cons.mpr ⟨(Snd.i lH_g42), (List.forall_mem_cons.mpr ⟨(Snd.i lH_v108), (List.forall_mem_cons.mpr ⟨(Snd.i sRV), (fun _ h => absurd h List.not_mem_nil)⟩)⟩)⟩)⟩)⟩)⟩)⟩)⟩)⟩)⟩)⟩)⟩)⟩
theorem kH_init : ∀ q ∈ tH_init, BokI "HerbWaters" prog_1_method_1_code q := (List.forall_mem_cons.mpr ⟨kH_init_0, (List.forall_mem_cons.mpr ⟨kH_init_162, (List.forall_mem_cons.mpr ⟨kH_init_167, (List.forall_mem_cons.mpr ⟨kH_init_186, (fun _ h => absurd h List.not_mem_nil)⟩)⟩)⟩)⟩)
theorem rH_init : mH_init.2.2.2 = none := rfl
