/-! code of the class; by program (wip/whole/gen_X.py) -/
def mDy_isNextDry : Mt := (⟨"HerbWaters$Days", "isNextDry", "()Z"⟩, prog_4_method_13_code, 1, some .boolean)
theorem ok_Dy_isNextDry : Mok mDy_isNextDry := ⟨gtb_mem 1003 (by decide +kernel) rfl, gtb_mem 99 (by decide +kernel) rfl, by decide +kernel, by decide⟩
theorem lDy_k101 : Snd "HerbWaters$Days" (iLDC 101 1103515245) := sLDC (gtb_mem 1004 (by decide +kernel) rfl)
def bDy_isNextDry_0 : List Ir := [iLA0, (iGI 64 2 17), (iIFne (5) 9)]
def bDy_isNextDry_7 : List Ir := [iC0, iRI]
def bDy_isNextDry_9 : List Ir := [iLA0, iLA0, (iGI 61 2 16), (iLDC 101 1103515245), iMUL, (iSP 12345), iADD, (iPI 61 2 16), iLA0, (iGI 61 2 16), (iBP 16), iUSHR, (iBP 15), iAND, iLA0, (iGI 64 2 17), (iICge (7) 45)]
def bDy_isNextDry_41 : List Ir := [iC1, (iGO (4) 46)]
def bDy_isNextDry_45 : List Ir := [iC0]
def bDy_isNextDry_46 : List Ir := [iRI]
def tDy_isNextDry : Tb := [(0, bDy_isNextDry_0, 7), (7, bDy_isNextDry_7, 9), (9, bDy_isNextDry_9, 41), (41, bDy_isNextDry_41, 45), (45, bDy_isNextDry_45, 46), (46, bDy_isNextDry_46, 47)]
theorem fDy_isNextDry_0 : tbf tDy_isNextDry 0 = some (bDy_isNextDry_0, 7) := rfl
theorem fDy_isNextDry_7 : tbf tDy_isNextDry 7 = some (bDy_isNextDry_7, 9) := rfl
theorem fDy_isNextDry_9 : tbf tDy_isNextDry 9 = some (bDy_isNextDry_9, 41) := rfl
theorem fDy_isNextDry_41 : tbf tDy_isNextDry 41 = some (bDy_isNextDry_41, 45) := rfl
theorem fDy_isNextDry_45 : tbf tDy_isNextDry 45 = some (bDy_isNextDry_45, 46) := rfl
theorem fDy_isNextDry_46 : tbf tDy_isNextDry 46 = some (bDy_isNextDry_46, 47) := rfl
theorem kDy_isNextDry_0 : Bok "HerbWaters$Days" prog_4_method_13_code (0, bDy_isNextDry_0, 7) := ⟨by decide +kernel, (List.forall_mem_cons.mpr ⟨sLA0, (List.forall_mem_cons.mpr ⟨lDy_g64, (List.forall_mem_cons.mpr ⟨sIFne, (fun _ h => absurd h List.not_mem_nil)⟩)⟩)⟩)⟩
theorem kDy_isNextDry_7 : Bok "HerbWaters$Days" prog_4_method_13_code (7, bDy_isNextDry_7, 9) := ⟨by decide +kernel, (List.forall_mem_cons.mpr ⟨sC0, (List.forall_mem_cons.mpr ⟨sRI, (fun _ h => absurd h List.not_mem_nil)⟩)⟩)⟩
theorem kDy_isNextDry_9 : Bok "HerbWaters$Days" prog_4_method_13_code (9, bDy_isNextDry_9, 41) := ⟨by decide +kernel, (List.forall_mem_cons.mpr ⟨sLA0, (List.forall_mem_cons.mpr ⟨sLA0, (List.forall_mem_cons.mpr ⟨lDy_g61, (List.forall_mem_cons.mpr ⟨lDy_k101, (List.forall_mem_cons.mpr ⟨sMUL, (List.forall_mem_cons.mpr ⟨sSP, (List.forall_mem_cons.mpr ⟨sADD, (List.forall_mem_cons.mpr ⟨lDy_p61, (List.forall_mem_cons.mpr ⟨sLA0, (List.forall_mem_cons.mpr ⟨lDy_g61, (List.forall_mem_cons.mpr ⟨sBP, (List.forall_mem_cons.mpr ⟨sUSHR, (List.forall_mem_cons.mpr ⟨sBP, (List.forall_mem_cons.mpr ⟨sAND, (List.forall_mem_cons.mpr ⟨sLA0, (List.forall_mem_cons.mpr ⟨lDy_g64, (List.forall_mem_cons.mpr ⟨sICge, (fun _ h => absurd h List.not_mem_nil)⟩)⟩)⟩)⟩)⟩)⟩)⟩)⟩)⟩)⟩)⟩)⟩)⟩)⟩)⟩)⟩)⟩)⟩
theorem kDy_isNextDry_41 : Bok "HerbWaters$Days" prog_4_method_13_code (41, bDy_isNextDry_41, 45) := ⟨by decide +kernel, (List.forall_mem_cons.mpr ⟨sC1, (List.forall_mem_cons.mpr ⟨sGO, (fun _ h => absurd h List.not_mem_nil)⟩)⟩)⟩
theorem kDy_isNextDry_45 : Bok "HerbWaters$Days" prog_4_method_13_code (45, bDy_isNextDry_45, 46) := ⟨by decide +kernel, (List.forall_mem_cons.mpr ⟨sC0, (fun _ h => absurd h List.not_mem_nil)⟩)⟩
theorem kDy_isNextDry_46 : Bok "HerbWaters$Days" prog_4_method_13_code (46, bDy_isNextDry_46, 47) := ⟨by decide +kernel, (List.forall_mem_cons.mpr ⟨sRI, (fun _ h => absurd h List.not_mem_nil)⟩)⟩
theorem kDy_isNextDry : ∀ q ∈ tDy_isNextDry, Bok "HerbWaters$Days" prog_4_method_13_code q := (List.forall_mem_cons.mpr ⟨kDy_isNextDry_0, (List.forall_mem_cons.mpr ⟨kDy_isNextDry_7, (List.forall_mem_cons.mpr ⟨kDy_isNextDry_9, (List.forall_mem_cons.mpr ⟨kDy_isNextDry_41, (List.forall_mem_cons.mpr ⟨kDy_isNextDry_45, (List.forall_mem_cons.mpr ⟨kDy_isNextDry_46, (fun _ h => absurd h List.not_mem_nil)⟩)⟩)⟩)⟩)⟩)⟩)
theorem rDy_isNextDry : mDy_isNextDry.2.2.2 = some .boolean := rfl
def mDy_pastCell : Mt := (⟨"HerbWaters$Days", "pastCell", "(II)I"⟩, prog_4_method_14_code, 3, some .int)
theorem ok_Dy_pastCell : Mok mDy_pastCell := ⟨gtb_mem 546 (by decide +kernel) rfl, gtb_mem 99 (by decide +kernel) rfl, by decide +kernel, by decide⟩
theorem lDy_s102 : Snd "HerbWaters$Days" (iMAX 102) := sMAX (gtb_mem 547 (by decide +kernel) rfl) (gtb_mem 548 (by decide +kernel) rfl) (gtb_mem 105 (by decide +kernel) rfl) (gtb_mem 549 (by decide +kernel) rfl)
def bDy_pastCell_0 : List Ir := [iC0, iLI2, (iMAX 102), iC5, iREM, (iBP 9), iMUL, iLI1, iADD, iC4, iMUL, iRI]
def tDy_pastCell : Tb := [(0, bDy_pastCell_0, 15)]
theorem fDy_pastCell_0 : tbf tDy_pastCell 0 = some (bDy_pastCell_0, 15) := rfl
theorem kDy_pastCell_0 : Bok "HerbWaters$Days" prog_4_method_14_code (0, bDy_pastCell_0, 15) := ⟨by decide +kernel, (List.forall_mem_cons.mpr ⟨sC0, (List.forall_mem_cons.mpr ⟨sLI2, (List.forall_mem_cons.mpr ⟨lDy_s102, (List.forall_mem_cons.mpr ⟨sC5, (List.forall_mem_cons.mpr ⟨sREM, (List.forall_mem_cons.mpr ⟨sBP, (List.forall_mem_cons.mpr ⟨sMUL, (List.forall_mem_cons.mpr ⟨sLI1, (List.forall_mem_cons.mpr ⟨sADD, (List.forall_mem_cons.mpr ⟨sC4, (List.forall_mem_cons.mpr ⟨sMUL, (List.forall_mem_cons.mpr ⟨sRI, (fun _ h => absurd h List.not_mem_nil)⟩)⟩)⟩)⟩)⟩)⟩)⟩)⟩)⟩)⟩)⟩)⟩)⟩
theorem kDy_pastCell : ∀ q ∈ tDy_pastCell, Bok "HerbWaters$Days" prog_4_method_14_code q := (List.forall_mem_cons.mpr ⟨kDy_pastCell_0, (fun _ h => absurd h List.not_mem_nil)⟩)
theorem rDy_pastCell : mDy_pastCell.2.2.2 = some .int := rfl
theorem lDy_g107 : Snd "HerbWaters$Days" (iGR 107 9 3) := sGRN _ rfl "HerbWaters" (List.mem_filter.mpr ⟨List.mem_of_getElem? (i := 186) (by decide +kernel), rfl⟩)
theorem lDy_v110 : Snd "HerbWaters$Days" (iCV2 110 2 mDy_pastCell) := sCV2 _ rfl rfl ok_Dy_pastCell (gtb_mem 544 (by decide +kernel) rfl) (gtb_mem 545 (by decide +kernel) rfl) (gtb_mem 543 (by decide +kernel) rfl)
theorem lDy_v113 : Snd "HerbWaters$Days" (iCV1 113 2 mDy_waterIn) := sCV1 _ rfl rfl ok_Dy_waterIn (gtb_mem 551 (by decide +kernel) rfl) (gtb_mem 552 (by decide +kernel) rfl) (gtb_mem 550 (by decide +kernel) rfl)
def bDy_remember_0 : List Ir := [iC0, iSI2]
def bDy_remember_2 : List Ir := [iLI2, iLA0, (iGI 33 2 7), (iICge (72) 79)]
def bDy_remember_10 : List Ir := [iLA1, (iGR 107 9 3), iLI2, iIALD, (iIFle (57) 73)]
def bDy_remember_19 : List Ir := [iLA0, iLI2, iLA0, (iGI 40 2 9), (iCV2 110 2 mDy_pastCell), iSI3, iLA0, (iGR 15 2 1), iLI3, iLA0, iLI2, (iCV1 113 2 mDy_waterIn), iIAST, iC0, iSI4]
def bDy_remember_43 : List Ir := [iLI4, iC3, (iICge (27) 73)]
def bDy_remember_49 : List Ir := [iLA0, (iGR 15 2 1), iLI3, iC1, iADD, iLI4, iADD, iLA0, iLI2, iLI4, (iCV2 93 2 mDy_herbIn), iIAST, (iINC4 1), (iGO (-27) 43)]
def bDy_remember_73 : List Ir := [(iINC2 1), (iGO (-74) 2)]
def bDy_remember_79 : List Ir := [iRV]
def tDy_remember : Tb := [(0, bDy_remember_0, 2), (2, bDy_remember_2, 10), (10, bDy_remember_10, 19), (19, bDy_remember_19, 43), (43, bDy_remember_43, 49), (49, bDy_remember_49, 73), (73, bDy_remember_73, 79), (79, bDy_remember_79, 80)]
theorem fDy_remember_0 : tbf tDy_remember 0 = some (bDy_remember_0, 2) := rfl
theorem fDy_remember_2 : tbf tDy_remember 2 = some (bDy_remember_2, 10) := rfl
theorem fDy_remember_10 : tbf tDy_remember 10 = some (bDy_remember_10, 19) := rfl
theorem fDy_remember_19 : tbf tDy_remember 19 = some (bDy_remember_19, 43) := rfl
theorem fDy_remember_43 : tbf tDy_remember 43 = some (bDy_remember_43, 49) := rfl
theorem fDy_remember_49 : tbf tDy_remember 49 = some (bDy_remember_49, 73) := rfl
theorem fDy_remember_73 : tbf tDy_remember 73 = some (bDy_remember_73, 79) := rfl
theorem fDy_remember_79 : tbf tDy_remember 79 = some (bDy_remember_79, 80) := rfl
theorem kDy_remember_0 : Bok "HerbWaters$Days" prog_4_method_15_code (0, bDy_remember_0, 2) := ⟨by decide +kernel, (List.forall_mem_cons.mpr ⟨sC0, (List.forall_mem_cons.mpr ⟨sSI2, (fun _ h => absurd h List.not_mem_nil)⟩)⟩)⟩
theorem kDy_remember_2 : Bok "HerbWaters$Days" prog_4_method_15_code (2, bDy_remember_2, 10) := ⟨by decide +kernel, (List.forall_mem_cons.mpr ⟨sLI2, (List.forall_mem_cons.mpr ⟨sLA0, (List.forall_mem_cons.mpr ⟨lDy_g33, (List.forall_mem_cons.mpr ⟨sICge, (fun _ h => absurd h List.not_mem_nil)⟩)⟩)⟩)⟩)⟩
theorem kDy_remember_10 : Bok "HerbWaters$Days" prog_4_method_15_code (10, bDy_remember_10, 19) := ⟨by decide +kernel, (List.forall_mem_cons.mpr ⟨sLA1, (List.forall_mem_cons.mpr ⟨lDy_g107, (List.forall_mem_cons.mpr ⟨sLI2, (List.forall_mem_cons.mpr ⟨sIALD, (List.forall_mem_cons.mpr ⟨sIFle, (fun _ h => absurd h List.not_mem_nil)⟩)⟩)⟩)⟩)⟩)⟩
theorem kDy_remember_19 : Bok "HerbWaters$Days" prog_4_method_15_code (19, bDy_remember_19, 43) := ⟨by decide +kernel, (List.forall_mem_cons.mpr ⟨sLA0, (List.forall_mem_cons.mpr ⟨sLI2, (List.forall_mem_cons.mpr ⟨sLA0, (List.forall_mem_cons.mpr ⟨lDy_g40, (List.forall_mem_cons.mpr ⟨lDy_v110, (List.forall_mem_cons.mpr ⟨sSI3, (List.forall_mem_cons.mpr ⟨sLA0, (List.forall_mem_cons.mpr ⟨lDy_g15, (List.forall_mem_cons.mpr ⟨sLI3, (List.forall_mem_cons.mpr ⟨sLA0, (List.forall_mem_cons.mpr ⟨sLI2, (List.forall_mem_cons.mpr ⟨lDy_v113, (List.forall_mem_cons.mpr ⟨sIAST, (List.forall_mem_cons.mpr ⟨sC0, (List.forall_mem_cons.mpr ⟨sSI4, (fun _ h => absurd h List.not_mem_nil)⟩)⟩)⟩)⟩)⟩)⟩)⟩)⟩)⟩)⟩)⟩)⟩)⟩)⟩)⟩)⟩
theorem kDy_remember_43 : Bok "HerbWaters$Days" prog_4_method_15_code (43, bDy_remember_43, 49) := ⟨by decide +kernel, (List.forall_mem_cons.mpr ⟨sLI4, (List.forall_mem_cons.mpr ⟨sC3, (List.forall_mem_cons.mpr ⟨sICge, (fun _ h => absurd h List.not_mem_nil)⟩)⟩)⟩)⟩
theorem kDy_remember_49 : Bok "HerbWaters$Days" prog_4_method_15_code (49, bDy_remember_49, 73) := ⟨by decide +kernel, (List.forall_mem_cons.mpr ⟨sLA0, (List.forall_mem_cons.mpr ⟨lDy_g15, (List.forall_mem_cons.mpr ⟨sLI3, (List.forall_mem_cons.mpr ⟨sC1, (List.forall_mem_cons.mpr ⟨sADD, (List.forall_mem_cons.mpr ⟨sLI4, (List.forall_mem_cons.mpr ⟨sADD, (List.forall_mem_cons.mpr ⟨sLA0, (List.forall_mem_cons.mpr ⟨sLI2, (List.forall_mem_cons.mpr ⟨sLI4, (List.forall_mem_cons.mpr ⟨lDy_v93, (List.forall_mem_cons.mpr ⟨sIAST, (List.forall_mem_cons.mpr ⟨sINC4, (List.forall_mem_cons.mpr ⟨sGO, (fun _ h => absurd h List.not_mem_nil)⟩)⟩)⟩)⟩)⟩)⟩)⟩)⟩)⟩)⟩)⟩)⟩)⟩)⟩)⟩
theorem kDy_remember_73 : Bok "HerbWaters$Days" prog_4_method_15_code (73, bDy_remember_73, 79) := ⟨by decide +kernel, (List.forall_mem_cons.mpr ⟨sINC2, (List.forall_mem_cons.mpr ⟨sGO, (fun _ h => absurd h List.not_mem_nil)⟩)⟩)⟩
theorem kDy_remember_79 : Bok "HerbWaters$Days" prog_4_method_15_code (79, bDy_remember_79, 80) := ⟨by decide +kernel, (List.forall_mem_cons.mpr ⟨sRV, (fun _ h => absurd h List.not_mem_nil)⟩)⟩
theorem kDy_remember : ∀ q ∈ tDy_remember, Bok "HerbWaters$Days" prog_4_method_15_code q := (List.forall_mem_cons.mpr ⟨kDy_remember_0, (List.forall_mem_cons.mpr ⟨kDy_remember_2, (List.forall_mem_cons.mpr ⟨kDy_remember_10, (List.forall_mem_cons.mpr ⟨kDy_remember_19, (List.forall_mem_cons.mpr ⟨kDy_remember_43, (List.forall_mem_cons.mpr ⟨kDy_remember_49, (List.forall_mem_cons.mpr ⟨kDy_remember_73, (List.forall_mem_cons.mpr ⟨kDy_remember_79, (fun _ h => absurd h List.not_mem_nil)⟩)⟩)⟩)⟩)⟩)⟩)⟩)⟩)
theorem rDy_remember : mDy_remember.2.2.2 = none := rfl
def mDi_begin : Mt := (⟨"HerbWaters$Diary", "begin", "(LHerbWaters$Days;)V"⟩, prog_5_method_2_code, 2, none)
theorem ok_Di_begin : Mok mDi_begin := ⟨gtb_mem 565 (by decide +kernel) rfl, gtb_mem 102 (by decide +kernel) rfl, by decide +kernel, by decide⟩
theorem lDi_g21 : Snd "HerbWaters$Diary" (iGI 21 2 9) := sGIN _ rfl "HerbWaters" (List.mem_filter.mpr ⟨List.mem_of_getElem? (i := 343) (by decide +kernel), rfl⟩)
theorem lDi_p17 : Snd "HerbWaters$Diary" (iPI 17 3 1) := sPI _ rfl rfl (gtb_mem 503 (by decide +kernel) rfl)
def mDi_note : Mt := (⟨"HerbWaters$Diary", "note", "(LHerbWaters$Days;)V"⟩, prog_5_method_3_code, 4, none)
theorem ok_Di_note : Mok mDi_note := ⟨gtb_mem 569 (by decide +kernel) rfl, gtb_mem 102 (by decide +kernel) rfl, by decide +kernel, by decide⟩
theorem lDi_v24 : Snd "HerbWaters$Diary" (iCV1 24 3 mDi_note) := sCV1 _ rfl rfl ok_Di_note (gtb_mem 567 (by decide +kernel) rfl) (gtb_mem 568 (by decide +kernel) rfl) (gtb_mem 566 (by decide +kernel) rfl)
def bDi_begin_0 : List Ir := [iLA0, iLA1, (iGI 21 2 9), (iPI 17 3 1), iLA0, iLA1, (iCV1 24 3 mDi_note), iRV]
def tDi_begin : Tb := [(0, bDi_begin_0, 14)]
theorem fDi_begin_0 : tbf tDi_begin 0 = some (bDi_begin_0, 14) := rfl
theorem kDi_begin_0 : Bok "HerbWaters$Diary" prog_5_method_2_code (0, bDi_begin_0, 14) := ⟨by decide +kernel, (List.forall_mem_cons.mpr ⟨sLA0, (List.forall_mem_cons.mpr ⟨sLA1, (List.forall_mem_cons.mpr ⟨lDi_g21, (List.forall_mem_cons.mpr ⟨lDi_p17, (List.forall_mem_cons.mpr ⟨sLA0, (List.forall_mem_cons.mpr ⟨sLA1, (List.forall_mem_cons.mpr ⟨lDi_v24, (List.forall_mem_cons.mpr ⟨sRV, (fun _ h => absurd h List.not_mem_nil)⟩)⟩)⟩)⟩)⟩)⟩)⟩)⟩)⟩
theorem kDi_begin : ∀ q ∈ tDi_begin, Bok "HerbWaters$Diary" prog_5_method_2_code q := (List.forall_mem_cons.mpr ⟨kDi_begin_0, (fun _ h => absurd h List.not_mem_nil)⟩)
theorem rDi_begin : mDi_begin.2.2.2 = none := rfl
theorem lDi_g17 : Snd "HerbWaters$Diary" (iGI 17 3 1) := sGI _ rfl (gtb_mem 503 (by decide +kernel) rfl)
theorem lDi_g13 : Snd "HerbWaters$Diary" (iGR 13 3 0) := sGR _ rfl (gtb_mem 502 (by decide +kernel) rfl)
theorem lDi_n11 : Snd "HerbWaters$Diary" (iNEW 11 2 18) := sNEW _ rfl rfl (gtb_mem 500 (by decide +kernel) rfl) (gtb_mem 306 (by decide +kernel) rfl) (gtb_mem 99 (by decide +kernel) rfl)
def mDy_init : Mt := (⟨"HerbWaters$Days", "<init>", "()V"⟩, prog_4_method_1_code, 1, none)
theorem ok_Dy_init : Mok mDy_init := ⟨gtb_mem 309 (by decide +kernel) rfl, gtb_mem 99 (by decide +kernel) rfl, by decide +kernel, by decide⟩
theorem lDi_i28 : Snd "HerbWaters$Diary" (iCI0 28 mDy_init) := sCI0N rfl ok_Dy_init (gtb_mem 308 (by decide +kernel) rfl) "HerbWaters" (List.mem_filter.mpr ⟨List.mem_of_getElem? (i := 570) (by decide +kernel), rfl⟩)
theorem lDi_v29 : Snd "HerbWaters$Diary" (iCV1 29 2 mDy_copyFrom) := sCV1 _ rfl rfl ok_Dy_copyFrom (gtb_mem 572 (by decide +kernel) rfl) (gtb_mem 573 (by decide +kernel) rfl) (gtb_mem 571 (by decide +kernel) rfl)
def bDi_note_0 : List Ir := [iLA1, (iGI 21 2 9), iLA0, (iGI 17 3 1), iSUB, iSI2, iLI2, (iBP 32), iDIV, iSI3, iLI2, (iIFlt (16) 32)]
def bDi_note_19 : List Ir := [iLI2, (iBP 32), iREM, (iIFne (9) 32)]
def bDi_note_26 : List Ir := [iLI3, (iBP 32), (iIClt (4) 33)]
def bDi_note_32 : List Ir := [iRV]
def bDi_note_33 : List Ir := [iLA0, (iGR 13 3 0), iLI3, iAALD105, (iNN (16) 55)]
def bDi_note_42 : List Ir := [iLA0, (iGR 13 3 0), iLI3, (iNEW 11 2 18), iDUPr, (iCI0 28 mDy_init), iAAST105]
def bDi_note_55 : List Ir := [iLA0, (iGR 13 3 0), iLI3, iAALD105, iLA1, (iCV1 29 2 mDy_copyFrom), iRV]
def tDi_note : Tb := [(0, bDi_note_0, 19), (19, bDi_note_19, 26), (26, bDi_note_26, 32), (32, bDi_note_32, 33), (33, bDi_note_33, 42), (42, bDi_note_42, 55), (55, bDi_note_55, 66)]
theorem fDi_note_0 : tbf tDi_note 0 = some (bDi_note_0, 19) := rfl
theorem fDi_note_19 : tbf tDi_note 19 = some (bDi_note_19, 26) := rfl
theorem fDi_note_26 : tbf tDi_note 26 = some (bDi_note_26, 32) := rfl
theorem fDi_note_32 : tbf tDi_note 32 = some (bDi_note_32, 33) := rfl
theorem fDi_note_33 : tbf tDi_note 33 = some (bDi_note_33, 42) := rfl
theorem fDi_note_42 : tbf tDi_note 42 = some (bDi_note_42, 55) := rfl
theorem fDi_note_55 : tbf tDi_note 55 = some (bDi_note_55, 66) := rfl
theorem kDi_note_0 : Bok "HerbWaters$Diary" prog_5_method_3_code (0, bDi_note_0, 19) := ⟨by decide +kernel, (List.forall_mem_cons.mpr ⟨sLA1, (List.forall_mem_cons.mpr ⟨lDi_g21, (List.forall_mem_cons.mpr ⟨sLA0, (List.forall_mem_cons.mpr ⟨lDi_g17, (List.forall_mem_cons.mpr ⟨sSUB, (List.forall_mem_cons.mpr ⟨sSI2, (List.forall_mem_cons.mpr ⟨sLI2, (List.forall_mem_cons.mpr ⟨sBP, (List.forall_mem_cons.mpr ⟨sDIV, (List.forall_mem_cons.mpr ⟨sSI3, (List.forall_mem_cons.mpr ⟨sLI2, (List.forall_mem_cons.mpr ⟨sIFlt, (fun _ h => absurd h List.not_mem_nil)⟩)⟩)⟩)⟩)⟩)⟩)⟩)⟩)⟩)⟩)⟩)⟩)⟩
theorem kDi_note_19 : Bok "HerbWaters$Diary" prog_5_method_3_code (19, bDi_note_19, 26) := ⟨by decide +kernel, (List.forall_mem_cons.mpr ⟨sLI2, (List.forall_mem_cons.mpr ⟨sBP, (List.forall_mem_cons.mpr ⟨sREM, (List.forall_mem_cons.mpr ⟨sIFne, (fun _ h => absurd h List.not_mem_nil)⟩)⟩)⟩)⟩)⟩
theorem kDi_note_26 : Bok "HerbWaters$Diary" prog_5_method_3_code (26, bDi_note_26, 32) := ⟨by decide +kernel, (List.forall_mem_cons.mpr ⟨sLI3, (List.forall_mem_cons.mpr ⟨sBP, (List.forall_mem_cons.mpr ⟨sIClt, (fun _ h => absurd h List.not_mem_nil)⟩)⟩)⟩)⟩
theorem kDi_note_32 : Bok "HerbWaters$Diary" prog_5_method_3_code (32, bDi_note_32, 33) := ⟨by decide +kernel, (List.forall_mem_cons.mpr ⟨sRV, (fun _ h => absurd h List.not_mem_nil)⟩)⟩
theorem kDi_note_33 : Bok "HerbWaters$Diary" prog_5_method_3_code (33, bDi_note_33, 42) := ⟨by decide +kernel, (List.forall_mem_cons.mpr ⟨sLA0, (List.forall_mem_cons.mpr ⟨lDi_g13, (List.forall_mem_cons.mpr ⟨sLI3, (List.forall_mem_cons.mpr ⟨sAALD105, (List.forall_mem_cons.mpr ⟨sNN, (fun _ h => absurd h List.not_mem_nil)⟩)⟩)⟩)⟩)⟩)⟩
theorem kDi_note_42 : Bok "HerbWaters$Diary" prog_5_method_3_code (42, bDi_note_42, 55) := ⟨by decide +kernel, (List.forall_mem_cons.mpr ⟨sLA0, (List.forall_mem_cons.mpr ⟨lDi_g13, (List.forall_mem_cons.mpr ⟨sLI3, (List.forall_mem_cons.mpr ⟨lDi_n11, (List.forall_mem_cons.mpr ⟨sDUPr, (List.forall_mem_cons.mpr ⟨lDi_i28, (List.forall_mem_cons.mpr ⟨sAAST105, (fun _ h => absurd h List.not_mem_nil)⟩)⟩)⟩)⟩)⟩)⟩)⟩)⟩
theorem kDi_note_55 : Bok "HerbWaters$Diary" prog_5_method_3_code (55, bDi_note_55, 66) := ⟨by decide +kernel, (List.forall_mem_cons.mpr ⟨sLA0, (List.forall_mem_cons.mpr ⟨lDi_g13, (List.forall_mem_cons.mpr ⟨sLI3, (List.forall_mem_cons.mpr ⟨sAALD105, (List.forall_mem_cons.mpr ⟨sLA1, (List.forall_mem_cons.mpr ⟨lDi_v29, (List.forall_mem_cons.mpr ⟨sRV, (fun _ h => absurd h List.not_mem_nil)⟩)⟩)⟩)⟩)⟩)⟩)⟩)⟩
theorem kDi_note : ∀ q ∈ tDi_note, Bok "HerbWaters$Diary" prog_5_method_3_code q := (List.forall_mem_cons.mpr ⟨kDi_note_0, (List.forall_mem_cons.mpr ⟨kDi_note_19, (List.forall_mem_cons.mpr ⟨kDi_note_26, (List.forall_mem_cons.mpr ⟨kDi_note_32, (List.forall_mem_cons.mpr ⟨kDi_note_33, (List.forall_mem_cons.mpr ⟨kDi_note_42, (List.forall_mem_cons.mpr ⟨kDi_note_55, (fun _ h => absurd h List.not_mem_nil)⟩)⟩)⟩)⟩)⟩)⟩)⟩)
theorem rDi_note : mDi_note.2.2.2 = none := rfl
def mDi_goBack : Mt := (⟨"HerbWaters$Diary", "goBack", "(LHerbWaters$Days;I)V"⟩, prog_5_method_4_code, 4, none)
theorem ok_Di_goBack : Mok mDi_goBack := ⟨gtb_mem 1447 (by decide +kernel) rfl, gtb_mem 102 (by decide +kernel) rfl, by decide +kernel, by decide⟩
def bDi_goBack_0 : List Ir := [iLI2, iLA0, (iGI 17 3 1), iSUB, (iBP 32), iDIV, iSI3, iLI2, iLA0, (iGI 17 3 1), (iIClt (28) 43)]
def bDi_goBack_18 : List Ir := [iLI3, (iBP 32), (iICge (22) 43)]
def bDi_goBack_24 : List Ir := [iLA0, (iGR 13 3 0), iLI3, iAALD105, (iNU (13) 43)]
def bDi_goBack_33 : List Ir := [iLA1, iLA0, (iGR 13 3 0), iLI3, iAALD105, (iCV1 29 2 mDy_copyFrom)]
def bDi_goBack_43 : List Ir := [iRV]
def tDi_goBack : Tb := [(0, bDi_goBack_0, 18), (18, bDi_goBack_18, 24), (24, bDi_goBack_24, 33), (33, bDi_goBack_33, 43), (43, bDi_goBack_43, 44)]
theorem fDi_goBack_0 : tbf tDi_goBack 0 = some (bDi_goBack_0, 18) := rfl
theorem fDi_goBack_18 : tbf tDi_goBack 18 = some (bDi_goBack_18, 24) := rfl
theorem fDi_goBack_24 : tbf tDi_goBack 24 = some (bDi_goBack_24, 33) := rfl
theorem fDi_goBack_33 : tbf tDi_goBack 33 = some (bDi_goBack_33, 43) := rfl
theorem fDi_goBack_43 : tbf tDi_goBack 43 = some (bDi_goBack_43, 44) := rfl
theorem kDi_goBack_0 : Bok "HerbWaters$Diary" prog_5_method_4_code (0, bDi_goBack_0, 18) := ⟨by decide +kernel, (List.forall_mem_cons.mpr ⟨sLI2, (List.forall_mem_cons.mpr ⟨sLA0, (List.forall_mem_cons.mpr ⟨lDi_g17, (List.forall_mem_cons.mpr ⟨sSUB, (List.forall_mem_cons.mpr ⟨sBP, (List.forall_mem_cons.mpr ⟨sDIV, (List.forall_mem_cons.mpr ⟨sSI3, (List.forall_mem_cons.mpr ⟨sLI2, (List.forall_mem_cons.mpr ⟨sLA0, (List.forall_mem_cons.mpr ⟨lDi_g17, (List.forall_mem_cons.mpr ⟨sIClt, (fun _ h => absurd h List.not_mem_nil)⟩)⟩)⟩)⟩)⟩)⟩)⟩)⟩)⟩)⟩)⟩)⟩
theorem kDi_goBack_18 : Bok "HerbWaters$Diary" prog_5_method_4_code (18, bDi_goBack_18, 24) := ⟨by decide +kernel, (List.forall_mem_cons.mpr ⟨sLI3, (List.forall_mem_cons.mpr ⟨sBP, (List.forall_mem_cons.mpr ⟨sICge, (fun _ h => absurd h List.not_mem_nil)⟩)⟩)⟩)⟩
theorem kDi_goBack_24 : Bok "HerbWaters$Diary" prog_5_method_4_code (24, bDi_goBack_24, 33) := ⟨by decide +kernel, (List.forall_mem_cons.mpr ⟨sLA0, (List.forall_mem_cons.mpr ⟨lDi_g13, (List.forall_mem_cons.mpr ⟨sLI3, (List.forall_mem_cons.mpr ⟨sAALD105, (List.forall_mem_cons.mpr ⟨sNU, (fun _ h => absurd h List.not_mem_nil)⟩)⟩)⟩)⟩)⟩)⟩
theorem kDi_goBack_33 : Bok "HerbWaters$Diary" prog_5_method_4_code (33, bDi_goBack_33, 43) := ⟨by decide +kernel, (List.forall_mem_cons.mpr ⟨sLA1, (List.forall_mem_cons.mpr ⟨sLA0, (List.forall_mem_cons.mpr ⟨lDi_g13, (List.forall_mem_cons.mpr ⟨sLI3, (List.forall_mem_cons.mpr ⟨sAALD105, (List.forall_mem_cons.mpr ⟨lDi_v29, (fun _ h => absurd h List.not_mem_nil)⟩)⟩)⟩)⟩)⟩)⟩)⟩
theorem kDi_goBack_43 : Bok "HerbWaters$Diary" prog_5_method_4_code (43, bDi_goBack_43, 44) := ⟨by decide +kernel, (List.forall_mem_cons.mpr ⟨sRV, (fun _ h => absurd h List.not_mem_nil)⟩)⟩
theorem kDi_goBack : ∀ q ∈ tDi_goBack, Bok "HerbWaters$Diary" prog_5_method_4_code q := (List.forall_mem_cons.mpr ⟨kDi_goBack_0, (List.forall_mem_cons.mpr ⟨kDi_goBack_18, (List.forall_mem_cons.mpr ⟨kDi_goBack_24, (List.forall_mem_cons.mpr ⟨kDi_goBack_33, (List.forall_mem_cons.mpr ⟨kDi_goBack_43, (fun _ h => absurd h List.not_mem_nil)⟩)⟩)⟩)⟩)⟩)
theorem rDi_goBack : mDi_goBack.2.2.2 = none := rfl
def mAq_opinionOf : Mt := (⟨"HerbWaters$Aqueduct", "opinionOf", "(I)LHerbWaters$Opinion;"⟩, prog_2_method_2_code, 2, some (.object "HerbWaters$Opinion"))
theorem ok_Aq_opinionOf : Mok mAq_opinionOf := ⟨gtb_mem 1381 (by decide +kernel) rfl, gtb_mem 95 (by decide +kernel) rfl, by decide +kernel, by decide⟩
theorem lAq_g20 : Snd "HerbWaters$Aqueduct" (iGR 20 0 1) := sGR _ rfl (gtb_mem 281 (by decide +kernel) rfl)
def bAq_opinionOf_0 : List Ir := [iLA0, (iGR 20 0 1), iLI1, iAALD106, iRA]
def tAq_opinionOf : Tb := [(0, bAq_opinionOf_0, 7)]
theorem fAq_opinionOf_0 : tbf tAq_opinionOf 0 = some (bAq_opinionOf_0, 7) := rfl
theorem kAq_opinionOf_0 : Bok "HerbWaters$Aqueduct" prog_2_method_2_code (0, bAq_opinionOf_0, 7) := ⟨by decide +kernel, (List.forall_mem_cons.mpr ⟨sLA0, (List.forall_mem_cons.mpr ⟨lAq_g20, (List.forall_mem_cons.mpr ⟨sLI1, (List.forall_mem_cons.mpr ⟨sAALD106, (List.forall_mem_cons.mpr ⟨sRA, (fun _ h => absurd h List.not_mem_nil)⟩)⟩)⟩)⟩)⟩)⟩
theorem kAq_opinionOf : ∀ q ∈ tAq_opinionOf, Bok "HerbWaters$Aqueduct" prog_2_method_2_code q := (List.forall_mem_cons.mpr ⟨kAq_opinionOf_0, (fun _ h => absurd h List.not_mem_nil)⟩)
theorem rAq_opinionOf : mAq_opinionOf.2.2.2 = some (.object "HerbWaters$Opinion") := rfl
def mAq_tell : Mt := (⟨"HerbWaters$Aqueduct", "tell", "(ILHerbWaters$Opinion;)LHerbWaters$Opinion;"⟩, prog_2_method_3_code, 4, some (.object "HerbWaters$Opinion"))
theorem ok_Aq_tell : Mok mAq_tell := ⟨gtb_mem 1377 (by decide +kernel) rfl, gtb_mem 95 (by decide +kernel) rfl, by decide +kernel, by decide⟩
def bAq_tell_0 : List Ir := [iLA0, (iGR 20 0 1), iLI1, iAALD106, iSA3, iLA0, (iGR 20 0 1), iLI1, iLA2, iAAST106, iLA3, iRA]
def tAq_tell : Tb := [(0, bAq_tell_0, 16)]
theorem fAq_tell_0 : tbf tAq_tell 0 = some (bAq_tell_0, 16) := rfl
theorem kAq_tell_0 : Bok "HerbWaters$Aqueduct" prog_2_method_3_code (0, bAq_tell_0, 16) := ⟨by decide +kernel, (List.forall_mem_cons.mpr ⟨sLA0, (List.forall_mem_cons.mpr ⟨lAq_g20, (List.forall_mem_cons.mpr ⟨sLI1, (List.forall_mem_cons.mpr ⟨sAALD106, (List.forall_mem_cons.mpr ⟨sSA3, (List.forall_mem_cons.mpr ⟨sLA0, (List.forall_mem_cons.mpr ⟨lAq_g20, (List.forall_mem_cons.mpr ⟨sLI1, (List.forall_mem_cons.mpr ⟨sLA2, (List.forall_mem_cons.mpr ⟨sAAST106, (List.forall_mem_cons.mpr ⟨sLA3, (List.forall_mem_cons.mpr ⟨sRA, (fun _ h => absurd h List.not_mem_nil)⟩)⟩)⟩)⟩)⟩)⟩)⟩)⟩)⟩)⟩)⟩)⟩)⟩
theorem kAq_tell : ∀ q ∈ tAq_tell, Bok "HerbWaters$Aqueduct" prog_2_method_3_code q := (List.forall_mem_cons.mpr ⟨kAq_tell_0, (fun _ h => absurd h List.not_mem_nil)⟩)
theorem rAq_tell : mAq_tell.2.2.2 = some (.object "HerbWaters$Opinion") := rfl
def mAq_forgetOpinions : Mt := (⟨"HerbWaters$Aqueduct", "forgetOpinions", "()V"⟩, prog_2_method_4_code, 2, none)
theorem ok_Aq_forgetOpinions : Mok mAq_forgetOpinions := ⟨gtb_mem 1268 (by decide +kernel) rfl, gtb_mem 95 (by decide +kernel) rfl, by decide +kernel, by decide⟩
theorem lAq_v38 : Snd "HerbWaters$Aqueduct" (iCV0 38 5 mOp_clear) := sCV0 _ rfl rfl ok_Op_clear (gtb_mem 1270 (by decide +kernel) rfl) (gtb_mem 1271 (by decide +kernel) rfl) (gtb_mem 1269 (by decide +kernel) rfl)
def bAq_forgetOpinions_0 : List Ir := [iC0, iSI1]
def bAq_forgetOpinions_2 : List Ir := [iLI1, (iBP 9), (iICge (18) 23)]
def bAq_forgetOpinions_8 : List Ir := [iLA0, (iGR 20 0 1), iLI1, iAALD106, (iCV0 38 5 mOp_clear), (iINC1 1), (iGO (-18) 2)]
def bAq_forgetOpinions_23 : List Ir := [iRV]
def tAq_forgetOpinions : Tb := [(0, bAq_forgetOpinions_0, 2), (2, bAq_forgetOpinions_2, 8), (8, bAq_forgetOpinions_8, 23), (23, bAq_forgetOpinions_23, 24)]
theorem fAq_forgetOpinions_0 : tbf tAq_forgetOpinions 0 = some (bAq_forgetOpinions_0, 2) := rfl
theorem fAq_forgetOpinions_2 : tbf tAq_forgetOpinions 2 = some (bAq_forgetOpinions_2, 8) := rfl
theorem fAq_forgetOpinions_8 : tbf tAq_forgetOpinions 8 = some (bAq_forgetOpinions_8, 23) := rfl
theorem fAq_forgetOpinions_23 : tbf tAq_forgetOpinions 23 = some (bAq_forgetOpinions_23, 24) := rfl
theorem kAq_forgetOpinions_0 : Bok "HerbWaters$Aqueduct" prog_2_method_4_code (0, bAq_forgetOpinions_0, 2) := ⟨by decide +kernel, (List.forall_mem_cons.mpr ⟨sC0, (List.forall_mem_cons.mpr ⟨sSI1, (fun _ h => absurd h List.not_mem_nil)⟩)⟩)⟩
theorem kAq_forgetOpinions_2 : Bok "HerbWaters$Aqueduct" prog_2_method_4_code (2, bAq_forgetOpinions_2, 8) := ⟨by decide +kernel, (List.forall_mem_cons.mpr ⟨sLI1, (List.forall_mem_cons.mpr ⟨sBP, (List.forall_mem_cons.mpr ⟨sICge, (fun _ h => absurd h List.not_mem_nil)⟩)⟩)⟩)⟩
theorem kAq_forgetOpinions_8 : Bok "HerbWaters$Aqueduct" prog_2_method_4_code (8, bAq_forgetOpinions_8, 23) := ⟨by decide +kernel, (List.forall_mem_cons.mpr ⟨sLA0, (List.forall_mem_cons.mpr ⟨lAq_g20, (List.forall_mem_cons.mpr ⟨sLI1, (List.forall_mem_cons.mpr ⟨sAALD106, (List.forall_mem_cons.mpr ⟨lAq_v38, (List.forall_mem_cons.mpr ⟨sINC1, (List.forall_mem_cons.mpr ⟨sGO, (fun _ h => absurd h List.not_mem_nil)⟩)⟩)⟩)⟩)⟩)⟩)⟩)⟩
theorem kAq_forgetOpinions_23 : Bok "HerbWaters$Aqueduct" prog_2_method_4_code (23, bAq_forgetOpinions_23, 24) := ⟨by decide +kernel, (List.forall_mem_cons.mpr ⟨sRV, (fun _ h => absurd h List.not_mem_nil)⟩)⟩
theorem kAq_forgetOpinions : ∀ q ∈ tAq_forgetOpinions, Bok "HerbWaters$Aqueduct" prog_2_method_4_code q := (List.forall_mem_cons.mpr ⟨kAq_forgetOpinions_0, (List.forall_mem_cons.mpr ⟨kAq_forgetOpinions_2, (List.forall_mem_cons.mpr ⟨kAq_forgetOpinions_8, (List.forall_mem_cons.mpr ⟨kAq_forgetOpinions_23, (fun _ h => absurd h List.not_mem_nil)⟩)⟩)⟩)⟩)
theorem rAq_forgetOpinions : mAq_forgetOpinions.2.2.2 = none := rfl
def mAq_puttersOf : Mt := (⟨"HerbWaters$Aqueduct", "puttersOf", "(I)I"⟩, prog_2_method_5_code, 4, some .int)
theorem ok_Aq_puttersOf : Mok mAq_puttersOf := ⟨gtb_mem 647 (by decide +kernel) rfl, gtb_mem 95 (by decide +kernel) rfl, by decide +kernel, by decide⟩
theorem lAq_g12 : Snd "HerbWaters$Aqueduct" (iGR 12 0 0) := sGR _ rfl (gtb_mem 277 (by decide +kernel) rfl)
theorem lAq_g41 : Snd "HerbWaters$Aqueduct" (iGI 41 9 10) := sGIN _ rfl "HerbWaters" (List.mem_filter.mpr ⟨List.mem_of_getElem? (i := 203) (by decide +kernel), rfl⟩)
theorem lAq_g45 : Snd "HerbWaters$Aqueduct" (iGI 45 5 4) := sGIN _ rfl "HerbWaters" (List.mem_filter.mpr ⟨List.mem_of_getElem? (i := 261) (by decide +kernel), rfl⟩)
def bAq_puttersOf_0 : List Ir := [iC0, iSI2, iC0, iSI3]
def bAq_puttersOf_4 : List Ir := [iLI3, iLA0, (iGR 12 0 0), (iGI 41 9 10), (iICge (33) 45)]
def bAq_puttersOf_15 : List Ir := [iLI2, iLA0, (iGR 20 0 1), iLI3, iAALD106, (iGI 45 5 4), iLI1, iAND, (iIFeq (9) 36)]
def bAq_puttersOf_30 : List Ir := [iC1, iLI3, iSHL, (iGO (4) 37)]
def bAq_puttersOf_36 : List Ir := [iC0]
def bAq_puttersOf_37 : List Ir := [iOR, iSI2, (iINC3 1), (iGO (-38) 4)]
def bAq_puttersOf_45 : List Ir := [iLI2, iRI]
def tAq_puttersOf : Tb := [(0, bAq_puttersOf_0, 4), (4, bAq_puttersOf_4, 15), (15, bAq_puttersOf_15, 30), (30, bAq_puttersOf_30, 36), (36, bAq_puttersOf_36, 37), (37, bAq_puttersOf_37, 45), (45, bAq_puttersOf_45, 47)]
theorem fAq_puttersOf_0 : tbf tAq_puttersOf 0 = some (bAq_puttersOf_0, 4) := rfl
theorem fAq_puttersOf_4 : tbf tAq_puttersOf 4 = some (bAq_puttersOf_4, 15) := rfl
theorem fAq_puttersOf_15 : tbf tAq_puttersOf 15 = some (bAq_puttersOf_15, 30) := rfl
theorem fAq_puttersOf_30 : tbf tAq_puttersOf 30 = some (bAq_puttersOf_30, 36) := rfl
theorem fAq_puttersOf_36 : tbf tAq_puttersOf 36 = some (bAq_puttersOf_36, 37) := rfl
theorem fAq_puttersOf_37 : tbf tAq_puttersOf 37 = some (bAq_puttersOf_37, 45) := rfl
theorem fAq_puttersOf_45 : tbf tAq_puttersOf 45 = some (bAq_puttersOf_45, 47) := rfl
theorem kAq_puttersOf_0 : Bok "HerbWaters$Aqueduct" prog_2_method_5_code (0, bAq_puttersOf_0, 4) := ⟨by decide +kernel, (List.forall_mem_cons.mpr ⟨sC0, (List.forall_mem_cons.mpr ⟨sSI2, (List.forall_mem_cons.mpr ⟨sC0, (List.forall_mem_cons.mpr ⟨sSI3, (fun _ h => absurd h List.not_mem_nil)⟩)⟩)⟩)⟩)⟩
theorem kAq_puttersOf_4 : Bok "HerbWaters$Aqueduct" prog_2_method_5_code (4, bAq_puttersOf_4, 15) := ⟨by decide +kernel, (List.forall_mem_cons.mpr ⟨sLI3, (List.forall_mem_cons.mpr ⟨sLA0, (List.forall_mem_cons.mpr ⟨lAq_g12, (List.forall_mem_cons.mpr ⟨lAq_g41, (List.forall_mem_cons.mpr ⟨sICge, (fun _ h => absurd h List.not_mem_nil)⟩)⟩)⟩)⟩)⟩)⟩
theorem kAq_puttersOf_15 : Bok "HerbWaters$Aqueduct" prog_2_method_5_code (15, bAq_puttersOf_15, 30) := ⟨by decide +kernel, (List.forall_mem_cons.mpr ⟨sLI2, (List.forall_mem_cons.mpr ⟨sLA0, (List.forall_mem_cons.mpr ⟨lAq_g20, (List.forall_mem_cons.mpr ⟨sLI3, (List.forall_mem_cons.mpr ⟨sAALD106, (List.forall_mem_cons.mpr ⟨lAq_g45, (List.forall_mem_cons.mpr ⟨sLI1, (List.forall_mem_cons.mpr ⟨sAND, (List.forall_mem_cons.mpr ⟨sIFeq, (fun _ h => absurd h List.not_mem_nil)⟩)⟩)⟩)⟩)⟩)⟩)⟩)⟩)⟩)⟩
theorem kAq_puttersOf_30 : Bok "HerbWaters$Aqueduct" prog_2_method_5_code (30, bAq_puttersOf_30, 36) := ⟨by decide +kernel, (List.forall_mem_cons.mpr ⟨sC1, (List.forall_mem_cons.mpr ⟨sLI3, (List.forall_mem_cons.mpr ⟨sSHL, (List.forall_mem_cons.mpr ⟨sGO, (fun _ h => absurd h List.not_mem_nil)⟩)⟩)⟩)⟩)⟩
theorem kAq_puttersOf_36 : Bok "HerbWaters$Aqueduct" prog_2_method_5_code (36, bAq_puttersOf_36, 37) := ⟨by decide +kernel, (List.forall_mem_cons.mpr ⟨sC0, (fun _ h => absurd h List.not_mem_nil)⟩)⟩
theorem kAq_puttersOf_37 : Bok "HerbWaters$Aqueduct" prog_2_method_5_code (37, bAq_puttersOf_37, 45) := ⟨by decide +kernel, (List.forall_mem_cons.mpr ⟨sOR, (List.forall_mem_cons.mpr ⟨sSI2, (List.forall_mem_cons.mpr ⟨sINC3, (List.forall_mem_cons.mpr ⟨sGO, (fun _ h => absurd h List.not_mem_nil)⟩)⟩)⟩)⟩)⟩
theorem kAq_puttersOf_45 : Bok "HerbWaters$Aqueduct" prog_2_method_5_code (45, bAq_puttersOf_45, 47) := ⟨by decide +kernel, (List.forall_mem_cons.mpr ⟨sLI2, (List.forall_mem_cons.mpr ⟨sRI, (fun _ h => absurd h List.not_mem_nil)⟩)⟩)⟩
theorem kAq_puttersOf : ∀ q ∈ tAq_puttersOf, Bok "HerbWaters$Aqueduct" prog_2_method_5_code q := (List.forall_mem_cons.mpr ⟨kAq_puttersOf_0, (List.forall_mem_cons.mpr ⟨kAq_puttersOf_4, (List.forall_mem_cons.mpr ⟨kAq_puttersOf_15, (List.forall_mem_cons.mpr ⟨kAq_puttersOf_30, (List.forall_mem_cons.mpr ⟨kAq_puttersOf_36, (List.forall_mem_cons.mpr ⟨kAq_puttersOf_37, (List.forall_mem_cons.mpr ⟨kAq_puttersOf_45, (fun _ h => absurd h List.not_mem_nil)⟩)⟩)⟩)⟩)⟩)⟩)⟩)
theorem rAq_puttersOf : mAq_puttersOf.2.2.2 = some .int := rfl
def mAq_asksDay : Mt := (⟨"HerbWaters$Aqueduct", "asksDay", "()Z"⟩, prog_2_method_6_code, 2, some .boolean)
theorem ok_Aq_asksDay : Mok mAq_asksDay := ⟨gtb_mem 1620 (by decide +kernel) rfl, gtb_mem 95 (by decide +kernel) rfl, by decide +kernel, by decide⟩
theorem lAq_g48 : Snd "HerbWaters$Aqueduct" (iGI 48 5 5) := sGIN _ rfl "HerbWaters" (List.mem_filter.mpr ⟨List.mem_of_getElem? (i := 263) (by decide +kernel), rfl⟩)
def bAq_asksDay_0 : List Ir := [iC0, iSI1]
def bAq_asksDay_2 : List Ir := [iLI1, iLA0, (iGR 12 0 0), (iGI 41 9 10), (iICge (23) 33)]
def bAq_asksDay_13 : List Ir := [iLA0, (iGR 20 0 1), iLI1, iAALD106, (iGI 48 5 5), (iIFeq (5) 27)]
def bAq_asksDay_25 : List Ir := [iC1, iRI]
def bAq_asksDay_27 : List Ir := [(iINC1 1), (iGO (-28) 2)]
def bAq_asksDay_33 : List Ir := [iC0, iRI]
def tAq_asksDay : Tb := [(0, bAq_asksDay_0, 2), (2, bAq_asksDay_2, 13), (13, bAq_asksDay_13, 25), (25, bAq_asksDay_25, 27), (27, bAq_asksDay_27, 33), (33, bAq_asksDay_33, 35)]
theorem fAq_asksDay_0 : tbf tAq_asksDay 0 = some (bAq_asksDay_0, 2) := rfl
theorem fAq_asksDay_2 : tbf tAq_asksDay 2 = some (bAq_asksDay_2, 13) := rfl
theorem fAq_asksDay_13 : tbf tAq_asksDay 13 = some (bAq_asksDay_13, 25) := rfl
theorem fAq_asksDay_25 : tbf tAq_asksDay 25 = some (bAq_asksDay_25, 27) := rfl
theorem fAq_asksDay_27 : tbf tAq_asksDay 27 = some (bAq_asksDay_27, 33) := rfl
theorem fAq_asksDay_33 : tbf tAq_asksDay 33 = some (bAq_asksDay_33, 35) := rfl
theorem kAq_asksDay_0 : Bok "HerbWaters$Aqueduct" prog_2_method_6_code (0, bAq_asksDay_0, 2) := ⟨by decide +kernel, (List.forall_mem_cons.mpr ⟨sC0, (List.forall_mem_cons.mpr ⟨sSI1, (fun _ h => absurd h List.not_mem_nil)⟩)⟩)⟩
theorem kAq_asksDay_2 : Bok "HerbWaters$Aqueduct" prog_2_method_6_code (2, bAq_asksDay_2, 13) := ⟨by decide +kernel, (List.forall_mem_cons.mpr ⟨sLI1, (List.forall_mem_cons.mpr ⟨sLA0, (List.forall_mem_cons.mpr ⟨lAq_g12, (List.forall_mem_cons.mpr ⟨lAq_g41, (List.forall_mem_cons.mpr ⟨sICge, (fun _ h => absurd h List.not_mem_nil)⟩)⟩)⟩)⟩)⟩)⟩
theorem kAq_asksDay_13 : Bok "HerbWaters$Aqueduct" prog_2_method_6_code (13, bAq_asksDay_13, 25) := ⟨by decide +kernel, (List.forall_mem_cons.mpr ⟨sLA0, (List.forall_mem_cons.mpr ⟨lAq_g20, (List.forall_mem_cons.mpr ⟨sLI1, (List.forall_mem_cons.mpr ⟨sAALD106, (List.forall_mem_cons.mpr ⟨lAq_g48, (List.forall_mem_cons.mpr ⟨sIFeq, (fun _ h => absurd h List.not_mem_nil)⟩)⟩)⟩)⟩)⟩)⟩)⟩
theorem kAq_asksDay_25 : Bok "HerbWaters$Aqueduct" prog_2_method_6_code (25, bAq_asksDay_25, 27) := ⟨by decide +kernel, (List.forall_mem_cons.mpr ⟨sC1, (List.forall_mem_cons.mpr ⟨sRI, (fun _ h => absurd h List.not_mem_nil)⟩)⟩)⟩
theorem kAq_asksDay_27 : Bok "HerbWaters$Aqueduct" prog_2_method_6_code (27, bAq_asksDay_27, 33) := ⟨by decide +kernel, (List.forall_mem_cons.mpr ⟨sINC1, (List.forall_mem_cons.mpr ⟨sGO, (fun _ h => absurd h List.not_mem_nil)⟩)⟩)⟩
theorem kAq_asksDay_33 : Bok "HerbWaters$Aqueduct" prog_2_method_6_code (33, bAq_asksDay_33, 35) := ⟨by decide +kernel, (List.forall_mem_cons.mpr ⟨sC0, (List.forall_mem_cons.mpr ⟨sRI, (fun _ h => absurd h List.not_mem_nil)⟩)⟩)⟩
theorem kAq_asksDay : ∀ q ∈ tAq_asksDay, Bok "HerbWaters$Aqueduct" prog_2_method_6_code q := (List.forall_mem_cons.mpr ⟨kAq_asksDay_0, (List.forall_mem_cons.mpr ⟨kAq_asksDay_2, (List.forall_mem_cons.mpr ⟨kAq_asksDay_13, (List.forall_mem_cons.mpr ⟨kAq_asksDay_25, (List.forall_mem_cons.mpr ⟨kAq_asksDay_27, (List.forall_mem_cons.mpr ⟨kAq_asksDay_33, (fun _ h => absurd h List.not_mem_nil)⟩)⟩)⟩)⟩)⟩)⟩)
theorem rAq_asksDay : mAq_asksDay.2.2.2 = some .boolean := rfl
def mAq_goDay : Mt := (⟨"HerbWaters$Aqueduct", "goDay", "(LHerbWaters$Days;)V"⟩, prog_2_method_7_code, 3, none)
theorem ok_Aq_goDay : Mok mAq_goDay := ⟨gtb_mem 670 (by decide +kernel) rfl, gtb_mem 95 (by decide +kernel) rfl, by decide +kernel, by decide⟩
theorem lAq_g52 : Snd "HerbWaters$Aqueduct" (iGI 52 2 9) := sGIN _ rfl "HerbWaters" (List.mem_filter.mpr ⟨List.mem_of_getElem? (i := 344) (by decide +kernel), rfl⟩)
theorem lAq_p52 : Snd "HerbWaters$Aqueduct" (iPI 52 2 9) := sPIN _ rfl rfl "HerbWaters" (List.mem_filter.mpr ⟨List.mem_of_getElem? (i := 344) (by decide +kernel), rfl⟩)
def mAq_flow : Mt := (⟨"HerbWaters$Aqueduct", "flow", "(LHerbWaters$Days;)V"⟩, prog_2_method_8_code, 4, none)
theorem ok_Aq_flow : Mok mAq_flow := ⟨gtb_mem 674 (by decide +kernel) rfl, gtb_mem 95 (by decide +kernel) rfl, by decide +kernel, by decide⟩
theorem lAq_v57 : Snd "HerbWaters$Aqueduct" (iCV1 57 0 mAq_flow) := sCV1 _ rfl rfl ok_Aq_flow (gtb_mem 673 (by decide +kernel) rfl) (gtb_mem 2 (by decide +kernel) rfl) (gtb_mem 671 (by decide +kernel) rfl)
def mAq_fill : Mt := (⟨"HerbWaters$Aqueduct", "fill", "(LHerbWaters$Days;)V"⟩, prog_2_method_12_code, 3, none)
theorem ok_Aq_fill : Mok mAq_fill := ⟨gtb_mem 999 (by decide +kernel) rfl, gtb_mem 95 (by decide +kernel) rfl, by decide +kernel, by decide⟩
theorem lAq_v61 : Snd "HerbWaters$Aqueduct" (iCV1 61 0 mAq_fill) := sCV1 _ rfl rfl ok_Aq_fill (gtb_mem 998 (by decide +kernel) rfl) (gtb_mem 7 (by decide +kernel) rfl) (gtb_mem 996 (by decide +kernel) rfl)
def mAq_strain : Mt := (⟨"HerbWaters$Aqueduct", "strain", "(LHerbWaters$Days;)V"⟩, prog_2_method_13_code, 6, none)
theorem ok_Aq_strain : Mok mAq_strain := ⟨gtb_mem 1008 (by decide +kernel) rfl, gtb_mem 95 (by decide +kernel) rfl, by decide +kernel, by decide⟩
theorem lAq_v64 : Snd "HerbWaters$Aqueduct" (iCV1 64 0 mAq_strain) := sCV1 _ rfl rfl ok_Aq_strain (gtb_mem 1007 (by decide +kernel) rfl) (gtb_mem 8 (by decide +kernel) rfl) (gtb_mem 1005 (by decide +kernel) rfl)
theorem lAq_g67 : Snd "HerbWaters$Aqueduct" (iGI 67 2 7) := sGIN _ rfl "HerbWaters" (List.mem_filter.mpr ⟨List.mem_of_getElem? (i := 338) (by decide +kernel), rfl⟩)
def mAq_decide : Mt := (⟨"HerbWaters$Aqueduct", "decide", "(LHerbWaters$Days;I)V"⟩, prog_2_method_15_code, 5, none)
theorem ok_Aq_decide : Mok mAq_decide := ⟨gtb_mem 1017 (by decide +kernel) rfl, gtb_mem 95 (by decide +kernel) rfl, by decide +kernel, by decide⟩
theorem lAq_v68 : Snd "HerbWaters$Aqueduct" (iCV2 68 0 mAq_decide) := sCV2 _ rfl rfl ok_Aq_decide (gtb_mem 1016 (by decide +kernel) rfl) (gtb_mem 10 (by decide +kernel) rfl) (gtb_mem 1014 (by decide +kernel) rfl)
def mAq_addFresh : Mt := (⟨"HerbWaters$Aqueduct", "addFresh", "(LHerbWaters$Days;)V"⟩, prog_2_method_20_code, 5, none)
theorem ok_Aq_addFresh : Mok mAq_addFresh := ⟨gtb_mem 1069 (by decide +kernel) rfl, gtb_mem 95 (by decide +kernel) rfl, by decide +kernel, by decide⟩
theorem lAq_v72 : Snd "HerbWaters$Aqueduct" (iCV1 72 0 mAq_addFresh) := sCV1 _ rfl rfl ok_Aq_addFresh (gtb_mem 1068 (by decide +kernel) rfl) (gtb_mem 13 (by decide +kernel) rfl) (gtb_mem 1066 (by decide +kernel) rfl)
theorem lAq_v75 : Snd "HerbWaters$Aqueduct" (iCV1 75 2 mDy_remember) := sCV1 _ rfl rfl ok_Dy_remember (gtb_mem 540 (by decide +kernel) rfl) (gtb_mem 541 (by decide +kernel) rfl) (gtb_mem 1070 (by decide +kernel) rfl)
def bAq_goDay_0 : List Ir := [iLA1, iDUPr, (iGI 52 2 9), iC1, iADD, (iPI 52 2 9), iLA0, iLA1, (iCV1 57 0 mAq_flow), iLA0, iLA1, (iCV1 61 0 mAq_fill), iLA0, iLA1, (iCV1 64 0 mAq_strain), iC0, iSI2]
def bAq_goDay_27 : List Ir := [iLI2, iLA1, (iGI 67 2 7), (iICge (15) 47)]
def bAq_goDay_35 : List Ir := [iLA0, iLA1, iLI2, (iCV2 68 0 mAq_decide), (iINC2 1), (iGO (-17) 27)]
def bAq_goDay_47 : List Ir := [iLA0, iLA1, (iCV1 72 0 mAq_addFresh), iLA1, iLA0, (iGR 12 0 0), (iCV1 75 2 mDy_remember), iRV]
def tAq_goDay : Tb := [(0, bAq_goDay_0, 27), (27, bAq_goDay_27, 35), (35, bAq_goDay_35, 47), (47, bAq_goDay_47, 61)]
theorem fAq_goDay_0 : tbf tAq_goDay 0 = some (bAq_goDay_0, 27) := rfl
theorem fAq_goDay_27 : tbf tAq_goDay 27 = some (bAq_goDay_27, 35) := rfl
theorem fAq_goDay_35 : tbf tAq_goDay 35 = some (bAq_goDay_35, 47) := rfl
theorem fAq_goDay_47 : tbf tAq_goDay 47 = some (bAq_goDay_47, 61) := rfl
theorem kAq_goDay_0 : Bok "HerbWaters$Aqueduct" prog_2_method_7_code (0, bAq_goDay_0, 27) := ⟨by decide +kernel, (List.forall_mem_cons.mpr ⟨sLA1, (List.forall_mem_cons.mpr ⟨sDUPr, (List.forall_mem_cons.mpr ⟨lAq_g52, (List.forall_mem_cons.mpr ⟨sC1, (List.forall_mem_cons.mpr ⟨sADD, (List.forall_mem_cons.mpr ⟨lAq_p52, (List.forall_mem_cons.mpr ⟨sLA0, (List.forall_mem_cons.mpr ⟨sLA1, (List.forall_mem_cons.mpr ⟨lAq_v57, (List.forall_mem_cons.mpr ⟨sLA0, (List.forall_mem_cons.mpr ⟨sLA1, (List.forall_mem_cons.mpr ⟨lAq_v61, (List.forall_mem_cons.mpr ⟨sLA0, (List.forall_mem_cons.mpr ⟨sLA1, (List.forall_mem_cons.mpr ⟨lAq_v64, (List.forall_mem_cons.mpr ⟨sC0, (List.forall_mem_cons.mpr ⟨sSI2, (fun _ h => absurd h List.not_mem_nil)⟩)⟩)⟩)⟩)⟩)⟩)⟩)⟩)⟩)⟩)⟩)⟩)⟩)⟩)⟩)⟩)⟩)⟩
theorem kAq_goDay_27 : Bok "HerbWaters$Aqueduct" prog_2_method_7_code (27, bAq_goDay_27, 35) := ⟨by decide +kernel, (List.forall_mem_cons.mpr ⟨sLI2, (List.forall_mem_cons.mpr ⟨sLA1, (List.forall_mem_cons.mpr ⟨lAq_g67, (List.forall_mem_cons.mpr ⟨sICge, (fun _ h => absurd h List.not_mem_nil)⟩)⟩)⟩)⟩)⟩
theorem kAq_goDay_35 : Bok "HerbWaters$Aqueduct" prog_2_method_7_code (35, bAq_goDay_35, 47) := ⟨by decide +kernel, (List.forall_mem_cons.mpr ⟨sLA0, (List.forall_mem_cons.mpr ⟨sLA1, (List.forall_mem_cons.mpr ⟨sLI2, (List.forall_mem_cons.mpr ⟨lAq_v68, (List.forall_mem_cons.mpr ⟨sINC2, (List.forall_mem_cons.mpr ⟨sGO, (fun _ h => absurd h List.not_mem_nil)⟩)⟩)⟩)⟩)⟩)⟩)⟩
theorem kAq_goDay_47 : Bok "HerbWaters$Aqueduct" prog_2_method_7_code (47, bAq_goDay_47, 61) := ⟨by decide +kernel, (List.forall_mem_cons.mpr ⟨sLA0, (List.forall_mem_cons.mpr ⟨sLA1, (List.forall_mem_cons.mpr ⟨lAq_v72, (List.forall_mem_cons.mpr ⟨sLA1, (List.forall_mem_cons.mpr ⟨sLA0, (List.forall_mem_cons.mpr ⟨lAq_g12, (List.forall_mem_cons.mpr ⟨lAq_v75, (List.forall_mem_cons.mpr ⟨sRV, (fun _ h => absurd h List.not_mem_nil)⟩)⟩)⟩)⟩)⟩)⟩)⟩)⟩)⟩
theorem kAq_goDay : ∀ q ∈ tAq_goDay, Bok "HerbWaters$Aqueduct" prog_2_method_7_code q := (List.forall_mem_cons.mpr ⟨kAq_goDay_0, (List.forall_mem_cons.mpr ⟨kAq_goDay_27, (List.forall_mem_cons.mpr ⟨kAq_goDay_35, (List.forall_mem_cons.mpr ⟨kAq_goDay_47, (fun _ h => absurd h List.not_mem_nil)⟩)⟩)⟩)⟩)
theorem rAq_goDay : mAq_goDay.2.2.2 = none := rfl
theorem lAq_g79 : Snd "HerbWaters$Aqueduct" (iGI 79 2 8) := sGIN _ rfl "HerbWaters" (List.mem_filter.mpr ⟨List.mem_of_getElem? (i := 340) (by decide +kernel), rfl⟩)
theorem lAq_g24 : Snd "HerbWaters$Aqueduct" (iGR 24 0 2) := sGR _ rfl (gtb_mem 282 (by decide +kernel) rfl)
theorem lAq_s82 : Snd "HerbWaters$Aqueduct" (iCS4 82 mJa_fillR) := sCS4 ok_Ja_fillR (gtb_mem 676 (by decide +kernel) rfl) (gtb_mem 675 (by decide +kernel) rfl)
theorem lAq_g87 : Snd "HerbWaters$Aqueduct" (iGR 87 2 6) := sGRN _ rfl "HerbWaters" (List.mem_filter.mpr ⟨List.mem_of_getElem? (i := 333) (by decide +kernel), rfl⟩)
theorem lAq_s90 : Snd "HerbWaters$Aqueduct" (iCS2 90 mJa_fill) := sCS2 ok_Ja_fill (gtb_mem 537 (by decide +kernel) rfl) (gtb_mem 982 (by decide +kernel) rfl)
theorem lAq_g93 : Snd "HerbWaters$Aqueduct" (iGI 93 9 11) := sGIN _ rfl "HerbWaters" (List.mem_filter.mpr ⟨List.mem_of_getElem? (i := 207) (by decide +kernel), rfl⟩)
def mAq_leadAlong : Mt := (⟨"HerbWaters$Aqueduct", "leadAlong", "(LHerbWaters$Days;I)V"⟩, prog_2_method_9_code, 10, none)
theorem ok_Aq_leadAlong : Mok mAq_leadAlong := ⟨gtb_mem 986 (by decide +kernel) rfl, gtb_mem 95 (by decide +kernel) rfl, by decide +kernel, by decide⟩
theorem lAq_v96 : Snd "HerbWaters$Aqueduct" (iCV2 96 0 mAq_leadAlong) := sCV2 _ rfl rfl ok_Aq_leadAlong (gtb_mem 985 (by decide +kernel) rfl) (gtb_mem 4 (by decide +kernel) rfl) (gtb_mem 983 (by decide +kernel) rfl)
def mAq_leadToTown : Mt := (⟨"HerbWaters$Aqueduct", "leadToTown", "(LHerbWaters$Days;)V"⟩, prog_2_method_10_code, 7, none)
theorem ok_Aq_leadToTown : Mok mAq_leadToTown := ⟨gtb_mem 990 (by decide +kernel) rfl, gtb_mem 95 (by decide +kernel) rfl, by decide +kernel, by decide⟩
theorem lAq_v99 : Snd "HerbWaters$Aqueduct" (iCV1 99 0 mAq_leadToTown) := sCV1 _ rfl rfl ok_Aq_leadToTown (gtb_mem 989 (by decide +kernel) rfl) (gtb_mem 5 (by decide +kernel) rfl) (gtb_mem 987 (by decide +kernel) rfl)
def mAq_leadToGardens : Mt := (⟨"HerbWaters$Aqueduct", "leadToGardens", "(LHerbWaters$Days;I)V"⟩, prog_2_method_11_code, 8, none)
theorem ok_Aq_leadToGardens : Mok mAq_leadToGardens := ⟨gtb_mem 995 (by decide +kernel) rfl, gtb_mem 95 (by decide +kernel) rfl, by decide +kernel, by decide⟩
theorem lAq_v102 : Snd "HerbWaters$Aqueduct" (iCV2 102 0 mAq_leadToGardens) := sCV2 _ rfl rfl ok_Aq_leadToGardens (gtb_mem 994 (by decide +kernel) rfl) (gtb_mem 6 (by decide +kernel) rfl) (gtb_mem 992 (by decide +kernel) rfl)
theorem lAq_g105 : Snd "HerbWaters$Aqueduct" (iGR 105 2 0) := sGRN _ rfl "HerbWaters" (List.mem_filter.mpr ⟨List.mem_of_getElem? (i := 312) (by decide +kernel), rfl⟩)
def bAq_flow_0 : List Ir := [iLA1, (iGI 67 2 7), iLA1, (iGI 79 2 8), iMUL, iSI2, iLA0, (iGR 24 0 2), iC0, iLI2, iC0, (iCS4 82 mJa_fillR), iLA1, (iGR 87 2 6), iC0, (iCS2 90 mJa_fill), iC0, iSI3]
def bAq_flow_30 : List Ir := [iLI3, iLA0, (iGR 12 0 0), (iGI 93 9 11), (iICge (15) 53)]
def bAq_flow_41 : List Ir := [iLA0, iLA1, iLI3, (iCV2 96 0 mAq_leadAlong), (iINC3 1), (iGO (-20) 30)]
def bAq_flow_53 : List Ir := [iLA0, iLA1, (iCV1 99 0 mAq_leadToTown), iC0, iSI3]
def bAq_flow_60 : List Ir := [iLI3, iLA1, (iGI 67 2 7), (iICge (15) 80)]
def bAq_flow_68 : List Ir := [iLA0, iLA1, iLI3, (iCV2 102 0 mAq_leadToGardens), (iINC3 1), (iGO (-17) 60)]
def bAq_flow_80 : List Ir := [iC0, iSI3]
def bAq_flow_82 : List Ir := [iLI3, iLI2, (iICge (24) 108)]
def bAq_flow_87 : List Ir := [iLA1, (iGR 105 2 0), iLI3, iDUP2, iIALD, iLA0, (iGR 24 0 2), iLI3, iIALD, iADD, iIAST, (iINC3 1), (iGO (-23) 82)]
def bAq_flow_108 : List Ir := [iRV]
def tAq_flow : Tb := [(0, bAq_flow_0, 30), (30, bAq_flow_30, 41), (41, bAq_flow_41, 53), (53, bAq_flow_53, 60), (60, bAq_flow_60, 68), (68, bAq_flow_68, 80), (80, bAq_flow_80, 82), (82, bAq_flow_82, 87), (87, bAq_flow_87, 108), (108, bAq_flow_108, 109)]
theorem fAq_flow_0 : tbf tAq_flow 0 = some (bAq_flow_0, 30) := rfl
theorem fAq_flow_30 : tbf tAq_flow 30 = some (bAq_flow_30, 41) := rfl
theorem fAq_flow_41 : tbf tAq_flow 41 = some (bAq_flow_41, 53) := rfl
theorem fAq_flow_53 : tbf tAq_flow 53 = some (bAq_flow_53, 60) := rfl
theorem fAq_flow_60 : tbf tAq_flow 60 = some (bAq_flow_60, 68) := rfl
theorem fAq_flow_68 : tbf tAq_flow 68 = some (bAq_flow_68, 80) := rfl
theorem fAq_flow_80 : tbf tAq_flow 80 = some (bAq_flow_80, 82) := rfl
theorem fAq_flow_82 : tbf tAq_flow 82 = some (bAq_flow_82, 87) := rfl
theorem fAq_flow_87 : tbf tAq_flow 87 = some (bAq_flow_87, 108) := rfl
theorem fAq_flow_108 : tbf tAq_flow 108 = some (bAq_flow_108, 109) := rfl
theorem kAq_flow_0 : Bok "HerbWaters$Aqueduct" prog_2_method_8_code (0, bAq_flow_0, 30) := ⟨by decide +kernel, (List.forall_mem_cons.mpr ⟨sLA1, (List.forall_mem_cons.mpr ⟨lAq_g67, (List.forall_mem_cons.mpr ⟨sLA1, (List.forall_mem_cons.mpr ⟨lAq_g79, (List.forall_mem_cons.mpr ⟨sMUL, (List.forall_mem_cons.mpr ⟨sSI2, (List.forall_mem_cons.mpr ⟨sLA0, (List.forall_mem_cons.mpr ⟨lAq_g24, (List.forall_mem_cons.mpr ⟨sC0, (List.forall_mem_cons.mpr ⟨sLI2, (List.forall_mem_cons.mpr ⟨sC0, (List.forall_mem_cons.mpr ⟨lAq_s82, (List.forall_mem_cons.mpr ⟨sLA1, (List.forall_mem_cons.mpr ⟨lAq_g87, (List.forall_mem_cons.mpr ⟨sC0, (List.forall_mem_cons.mpr ⟨lAq_s90, (List.forall_mem_cons.mpr ⟨sC0, (List.forall_mem_cons.mpr ⟨sSI3, (fun _ h => absurd h List.not_mem_nil)⟩)⟩)⟩)⟩)⟩)⟩)⟩)⟩)⟩)⟩)⟩)⟩)⟩)⟩)⟩)⟩)⟩)⟩)⟩
theorem kAq_flow_30 : Bok "HerbWaters$Aqueduct" prog_2_method_8_code (30, bAq_flow_30, 41) := ⟨by decide +kernel, (List.forall_mem_cons.mpr ⟨sLI3, (List.forall_mem_cons.mpr ⟨sLA0, (List.forall_mem_cons.mpr ⟨lAq_g12, (List.forall_mem_cons.mpr ⟨lAq_g93, (List.forall_mem_cons.mpr ⟨sICge, (fun _ h => absurd h List.not_mem_nil)⟩)⟩)⟩)⟩)⟩)⟩
theorem kAq_flow_41 : Bok "HerbWaters$Aqueduct" prog_2_method_8_code (41, bAq_flow_41, 53) := ⟨by decide +kernel, (List.forall_mem_cons.mpr ⟨sLA0, (List.forall_mem_cons.mpr ⟨sLA1, (List.forall_mem_cons.mpr ⟨sLI3, (List.forall_mem_cons.mpr ⟨lAq_v96, (List.forall_mem_cons.mpr ⟨sINC3, (List.forall_mem_cons.mpr ⟨sGO, (fun _ h => absurd h List.not_mem_nil)⟩)⟩)⟩)⟩)⟩)⟩)⟩
theorem kAq_flow_53 : Bok "HerbWaters$Aqueduct" prog_2_method_8_code (53, bAq_flow_53, 60) := ⟨by decide +kernel, (List.forall_mem_cons.mpr ⟨sLA0, (List.forall_mem_cons.mpr ⟨sLA1, (List.forall_mem_cons.mpr ⟨lAq_v99, (List.forall_mem_cons.mpr ⟨sC0, (List.forall_mem_cons.mpr ⟨sSI3, (fun _ h => absurd h List.not_mem_nil)⟩)⟩)⟩)⟩)⟩)⟩
theorem kAq_flow_60 : Bok "HerbWaters$Aqueduct" prog_2_method_8_code (60, bAq_flow_60, 68) := ⟨by decide +kernel, (List.forall_mem_cons.mpr ⟨sLI3, (List.forall_mem_cons.mpr ⟨sLA1, (List.forall_mem_cons.mpr ⟨lAq_g67, (List.forall_mem_cons.mpr ⟨sICge, (fun _ h => absurd h List.not_mem_nil)⟩)⟩)⟩)⟩)⟩
theorem kAq_flow_68 : Bok "HerbWaters$Aqueduct" prog_2_method_8_code (68, bAq_flow_68, 80) := ⟨by decide +kernel, (List.forall_mem_cons.mpr ⟨sLA0, (List.forall_mem_cons.mpr ⟨sLA1, (List.forall_mem_cons.mpr ⟨sLI3, (List.forall_mem_cons.mpr ⟨lAq_v102, (List.forall_mem_cons.mpr ⟨sINC3, (List.forall_mem_cons.mpr ⟨sGO, (fun _ h => absurd h List.not_mem_nil)⟩)⟩)⟩)⟩)⟩)⟩)⟩
theorem kAq_flow_80 : Bok "HerbWaters$Aqueduct" prog_2_method_8_code (80, bAq_flow_80, 82) := ⟨by decide +kernel, (List.forall_mem_cons.mpr ⟨sC0, (List.forall_mem_cons.mpr ⟨sSI3, (fun _ h => absurd h List.not_mem_nil)⟩)⟩)⟩
theorem kAq_flow_82 : Bok "HerbWaters$Aqueduct" prog_2_method_8_code (82, bAq_flow_82, 87) := ⟨by decide +kernel, (List.forall_mem_cons.mpr ⟨sLI3, (List.forall_mem_cons.mpr ⟨sLI2, (List.forall_mem_cons.mpr ⟨sICge, (fun _ h => absurd h List.not_mem_nil)⟩)⟩)⟩)⟩
theorem kAq_flow_87 : Bok "HerbWaters$Aqueduct" prog_2_method_8_code (87, bAq_flow_87, 108) := ⟨by decide +kernel, (List.forall_mem_cons.mpr ⟨sLA1, (List.forall_mem_cons.mpr ⟨lAq_g105, (List.forall_mem_cons.mpr ⟨sLI3, (List.forall_mem_cons.mpr ⟨sDUP2, (List.forall_mem_cons.mpr ⟨sIALD, (List.forall_mem_cons.mpr ⟨sLA0, (List.forall_mem_cons.mpr ⟨lAq_g24, (List.forall_mem_cons.mpr ⟨sLI3, (List.forall_mem_cons.mpr ⟨sIALD, (List.forall_mem_cons.mpr ⟨sADD, (List.forall_mem_cons.mpr ⟨sIAST, (List.forall_mem_cons.mpr ⟨sINC3, (List.forall_mem_cons.mpr ⟨sGO, (fun _ h => absurd h List.not_mem_nil)⟩)⟩)⟩)⟩)⟩)⟩)⟩)⟩)⟩)⟩)⟩)⟩)⟩)⟩
theorem kAq_flow_108 : Bok "HerbWaters$Aqueduct" prog_2_method_8_code (108, bAq_flow_108, 109) := ⟨by decide +kernel, (List.forall_mem_cons.mpr ⟨sRV, (fun _ h => absurd h List.not_mem_nil)⟩)⟩
theorem kAq_flow : ∀ q ∈ tAq_flow, Bok "HerbWaters$Aqueduct" prog_2_method_8_code q := (List.forall_mem_cons.mpr ⟨kAq_flow_0, (List.forall_mem_cons.mpr ⟨kAq_flow_30, (List.forall_mem_cons.mpr ⟨kAq_flow_41, (List.forall_mem_cons.mpr ⟨kAq_flow_53, (List.forall_mem_cons.mpr ⟨kAq_flow_60, (List.forall_mem_cons.mpr ⟨kAq_flow_68, (List.forall_mem_cons.mpr ⟨kAq_flow_80, (List.forall_mem_cons.mpr ⟨kAq_flow_82, (List.forall_mem_cons.mpr ⟨kAq_flow_87, (List.forall_mem_cons.mpr ⟨kAq_flow_108, (fun _ h => absurd h List.not_mem_nil)⟩)⟩)⟩)⟩)⟩)⟩)⟩)⟩)⟩)⟩)
theorem rAq_flow : mAq_flow.2.2.2 = none := rfl
theorem lAq_g108 : Snd "HerbWaters$Aqueduct" (iGR 108 9 7) := sGRN _ rfl "HerbWaters" (List.mem_filter.mpr ⟨List.mem_of_getElem? (i := 195) (by decide +kernel), rfl⟩)
theorem lAq_g111 : Snd "HerbWaters$Aqueduct" (iGR 111 9 8) := sGRN _ rfl "HerbWaters" (List.mem_filter.mpr ⟨List.mem_of_getElem? (i := 197) (by decide +kernel), rfl⟩)
theorem lAq_g114 : Snd "HerbWaters$Aqueduct" (iGR 114 9 9) := sGRN _ rfl "HerbWaters" (List.mem_filter.mpr ⟨List.mem_of_getElem? (i := 199) (by decide +kernel), rfl⟩)
def bAq_leadAlong_0 : List Ir := [iLA1, (iGI 79 2 8), iSI3, iLA0, (iGR 12 0 0), (iGR 108 9 7), iLI2, iIALD, iLI3, iMUL, iSI4, iLA0, (iGR 12 0 0), (iGR 111 9 8), iLI2, iIALD, iLI3, iMUL, iSI5, iLA0, (iGR 12 0 0), (iGR 114 9 9), iLI2, iIALD, iSI6, iC0, iSI7]
def bAq_leadAlong_45 : List Ir := [iLI7, iLI3, (iICge (66) 114)]
def bAq_leadAlong_51 : List Ir := [iLA1, (iGR 105 2 0), iLI4, iLI7, iADD, iIALD, iSI8, iLI8, (iIFle (43) 108)]
def bAq_leadAlong_68 : List Ir := [iLI8, iLI6, iMUL, (iBP 8), iDIV, iSI9, iLA0, (iGR 24 0 2), iLI4, iLI7, iADD, iDUP2, iIALD, iLI9, iSUB, iIAST, iLA0, (iGR 24 0 2), iLI5, iLI7, iADD, iDUP2, iIALD, iLI9, iADD, iIAST]
def bAq_leadAlong_108 : List Ir := [(iINC7 1), (iGO (-66) 45)]
def bAq_leadAlong_114 : List Ir := [iRV]
def tAq_leadAlong : Tb := [(0, bAq_leadAlong_0, 45), (45, bAq_leadAlong_45, 51), (51, bAq_leadAlong_51, 68), (68, bAq_leadAlong_68, 108), (108, bAq_leadAlong_108, 114), (114, bAq_leadAlong_114, 115)]
theorem fAq_leadAlong_0 : tbf tAq_leadAlong 0 = some (bAq_leadAlong_0, 45) := rfl
theorem fAq_leadAlong_45 : tbf tAq_leadAlong 45 = some (bAq_leadAlong_45, 51) := rfl
theorem fAq_leadAlong_51 : tbf tAq_leadAlong 51 = some (bAq_leadAlong_51, 68) := rfl
theorem fAq_leadAlong_68 : tbf tAq_leadAlong 68 = some (bAq_leadAlong_68, 108) := rfl
theorem fAq_leadAlong_108 : tbf tAq_leadAlong 108 = some (bAq_leadAlong_108, 114) := rfl
theorem fAq_leadAlong_114 : tbf tAq_leadAlong 114 = some (bAq_leadAlong_114, 115) := rfl
theorem kAq_leadAlong_0 : Bok "HerbWaters$Aqueduct" prog_2_method_9_code (0, bAq_leadAlong_0, 45) := ⟨by decide +kernel, (List.forall_mem_cons.mpr ⟨sLA1, (List.forall_mem_cons.mpr ⟨lAq_g79, (List.forall_mem_cons.mpr ⟨sSI3, (List.forall_mem_cons.mpr ⟨sLA0, (List.forall_mem_cons.mpr ⟨lAq_g12, (List.forall_mem_cons.mpr ⟨lAq_g108, (List.forall_mem_cons.mpr ⟨sLI2, (List.forall_mem_cons.mpr ⟨sIALD, (List.forall_mem_cons.mpr ⟨sLI3, (List.forall_mem_cons.mpr ⟨sMUL, (List.forall_mem_cons.mpr ⟨sSI4, (List.forall_mem_cons.mpr ⟨sLA0, (List.forall_mem_cons.mpr ⟨lAq_g12, (List.forall_mem_cons.mpr ⟨lAq_g111, (List.forall_mem_cons.mpr ⟨sLI2, (List.forall_mem_cons.mpr ⟨sIALD, (List.forall_mem_cons.mpr ⟨sLI3, (List.forall_mem_cons.mpr ⟨sMUL, (List.forall_mem_cons.mpr ⟨sSI5, (List.forall_mem_cons.mpr ⟨sLA0, (List.forall_mem_cons.mpr ⟨lAq_g12, (List.forall_mem_cons.mpr ⟨lAq_g114, (List.forall_mem_cons.mpr ⟨sLI2, (List.forall_mem_cons.mpr ⟨sIALD, (List.forall_mem_cons.mpr ⟨sSI6, (List.forall_mem_cons.mpr ⟨sC0, (List.forall_mem_cons.mpr ⟨sSI7, (fun _ h => absurd h List.not_mem_nil)⟩)⟩)⟩)⟩)⟩)⟩)⟩)⟩)⟩)⟩)⟩)⟩)⟩)⟩)⟩)⟩)⟩)⟩)⟩)⟩)⟩)⟩)⟩)⟩)⟩)⟩)⟩)⟩
theorem kAq_leadAlong_45 : Bok "HerbWaters$Aqueduct" prog_2_method_9_code (45, bAq_leadAlong_45, 51) := ⟨by decide +kernel, (List.forall_mem_cons.mpr ⟨sLI7, (List.forall_mem_cons.mpr ⟨sLI3, (List.forall_mem_cons.mpr ⟨sICge, (fun _ h => absurd h List.not_mem_nil)⟩)⟩)⟩)⟩
theorem kAq_leadAlong_51 : Bok "HerbWaters$Aqueduct" prog_2_method_9_code (51, bAq_leadAlong_51, 68) := ⟨by decide +kernel, (List.forall_mem_cons.mpr ⟨sLA1, (List.forall_mem_cons.mpr ⟨lAq_g105, (List.forall_mem_cons.mpr ⟨sLI4, (List.forall_mem_cons.mpr ⟨sLI7, (List.forall_mem_cons.mpr ⟨sADD, (List.forall_mem_cons.mpr ⟨sIALD, (List.forall_mem_cons.mpr ⟨sSI8, (List.forall_mem_cons.mpr ⟨sLI8, (List.forall_mem_cons.mpr ⟨sIFle, (fun _ h => absurd h List.not_mem_nil)⟩)⟩)⟩)⟩)⟩)⟩)⟩)⟩)⟩)⟩
theorem kAq_leadAlong_68 : Bok "HerbWaters$Aqueduct" prog_2_method_9_code (68, bAq_leadAlong_68, 108) := ⟨by decide +kernel, (List.forall_mem_cons.mpr ⟨sLI8, (List.forall_mem_cons.mpr ⟨sLI6, (List.forall_mem_cons.mpr ⟨sMUL, (List.forall_mem_cons.mpr ⟨sBP, (List.forall_mem_cons.mpr ⟨sDIV, (List.forall_mem_cons.mpr ⟨sSI9, (List.forall_mem_cons.mpr ⟨sLA0, (List.forall_mem_cons.mpr ⟨lAq_g24, (List.forall_mem_cons.mpr ⟨sLI4, (List.forall_mem_cons.mpr ⟨sLI7, (List.forall_mem_cons.mpr ⟨sADD, (List.forall_mem_cons.mpr ⟨sDUP2, (List.forall_mem_cons.mpr ⟨sIALD, (List.forall_mem_cons.mpr ⟨sLI9, (List.forall_mem_cons.mpr ⟨sSUB, (List.forall_mem_cons.mpr ⟨sIAST, (List.forall_mem_cons.mpr ⟨sLA0, (List.forall_mem_cons.mpr ⟨lAq_g24, (List.forall_mem_cons.mpr ⟨sLI5, (List.forall_mem_cons.mpr ⟨sLI7, (List.forall_mem_cons.mpr ⟨sADD, (List.forall_mem_cons.mpr ⟨sDUP2, (List.forall_mem_cons.mpr ⟨sIALD, (List.forall_mem_cons.mpr ⟨sLI9, (List.forall_mem_cons.mpr ⟨sADD, (List.forall_mem_cons.mpr ⟨sIAST, (fun _ h => absurd h List.not_mem_nil)⟩)⟩)⟩)⟩)⟩)⟩)⟩)⟩)⟩)⟩)⟩)⟩)⟩)⟩)⟩)⟩)⟩)⟩)⟩)⟩)⟩)⟩)⟩)⟩)⟩)⟩)⟩
theorem kAq_leadAlong_108 : Bok "HerbWaters$Aqueduct" prog_2_method_9_code (108, bAq_leadAlong_108, 114) := ⟨by decide +kernel, (List.forall_mem_cons.mpr ⟨sINC7, (List.forall_mem_cons.mpr ⟨sGO, (fun _ h => absurd h List.not_mem_nil)⟩)⟩)⟩
theorem kAq_leadAlong_114 : Bok "HerbWaters$Aqueduct" prog_2_method_9_code (114, bAq_leadAlong_114, 115) := ⟨by decide +kernel, (List.forall_mem_cons.mpr ⟨sRV, (fun _ h => absurd h List.not_mem_nil)⟩)⟩
theorem kAq_leadAlong : ∀ q ∈ tAq_leadAlong, Bok "HerbWaters$Aqueduct" prog_2_method_9_code q := (List.forall_mem_cons.mpr ⟨kAq_leadAlong_0, (List.forall_mem_cons.mpr ⟨kAq_leadAlong_45, (List.forall_mem_cons.mpr ⟨kAq_leadAlong_51, (List.forall_mem_cons.mpr ⟨kAq_leadAlong_68, (List.forall_mem_cons.mpr ⟨kAq_leadAlong_108, (List.forall_mem_cons.mpr ⟨kAq_leadAlong_114, (fun _ h => absurd h List.not_mem_nil)⟩)⟩)⟩)⟩)⟩)⟩)
theorem rAq_leadAlong : mAq_leadAlong.2.2.2 = none := rfl
theorem lAq_g117 : Snd "HerbWaters$Aqueduct" (iGI 117 9 12) := sGIN _ rfl "HerbWaters" (List.mem_filter.mpr ⟨List.mem_of_getElem? (i := 210) (by decide +kernel), rfl⟩)
theorem lAq_g120 : Snd "HerbWaters$Aqueduct" (iGI 120 9 13) := sGIN _ rfl "HerbWaters" (List.mem_filter.mpr ⟨List.mem_of_getElem? (i := 212) (by decide +kernel), rfl⟩)
theorem lAq_v123 : Snd "HerbWaters$Aqueduct" (iCV3 123 2 mDy_cell) := sCV3 _ rfl rfl ok_Dy_cell (gtb_mem 559 (by decide +kernel) rfl) (gtb_mem 560 (by decide +kernel) rfl) (gtb_mem 991 (by decide +kernel) rfl)
theorem lAq_g127 : Snd "HerbWaters$Aqueduct" (iGR 127 2 4) := sGRN _ rfl "HerbWaters" (List.mem_filter.mpr ⟨List.mem_of_getElem? (i := 325) (by decide +kernel), rfl⟩)
def bAq_leadToTown_0 : List Ir := [iLA0, (iGR 12 0 0), (iGI 117 9 12), iCm1, (iICne (4) 12)]
def bAq_leadToTown_11 : List Ir := [iRV]
def bAq_leadToTown_12 : List Ir := [iLA0, (iGR 12 0 0), (iGI 117 9 12), iLA1, (iGI 79 2 8), iMUL, iSI2, iLA1, (iGR 87 2 6), iC0, iLA1, (iGR 105 2 0), iLI2, iIALD, iLA0, (iGR 12 0 0), (iGI 120 9 13), iMUL, (iBP 8), iDIV, iIAST, iLA0, (iGR 24 0 2), iLI2, iDUP2, iIALD, iLA1, (iGR 87 2 6), iC0, iIALD, iSUB, iIAST, iC0, iSI3]
def bAq_leadToTown_65 : List Ir := [iLI3, iC3, (iICge (104) 171)]
def bAq_leadToTown_70 : List Ir := [iC0, iSI4]
def bAq_leadToTown_73 : List Ir := [iLI4, iLA1, (iGI 67 2 7), (iICge (86) 165)]
def bAq_leadToTown_82 : List Ir := [iLA1, iLA0, (iGR 12 0 0), (iGI 117 9 12), iLI3, iLI4, (iCV3 123 2 mDy_cell), iSI5, iLA1, (iGR 105 2 0), iLI5, iIALD, iLA0, (iGR 12 0 0), (iGI 120 9 13), iMUL, (iBP 8), iDIV, iSI6, iLA0, (iGR 24 0 2), iLI5, iDUP2, iIALD, iLI6, iSUB, iIAST, iLA1, (iGR 87 2 6), iC1, iLI3, iADD, iDUP2, iIALD, iLI6, iADD, iIAST, iLA1, (iGR 127 2 4), iLI4, iC3, iMUL, iLI3, iADD, iDUP2, iIALD, iLI6, iADD, iIAST, (iINC4 1), (iGO (-89) 73)]
def bAq_leadToTown_165 : List Ir := [(iINC3 1), (iGO (-103) 65)]
def bAq_leadToTown_171 : List Ir := [iRV]
def tAq_leadToTown : Tb := [(0, bAq_leadToTown_0, 11), (11, bAq_leadToTown_11, 12), (12, bAq_leadToTown_12, 65), (65, bAq_leadToTown_65, 70), (70, bAq_leadToTown_70, 73), (73, bAq_leadToTown_73, 82), (82, bAq_leadToTown_82, 165), (165, bAq_leadToTown_165, 171), (171, bAq_leadToTown_171, 172)]
theorem fAq_leadToTown_0 : tbf tAq_leadToTown 0 = some (bAq_leadToTown_0, 11) := rfl
theorem fAq_leadToTown_11 : tbf tAq_leadToTown 11 = some (bAq_leadToTown_11, 12) := rfl
theorem fAq_leadToTown_12 : tbf tAq_leadToTown 12 = some (bAq_leadToTown_12, 65) := rfl
theorem fAq_leadToTown_65 : tbf tAq_leadToTown 65 = some (bAq_leadToTown_65, 70) := rfl
theorem fAq_leadToTown_70 : tbf tAq_leadToTown 70 = some (bAq_leadToTown_70, 73) := rfl
theorem fAq_leadToTown_73 : tbf tAq_leadToTown 73 = some (bAq_leadToTown_73, 82) := rfl
theorem fAq_leadToTown_82 : tbf tAq_leadToTown 82 = some (bAq_leadToTown_82, 165) := rfl
theorem fAq_leadToTown_165 : tbf tAq_leadToTown 165 = some (bAq_leadToTown_165, 171) := rfl
theorem fAq_leadToTown_171 : tbf tAq_leadToTown 171 = some (bAq_leadToTown_171, 172) := rfl
theorem kAq_leadToTown_0 : Bok "HerbWaters$Aqueduct" prog_2_method_10_code (0, bAq_leadToTown_0, 11) := ⟨by decide +kernel, (List.forall_mem_cons.mpr ⟨sLA0, (List.forall_mem_cons.mpr ⟨lAq_g12, (List.forall_mem_cons.mpr ⟨lAq_g117, (List.forall_mem_cons.mpr ⟨sCm1, (List.forall_mem_cons.mpr ⟨sICne, (fun _ h => absurd h List.not_mem_nil)⟩)⟩)⟩)⟩)⟩)⟩
theorem kAq_leadToTown_11 : Bok "HerbWaters$Aqueduct" prog_2_method_10_code (11, bAq_leadToTown_11, 12) := ⟨by decide +kernel, (List.forall_mem_cons.mpr ⟨sRV, (fun _ h => absurd h List.not_mem_nil)⟩)⟩
theorem kAq_leadToTown_12 : Bok "HerbWaters$Aqueduct" prog_2_method_10_code (12, bAq_leadToTown_12, 65) := ⟨by decide +kernel, (List.forall_mem_cons.mpr ⟨sLA0, (List.forall_mem_cons.mpr ⟨lAq_g12, (List.forall_mem_cons.mpr ⟨lAq_g117, (List.forall_mem_cons.mpr ⟨sLA1, (List.forall_mem_cons.mpr ⟨lAq_g79, (List.forall_mem_cons.mpr ⟨sMUL, (List.forall_mem_cons.mpr ⟨sSI2, (List.forall_mem_cons.mpr ⟨sLA1, (List.forall_mem_cons.mpr ⟨lAq_g87, (List.forall_mem_cons.mpr ⟨sC0, (List.forall_mem_cons.mpr ⟨sLA1, (List.forall_mem_cons.mpr ⟨lAq_g105, (List.forall_mem_cons.mpr ⟨sLI2, (List.forall_mem_cons.mpr ⟨sIALD, (List.forall_mem_cons.mpr ⟨sLA0, (List.forall_mem_cons.mpr ⟨lAq_g12, (List.forall_mem_cons.mpr ⟨lAq_g120, (List.forall_mem_cons.mpr ⟨sMUL, (List.forall_mem_cons.mpr ⟨sBP, (List.forall_mem_cons.mpr ⟨sDIV, (List.forall_mem_cons.mpr ⟨sIAST, (List.forall_mem_cons.mpr ⟨sLA0, (List.forall_mem_cons.mpr ⟨lAq_g24, (List.forall_mem_cons.mpr ⟨sLI2, (List.forall_mem_cons.mpr ⟨sDUP2, (List.forall_mem_cons.mpr ⟨sIALD, (List.forall_mem_cons.mpr ⟨sLA1, (List.forall_mem_cons.mpr ⟨lAq_g87, (List.forall_mem_cons.mpr ⟨sC0, (List.forall_mem_cons.mpr ⟨sIALD, (List.forall_mem_cons.mpr ⟨sSUB, (List.forall_mem_cons.mpr ⟨sIAST, (List.forall_mem_cons.mpr ⟨sC0, (List.forall_mem_cons.mpr ⟨sSI3, (fun _ h => absurd h List.not_mem_nil)⟩)⟩)⟩)⟩)⟩)⟩)⟩)⟩)⟩)⟩)⟩)⟩)⟩)⟩)⟩)⟩)⟩)⟩)⟩)⟩)⟩)⟩)⟩)⟩)⟩)⟩)⟩)⟩)⟩)⟩)⟩)⟩)⟩)⟩)⟩
theorem kAq_leadToTown_65 : Bok "HerbWaters$Aqueduct" prog_2_method_10_code (65, bAq_leadToTown_65, 70) := ⟨by decide +kernel, (List.forall_mem_cons.mpr ⟨sLI3, (List.forall_mem_cons.mpr ⟨sC3, (List.forall_mem_cons.mpr ⟨sICge, (fun _ h => absurd h List.not_mem_nil)⟩)⟩)⟩)⟩
theorem kAq_leadToTown_70 : Bok "HerbWaters$Aqueduct" prog_2_method_10_code (70, bAq_leadToTown_70, 73) := ⟨by decide +kernel, (List.forall_mem_cons.mpr ⟨sC0, (List.forall_mem_cons.mpr ⟨sSI4, (fun _ h => absurd h List.not_mem_nil)⟩)⟩)⟩
theorem kAq_leadToTown_73 : Bok "HerbWaters$Aqueduct" prog_2_method_10_code (73, bAq_leadToTown_73, 82) := ⟨by decide +kernel, (List.forall_mem_cons.mpr ⟨sLI4, (List.forall_mem_cons.mpr ⟨sLA1, (List.forall_mem_cons.mpr ⟨lAq_g67, (List.forall_mem_cons.mpr ⟨sICge, (fun _ h => absurd h List.not_mem_nil)⟩)⟩)⟩)⟩)⟩
theorem kAq_leadToTown_82 : Bok "HerbWaters$Aqueduct" prog_2_method_10_code (82, bAq_leadToTown_82, 165) := ⟨by decide +kernel, (List.forall_mem_cons.mpr ⟨sLA1, (List.forall_mem_cons.mpr ⟨sLA0, (List.forall_mem_cons.mpr ⟨lAq_g12, (List.forall_mem_cons.mpr ⟨lAq_g117, (List.forall_mem_cons.mpr ⟨sLI3, (List.forall_mem_cons.mpr ⟨sLI4, (List.forall_mem_cons.mpr ⟨lAq_v123, (List.forall_mem_cons.mpr ⟨sSI5, (List.forall_mem_cons.mpr ⟨sLA1, (List.forall_mem_cons.mpr ⟨lAq_g105, (List.forall_mem_cons.mpr ⟨sLI5, (List.forall_mem_cons.mpr ⟨sIALD, (List.forall_mem_cons.mpr ⟨sLA0, (List.forall_mem_cons.mpr ⟨lAq_g12, (List.forall_mem_cons.mpr ⟨lAq_g120, (List.forall_mem_cons.mpr ⟨sMUL, (List.forall_mem_cons.mpr ⟨sBP, (List.forall_mem_cons.mpr ⟨sDIV, (List.forall_mem_cons.mpr ⟨sSI6, (List.forall_mem_cons.mpr ⟨sLA0, (List.forall_mem_cons.mpr ⟨lAq_g24, (List.forall_mem_cons.mpr ⟨sLI5, (List.forall_mem_cons.mpr ⟨sDUP2, (List.forall_mem_cons.mpr ⟨sIALD, (List.forall_mem_cons.mpr ⟨sLI6, (List.forall_mem_cons.mpr ⟨sSUB, (List.forall_mem_cons.mpr ⟨sIAST, (List.forall_mem_cons.mpr ⟨sLA1, (List.forall_mem_cons.mpr ⟨lAq_g87, (List.forall_mem_cons.mpr ⟨sC1, (List.forall_mem_cons.mpr ⟨sLI3, (List.forall_mem_cons.mpr ⟨sADD, (List.forall_mem_cons.mpr ⟨sDUP2, (List.forall_mem_cons.mpr ⟨sIALD, (List.forall_mem_cons.mpr ⟨sLI6, (List.forall_mem_cons.mpr ⟨sADD, (List.forall_mem_cons.mpr ⟨sIAST, (List.forall_mem_cons.mpr ⟨sLA1, (List.forall_mem_cons.mpr ⟨lAq_g127, (List.forall_mem_cons.mpr ⟨sLI4, (List.forall_mem_cons.mpr ⟨sC3, (List.forall_mem_cons.mpr ⟨sMUL, (List.forall_mem_cons.mpr ⟨sLI3, (List.forall_mem_cons.mpr ⟨sADD, (List.forall_mem_cons.mpr ⟨sDUP2, (List.forall_mem_cons.mpr ⟨sIALD, (List.forall_mem_cons.mpr ⟨sLI6, (List.forall_mem_cons.mpr ⟨sADD, (List.forall_mem_cons.mpr ⟨sIAST, (List.forall_mem_cons.mpr ⟨sINC4, (List.forall_mem_cons.mpr ⟨sGO, (fun _ h => absurd h List.not_mem_nil)⟩)⟩)⟩)⟩)⟩)⟩)⟩)⟩)⟩)⟩)⟩)⟩)⟩)⟩)⟩)⟩)⟩)⟩)⟩)⟩)⟩)⟩)⟩)⟩)⟩)⟩)⟩)⟩)⟩)⟩)⟩)⟩)⟩)⟩)⟩)⟩)⟩)⟩)⟩)⟩)⟩)⟩)⟩)⟩)⟩)⟩)⟩)⟩)⟩)⟩)⟩)⟩
theorem kAq_leadToTown_165 : Bok "HerbWaters$Aqueduct" prog_2_method_10_code (165, bAq_leadToTown_165, 171) := ⟨by decide +kernel, (List.forall_mem_cons.mpr ⟨sINC3, (List.forall_mem_cons.mpr ⟨sGO, (fun _ h => absurd h List.not_mem_nil)⟩)⟩)⟩
theorem kAq_leadToTown_171 : Bok "HerbWaters$Aqueduct" prog_2_method_10_code (171, bAq_leadToTown_171, 172) := ⟨by decide +kernel, (List.forall_mem_cons.mpr ⟨sRV, (fun _ h => absurd h List.not_mem_nil)⟩)⟩
theorem kAq_leadToTown : ∀ q ∈ tAq_leadToTown, Bok "HerbWaters$Aqueduct" prog_2_method_10_code q := (List.forall_mem_cons.mpr ⟨kAq_leadToTown_0, (List.forall_mem_cons.mpr ⟨kAq_leadToTown_11, (List.forall_mem_cons.mpr ⟨kAq_leadToTown_12, (List.forall_mem_cons.mpr ⟨kAq_leadToTown_65, (List.forall_mem_cons.mpr ⟨kAq_leadToTown_70, (List.forall_mem_cons.mpr ⟨kAq_leadToTown_73, (List.forall_mem_cons.mpr ⟨kAq_leadToTown_82, (List.forall_mem_cons.mpr ⟨kAq_leadToTown_165, (List.forall_mem_cons.mpr ⟨kAq_leadToTown_171, (fun _ h => absurd h List.not_mem_nil)⟩)⟩)⟩)⟩)⟩)⟩)⟩)⟩)⟩)
theorem rAq_leadToTown : mAq_leadToTown.2.2.2 = none := rfl
theorem lAq_g130 : Snd "HerbWaters$Aqueduct" (iGR 130 9 2) := sGRN _ rfl "HerbWaters" (List.mem_filter.mpr ⟨List.mem_of_getElem? (i := 182) (by decide +kernel), rfl⟩)
theorem lAq_g133 : Snd "HerbWaters$Aqueduct" (iGI 133 2 12) := sGIN _ rfl "HerbWaters" (List.mem_filter.mpr ⟨List.mem_of_getElem? (i := 355) (by decide +kernel), rfl⟩)
theorem lAq_p133 : Snd "HerbWaters$Aqueduct" (iPI 133 2 12) := sPIN _ rfl rfl "HerbWaters" (List.mem_filter.mpr ⟨List.mem_of_getElem? (i := 355) (by decide +kernel), rfl⟩)
def bAq_leadToGardens_0 : List Ir := [iLA0, (iGR 12 0 0), (iGR 130 9 2), iLI2, iIALD, iSI3, iLI3, (iIFne (4) 15)]
def bAq_leadToGardens_14 : List Ir := [iRV]
def bAq_leadToGardens_15 : List Ir := [iLA1, (iGI 79 2 8), iSI4, iLI2, iLI4, iMUL, iSI5, iLA0, (iGR 24 0 2), iLI5, iDUP2, iIALD, iLA1, (iGR 105 2 0), iLI5, iIALD, iLI3, iMUL, (iBP 8), iDIV, iSUB, iIAST, iC1, iSI6]
def bAq_leadToGardens_52 : List Ir := [iLI6, iLI4, (iICge (52) 108)]
def bAq_leadToGardens_59 : List Ir := [iLA1, (iGR 105 2 0), iLI5, iLI6, iADD, iIALD, iLI3, iMUL, (iBP 8), iDIV, iSI7, iLA0, (iGR 24 0 2), iLI5, iLI6, iADD, iDUP2, iIALD, iLI7, iSUB, iIAST, iLA1, iDUPr, (iGI 133 2 12), iLI7, iADD, (iPI 133 2 12), (iINC6 1), (iGO (-53) 52)]
def bAq_leadToGardens_108 : List Ir := [iRV]
def tAq_leadToGardens : Tb := [(0, bAq_leadToGardens_0, 14), (14, bAq_leadToGardens_14, 15), (15, bAq_leadToGardens_15, 52), (52, bAq_leadToGardens_52, 59), (59, bAq_leadToGardens_59, 108), (108, bAq_leadToGardens_108, 109)]
theorem fAq_leadToGardens_0 : tbf tAq_leadToGardens 0 = some (bAq_leadToGardens_0, 14) := rfl
theorem fAq_leadToGardens_14 : tbf tAq_leadToGardens 14 = some (bAq_leadToGardens_14, 15) := rfl
theorem fAq_leadToGardens_15 : tbf tAq_leadToGardens 15 = some (bAq_leadToGardens_15, 52) := rfl
theorem fAq_leadToGardens_52 : tbf tAq_leadToGardens 52 = some (bAq_leadToGardens_52, 59) := rfl
theorem fAq_leadToGardens_59 : tbf tAq_leadToGardens 59 = some (bAq_leadToGardens_59, 108) := rfl
theorem fAq_leadToGardens_108 : tbf tAq_leadToGardens 108 = some (bAq_leadToGardens_108, 109) := rfl
theorem kAq_leadToGardens_0 : Bok "HerbWaters$Aqueduct" prog_2_method_11_code (0, bAq_leadToGardens_0, 14) := ⟨by decide +kernel, (List.forall_mem_cons.mpr ⟨sLA0, (List.forall_mem_cons.mpr ⟨lAq_g12, (List.forall_mem_cons.mpr ⟨lAq_g130, (List.forall_mem_cons.mpr ⟨sLI2, (List.forall_mem_cons.mpr ⟨sIALD, (List.forall_mem_cons.mpr ⟨sSI3, (List.forall_mem_cons.mpr ⟨sLI3, (List.forall_mem_cons.mpr ⟨sIFne, (fun _ h => absurd h List.not_mem_nil)⟩)⟩)⟩)⟩)⟩)⟩)⟩)⟩)⟩
theorem kAq_leadToGardens_14 : Bok "HerbWaters$Aqueduct" prog_2_method_11_code (14, bAq_leadToGardens_14, 15) := ⟨by decide +kernel, (List.forall_mem_cons.mpr ⟨sRV, (fun _ h => absurd h List.not_mem_nil)⟩)⟩
theorem kAq_leadToGardens_15 : Bok "HerbWaters$Aqueduct" prog_2_method_11_code (15, bAq_leadToGardens_15, 52) := ⟨by decide +kernel, (List.forall_mem_cons.mpr ⟨sLA1, (List.forall_mem_cons.mpr ⟨lAq_g79, (List.forall_mem_cons.mpr ⟨sSI4, (List.forall_mem_cons.mpr ⟨sLI2, (List.forall_mem_cons.mpr ⟨sLI4, (List.forall_mem_cons.mpr ⟨sMUL, (List.forall_mem_cons.mpr ⟨sSI5, (List.forall_mem_cons.mpr ⟨sLA0, (List.forall_mem_cons.mpr ⟨lAq_g24, (List.forall_mem_cons.mpr ⟨sLI5, (List.forall_mem_cons.mpr ⟨sDUP2, (List.forall_mem_cons.mpr ⟨sIALD, (List.forall_mem_cons.mpr ⟨sLA1, (List.forall_mem_cons.mpr ⟨lAq_g105, (List.forall_mem_cons.mpr ⟨sLI5, (List.forall_mem_cons.mpr ⟨sIALD, (List.forall_mem_cons.mpr ⟨sLI3, (List.forall_mem_cons.mpr ⟨sMUL, (List.forall_mem_cons.mpr ⟨sBP, (List.forall_mem_cons.mpr ⟨sDIV, (List.forall_mem_cons.mpr ⟨sSUB, (List.forall_mem_cons.mpr ⟨sIAST, (List.forall_mem_cons.mpr ⟨sC1, (List.forall_mem_cons.mpr ⟨sSI6, (fun _ h => absurd h List.not_mem_nil)⟩)⟩)⟩)⟩)⟩)⟩)⟩)⟩)⟩)⟩)⟩)⟩)⟩)⟩)⟩)⟩)⟩)⟩)⟩)⟩)⟩)⟩)⟩)⟩)⟩
theorem kAq_leadToGardens_52 : Bok "HerbWaters$Aqueduct" prog_2_method_11_code (52, bAq_leadToGardens_52, 59) := ⟨by decide +kernel, (List.forall_mem_cons.mpr ⟨sLI6, (List.forall_mem_cons.mpr ⟨sLI4, (List.forall_mem_cons.mpr ⟨sICge, (fun _ h => absurd h List.not_mem_nil)⟩)⟩)⟩)⟩
theorem kAq_leadToGardens_59 : Bok "HerbWaters$Aqueduct" prog_2_method_11_code (59, bAq_leadToGardens_59, 108) := ⟨by decide +kernel, (List.forall_mem_cons.mpr ⟨sLA1, (List.forall_mem_cons.mpr ⟨lAq_g105, (List.forall_mem_cons.mpr ⟨sLI5, (List.forall_mem_cons.mpr ⟨sLI6, (List.forall_mem_cons.mpr ⟨sADD, (List.forall_mem_cons.mpr ⟨sIALD, (List.forall_mem_cons.mpr ⟨sLI3, (List.forall_mem_cons.mpr ⟨sMUL, (List.forall_mem_cons.mpr ⟨sBP, (List.forall_mem_cons.mpr ⟨sDIV, (List.forall_mem_cons.mpr ⟨sSI7, (List.forall_mem_cons.mpr ⟨sLA0, (List.forall_mem_cons.mpr ⟨lAq_g24, (List.forall_mem_cons.mpr ⟨sLI5, (List.forall_mem_cons.mpr ⟨sLI6, (List.forall_mem_cons.mpr ⟨sADD, (List.forall_mem_cons.mpr ⟨sDUP2, (List.forall_mem_cons.mpr ⟨sIALD, (List.forall_mem_cons.mpr ⟨sLI7, (List.forall_mem_cons.mpr ⟨sSUB, (List.forall_mem_cons.mpr ⟨sIAST, (List.forall_mem_cons.mpr ⟨sLA1, (List.forall_mem_cons.mpr ⟨sDUPr, (List.forall_mem_cons.mpr ⟨lAq_g133, (List.forall_mem_cons.mpr ⟨sLI7, (List.forall_mem_cons.mpr ⟨sADD, (List.forall_mem_cons.mpr ⟨lAq_p133, (List.forall_mem_cons.mpr ⟨sINC6, (List.forall_mem_cons.mpr ⟨sGO, (fun _ h => absurd h List.not_mem_nil)⟩)⟩)⟩)⟩)⟩)⟩)⟩)⟩)⟩)⟩)⟩)⟩)⟩)⟩)⟩)⟩)⟩)⟩)⟩)⟩)⟩)⟩)⟩)⟩)⟩)⟩)⟩)⟩)⟩)⟩
theorem kAq_leadToGardens_108 : Bok "HerbWaters$Aqueduct" prog_2_method_11_code (108, bAq_leadToGardens_108, 109) := ⟨by decide +kernel, (List.forall_mem_cons.mpr ⟨sRV, (fun _ h => absurd h List.not_mem_nil)⟩)⟩
theorem kAq_leadToGardens : ∀ q ∈ tAq_leadToGardens, Bok "HerbWaters$Aqueduct" prog_2_method_11_code q := (List.forall_mem_cons.mpr ⟨kAq_leadToGardens_0, (List.forall_mem_cons.mpr ⟨kAq_leadToGardens_14, (List.forall_mem_cons.mpr ⟨kAq_leadToGardens_15, (List.forall_mem_cons.mpr ⟨kAq_leadToGardens_52, (List.forall_mem_cons.mpr ⟨kAq_leadToGardens_59, (List.forall_mem_cons.mpr ⟨kAq_leadToGardens_108, (fun _ h => absurd h List.not_mem_nil)⟩)⟩)⟩)⟩)⟩)⟩)
theorem rAq_leadToGardens : mAq_leadToGardens.2.2.2 = none := rfl
theorem lAq_v136 : Snd "HerbWaters$Aqueduct" (iCV0 136 2 mDy_isNextDry) := sCV0 _ rfl rfl ok_Dy_isNextDry (gtb_mem 1001 (by decide +kernel) rfl) (gtb_mem 1002 (by decide +kernel) rfl) (gtb_mem 1000 (by decide +kernel) rfl)
theorem lAq_g140 : Snd "HerbWaters$Aqueduct" (iGR 140 9 1) := sGRN _ rfl "HerbWaters" (List.mem_filter.mpr ⟨List.mem_of_getElem? (i := 180) (by decide +kernel), rfl⟩)
def bAq_fill_0 : List Ir := [iC0, iSI2]
def bAq_fill_2 : List Ir := [iLI2, iLA1, (iGI 67 2 7), (iICge (39) 46)]
def bAq_fill_10 : List Ir := [iLA1, (iCV0 136 2 mDy_isNextDry), (iIFne (26) 40)]
def bAq_fill_17 : List Ir := [iLA1, (iGR 105 2 0), iLI2, iLA1, (iGI 79 2 8), iMUL, iDUP2, iIALD, iLA0, (iGR 12 0 0), (iGR 140 9 1), iLI2, iIALD, iADD, iIAST]
def bAq_fill_40 : List Ir := [(iINC2 1), (iGO (-41) 2)]
def bAq_fill_46 : List Ir := [iRV]
def tAq_fill : Tb := [(0, bAq_fill_0, 2), (2, bAq_fill_2, 10), (10, bAq_fill_10, 17), (17, bAq_fill_17, 40), (40, bAq_fill_40, 46), (46, bAq_fill_46, 47)]
theorem fAq_fill_0 : tbf tAq_fill 0 = some (bAq_fill_0, 2) := rfl
theorem fAq_fill_2 : tbf tAq_fill 2 = some (bAq_fill_2, 10) := rfl
theorem fAq_fill_10 : tbf tAq_fill 10 = some (bAq_fill_10, 17) := rfl
theorem fAq_fill_17 : tbf tAq_fill 17 = some (bAq_fill_17, 40) := rfl
theorem fAq_fill_40 : tbf tAq_fill 40 = some (bAq_fill_40, 46) := rfl
theorem fAq_fill_46 : tbf tAq_fill 46 = some (bAq_fill_46, 47) := rfl
theorem kAq_fill_0 : Bok "HerbWaters$Aqueduct" prog_2_method_12_code (0, bAq_fill_0, 2) := ⟨by decide +kernel, (List.forall_mem_cons.mpr ⟨sC0, (List.forall_mem_cons.mpr ⟨sSI2, (fun _ h => absurd h List.not_mem_nil)⟩)⟩)⟩
theorem kAq_fill_2 : Bok "HerbWaters$Aqueduct" prog_2_method_12_code (2, bAq_fill_2, 10) := ⟨by decide +kernel, (List.forall_mem_cons.mpr ⟨sLI2, (List.forall_mem_cons.mpr ⟨sLA1, (List.forall_mem_cons.mpr ⟨lAq_g67, (List.forall_mem_cons.mpr ⟨sICge, (fun _ h => absurd h List.not_mem_nil)⟩)⟩)⟩)⟩)⟩
theorem kAq_fill_10 : Bok "HerbWaters$Aqueduct" prog_2_method_12_code (10, bAq_fill_10, 17) := ⟨by decide +kernel, (List.forall_mem_cons.mpr ⟨sLA1, (List.forall_mem_cons.mpr ⟨lAq_v136, (List.forall_mem_cons.mpr ⟨sIFne, (fun _ h => absurd h List.not_mem_nil)⟩)⟩)⟩)⟩
theorem kAq_fill_17 : Bok "HerbWaters$Aqueduct" prog_2_method_12_code (17, bAq_fill_17, 40) := ⟨by decide +kernel, (List.forall_mem_cons.mpr ⟨sLA1, (List.forall_mem_cons.mpr ⟨lAq_g105, (List.forall_mem_cons.mpr ⟨sLI2, (List.forall_mem_cons.mpr ⟨sLA1, (List.forall_mem_cons.mpr ⟨lAq_g79, (List.forall_mem_cons.mpr ⟨sMUL, (List.forall_mem_cons.mpr ⟨sDUP2, (List.forall_mem_cons.mpr ⟨sIALD, (List.forall_mem_cons.mpr ⟨sLA0, (List.forall_mem_cons.mpr ⟨lAq_g12, (List.forall_mem_cons.mpr ⟨lAq_g140, (List.forall_mem_cons.mpr ⟨sLI2, (List.forall_mem_cons.mpr ⟨sIALD, (List.forall_mem_cons.mpr ⟨sADD, (List.forall_mem_cons.mpr ⟨sIAST, (fun _ h => absurd h List.not_mem_nil)⟩)⟩)⟩)⟩)⟩)⟩)⟩)⟩)⟩)⟩)⟩)⟩)⟩)⟩)⟩)⟩
theorem kAq_fill_40 : Bok "HerbWaters$Aqueduct" prog_2_method_12_code (40, bAq_fill_40, 46) := ⟨by decide +kernel, (List.forall_mem_cons.mpr ⟨sINC2, (List.forall_mem_cons.mpr ⟨sGO, (fun _ h => absurd h List.not_mem_nil)⟩)⟩)⟩
theorem kAq_fill_46 : Bok "HerbWaters$Aqueduct" prog_2_method_12_code (46, bAq_fill_46, 47) := ⟨by decide +kernel, (List.forall_mem_cons.mpr ⟨sRV, (fun _ h => absurd h List.not_mem_nil)⟩)⟩
theorem kAq_fill : ∀ q ∈ tAq_fill, Bok "HerbWaters$Aqueduct" prog_2_method_12_code q := (List.forall_mem_cons.mpr ⟨kAq_fill_0, (List.forall_mem_cons.mpr ⟨kAq_fill_2, (List.forall_mem_cons.mpr ⟨kAq_fill_10, (List.forall_mem_cons.mpr ⟨kAq_fill_17, (List.forall_mem_cons.mpr ⟨kAq_fill_40, (List.forall_mem_cons.mpr ⟨kAq_fill_46, (fun _ h => absurd h List.not_mem_nil)⟩)⟩)⟩)⟩)⟩)⟩)
theorem rAq_fill : mAq_fill.2.2.2 = none := rfl
theorem lAq_g143 : Snd "HerbWaters$Aqueduct" (iGR 143 9 6) := sGRN _ rfl "HerbWaters" (List.mem_filter.mpr ⟨List.mem_of_getElem? (i := 193) (by decide +kernel), rfl⟩)
theorem lAq_g146 : Snd "HerbWaters$Aqueduct" (iGR 146 2 5) := sGRN _ rfl "HerbWaters" (List.mem_filter.mpr ⟨List.mem_of_getElem? (i := 330) (by decide +kernel), rfl⟩)
theorem lAq_g149 : Snd "HerbWaters$Aqueduct" (iGI 149 2 14) := sGIN _ rfl "HerbWaters" (List.mem_filter.mpr ⟨List.mem_of_getElem? (i := 362) (by decide +kernel), rfl⟩)
theorem lAq_g152 : Snd "HerbWaters$Aqueduct" (iGI 152 2 15) := sGIN _ rfl "HerbWaters" (List.mem_filter.mpr ⟨List.mem_of_getElem? (i := 365) (by decide +kernel), rfl⟩)
def mAq_takeOut : Mt := (⟨"HerbWaters$Aqueduct", "takeOut", "(LHerbWaters$Days;II)V"⟩, prog_2_method_14_code, 7, none)
theorem ok_Aq_takeOut : Mok mAq_takeOut := ⟨gtb_mem 1012 (by decide +kernel) rfl, gtb_mem 95 (by decide +kernel) rfl, by decide +kernel, by decide⟩
theorem lAq_v155 : Snd "HerbWaters$Aqueduct" (iCV3 155 0 mAq_takeOut) := sCV3 _ rfl rfl ok_Aq_takeOut (gtb_mem 1011 (by decide +kernel) rfl) (gtb_mem 9 (by decide +kernel) rfl) (gtb_mem 1009 (by decide +kernel) rfl)
def bAq_strain_0 : List Ir := [iC0, iSI2]
def bAq_strain_2 : List Ir := [iLI2, iLA1, (iGI 67 2 7), (iICge (80) 87)]
def bAq_strain_10 : List Ir := [iC0, iSI3]
def bAq_strain_12 : List Ir := [iLI3, iC3, (iICge (67) 81)]
def bAq_strain_17 : List Ir := [iLI2, iC3, iMUL, iLI3, iADD, iSI4, iLA0, (iGR 12 0 0), (iGR 143 9 6), iLI4, iIALD, iLA1, (iGR 146 2 5), iLI2, iIALD, iADD, iLA1, (iGI 149 2 14), iLI4, (iICne (10) 57)]
def bAq_strain_50 : List Ir := [iLA1, (iGI 152 2 15), (iGO (4) 58)]
def bAq_strain_57 : List Ir := [iC0]
def bAq_strain_58 : List Ir := [iADD, iSI5, iLA0, iLA1, iLA1, iLI2, iLI3, iC0, (iCV3 123 2 mDy_cell), iLI5, (iCV3 155 0 mAq_takeOut), (iINC3 1), (iGO (-66) 12)]
def bAq_strain_81 : List Ir := [(iINC2 1), (iGO (-82) 2)]
def bAq_strain_87 : List Ir := [iRV]
def tAq_strain : Tb := [(0, bAq_strain_0, 2), (2, bAq_strain_2, 10), (10, bAq_strain_10, 12), (12, bAq_strain_12, 17), (17, bAq_strain_17, 50), (50, bAq_strain_50, 57), (57, bAq_strain_57, 58), (58, bAq_strain_58, 81), (81, bAq_strain_81, 87), (87, bAq_strain_87, 88)]
theorem fAq_strain_0 : tbf tAq_strain 0 = some (bAq_strain_0, 2) := rfl
theorem fAq_strain_2 : tbf tAq_strain 2 = some (bAq_strain_2, 10) := rfl
theorem fAq_strain_10 : tbf tAq_strain 10 = some (bAq_strain_10, 12) := rfl
theorem fAq_strain_12 : tbf tAq_strain 12 = some (bAq_strain_12, 17) := rfl
theorem fAq_strain_17 : tbf tAq_strain 17 = some (bAq_strain_17, 50) := rfl
theorem fAq_strain_50 : tbf tAq_strain 50 = some (bAq_strain_50, 57) := rfl
theorem fAq_strain_57 : tbf tAq_strain 57 = some (bAq_strain_57, 58) := rfl
theorem fAq_strain_58 : tbf tAq_strain 58 = some (bAq_strain_58, 81) := rfl
theorem fAq_strain_81 : tbf tAq_strain 81 = some (bAq_strain_81, 87) := rfl
theorem fAq_strain_87 : tbf tAq_strain 87 = some (bAq_strain_87, 88) := rfl
theorem kAq_strain_0 : Bok "HerbWaters$Aqueduct" prog_2_method_13_code (0, bAq_strain_0, 2) := ⟨by decide +kernel, (List.forall_mem_cons.mpr ⟨sC0, (List.forall_mem_cons.mpr ⟨sSI2, (fun _ h => absurd h List.not_mem_nil)⟩)⟩)⟩
theorem kAq_strain_2 : Bok "HerbWaters$Aqueduct" prog_2_method_13_code (2, bAq_strain_2, 10) := ⟨by decide +kernel, (List.forall_mem_cons.mpr ⟨sLI2, (List.forall_mem_cons.mpr ⟨sLA1, (List.forall_mem_cons.mpr ⟨lAq_g67, (List.forall_mem_cons.mpr ⟨sICge, (fun _ h => absurd h List.not_mem_nil)⟩)⟩)⟩)⟩)⟩
theorem kAq_strain_10 : Bok "HerbWaters$Aqueduct" prog_2_method_13_code (10, bAq_strain_10, 12) := ⟨by decide +kernel, (List.forall_mem_cons.mpr ⟨sC0, (List.forall_mem_cons.mpr ⟨sSI3, (fun _ h => absurd h List.not_mem_nil)⟩)⟩)⟩
theorem kAq_strain_12 : Bok "HerbWaters$Aqueduct" prog_2_method_13_code (12, bAq_strain_12, 17) := ⟨by decide +kernel, (List.forall_mem_cons.mpr ⟨sLI3, (List.forall_mem_cons.mpr ⟨sC3, (List.forall_mem_cons.mpr ⟨sICge, (fun _ h => absurd h List.not_mem_nil)⟩)⟩)⟩)⟩
theorem kAq_strain_17 : Bok "HerbWaters$Aqueduct" prog_2_method_13_code (17, bAq_strain_17, 50) := ⟨by decide +kernel, (List.forall_mem_cons.mpr ⟨sLI2, (List.forall_mem_cons.mpr ⟨sC3, (List.forall_mem_cons.mpr ⟨sMUL, (List.forall_mem_cons.mpr ⟨sLI3, (List.forall_mem_cons.mpr ⟨sADD, (List.forall_mem_cons.mpr ⟨sSI4, (List.forall_mem_cons.mpr ⟨sLA0, (List.forall_mem_cons.mpr ⟨lAq_g12, (List.forall_mem_cons.mpr ⟨lAq_g143, (List.forall_mem_cons.mpr ⟨sLI4, (List.forall_mem_cons.mpr ⟨sIALD, (List.forall_mem_cons.mpr ⟨sLA1, (List.forall_mem_cons.mpr ⟨lAq_g146, (List.forall_mem_cons.mpr ⟨sLI2, (List.forall_mem_cons.mpr ⟨sIALD, (List.forall_mem_cons.mpr ⟨sADD, (List.forall_mem_cons.mpr ⟨sLA1, (List.forall_mem_cons.mpr ⟨lAq_g149, (List.forall_mem_cons.mpr ⟨sLI4, (List.forall_mem_cons.mpr ⟨sICne, (fun _ h => absurd h List.not_mem_nil)⟩)⟩)⟩)⟩)⟩)⟩)⟩)⟩)⟩)⟩)⟩)⟩)⟩)⟩)⟩)⟩)⟩)⟩)⟩)⟩)⟩
theorem kAq_strain_50 : Bok "HerbWaters$Aqueduct" prog_2_method_13_code (50, bAq_strain_50, 57) := ⟨by decide +kernel, (List.forall_mem_cons.mpr ⟨sLA1, (List.forall_mem_cons.mpr ⟨lAq_g152, (List.forall_mem_cons.mpr ⟨sGO, (fun _ h => absurd h List.not_mem_nil)⟩)⟩)⟩)⟩
theorem kAq_strain_57 : Bok "HerbWaters$Aqueduct" prog_2_method_13_code (57, bAq_strain_57, 58) := ⟨by decide +kernel, (List.forall_mem_cons.mpr ⟨sC0, (fun _ h => absurd h List.not_mem_nil)⟩)⟩
theorem kAq_strain_58 : Bok "HerbWaters$Aqueduct" prog_2_method_13_code (58, bAq_strain_58, 81) := ⟨by decide +kernel, (List.forall_mem_cons.mpr ⟨sADD, (List.forall_mem_cons.mpr ⟨sSI5, (List.forall_mem_cons.mpr ⟨sLA0, (List.forall_mem_cons.mpr ⟨sLA1, (List.forall_mem_cons.mpr ⟨sLA1, (List.forall_mem_cons.mpr ⟨sLI2, (List.forall_mem_cons.mpr ⟨sLI3, (List.forall_mem_cons.mpr ⟨sC0, (List.forall_mem_cons.mpr ⟨lAq_v123, (List.forall_mem_cons.mpr ⟨sLI5, (List.forall_mem_cons.mpr ⟨lAq_v155, (List.forall_mem_cons.mpr ⟨sINC3, (List.forall_mem_cons.mpr ⟨sGO, (fun _ h => absurd h List.not_mem_nil)⟩)⟩)⟩)⟩)⟩)⟩)⟩)⟩)⟩)⟩)⟩)⟩)⟩)⟩
theorem kAq_strain_81 : Bok "HerbWaters$Aqueduct" prog_2_method_13_code (81, bAq_strain_81, 87) := ⟨by decide +kernel, (List.forall_mem_cons.mpr ⟨sINC2, (List.forall_mem_cons.mpr ⟨sGO, (fun _ h => absurd h List.not_mem_nil)⟩)⟩)⟩
theorem kAq_strain_87 : Bok "HerbWaters$Aqueduct" prog_2_method_13_code (87, bAq_strain_87, 88) := ⟨by decide +kernel, (List.forall_mem_cons.mpr ⟨sRV, (fun _ h => absurd h List.not_mem_nil)⟩)⟩
theorem kAq_strain : ∀ q ∈ tAq_strain, Bok "HerbWaters$Aqueduct" prog_2_method_13_code q := (List.forall_mem_cons.mpr ⟨kAq_strain_0, (List.forall_mem_cons.mpr ⟨kAq_strain_2, (List.forall_mem_cons.mpr ⟨kAq_strain_10, (List.forall_mem_cons.mpr ⟨kAq_strain_12, (List.forall_mem_cons.mpr ⟨kAq_strain_17, (List.forall_mem_cons.mpr ⟨kAq_strain_50, (List.forall_mem_cons.mpr ⟨kAq_strain_57, (List.forall_mem_cons.mpr ⟨kAq_strain_58, (List.forall_mem_cons.mpr ⟨kAq_strain_81, (List.forall_mem_cons.mpr ⟨kAq_strain_87, (fun _ h => absurd h List.not_mem_nil)⟩)⟩)⟩)⟩)⟩)⟩)⟩)⟩)⟩)⟩)
theorem rAq_strain : mAq_strain.2.2.2 = none := rfl
theorem lAq_s159 : Snd "HerbWaters$Aqueduct" (iMIN 159) := sMIN (gtb_mem 1013 (by decide +kernel) rfl) (gtb_mem 792 (by decide +kernel) rfl) (gtb_mem 105 (by decide +kernel) rfl) (gtb_mem 793 (by decide +kernel) rfl)
theorem lAq_g165 : Snd "HerbWaters$Aqueduct" (iGI 165 2 13) := sGIN _ rfl "HerbWaters" (List.mem_filter.mpr ⟨List.mem_of_getElem? (i := 359) (by decide +kernel), rfl⟩)
theorem lAq_p165 : Snd "HerbWaters$Aqueduct" (iPI 165 2 13) := sPIN _ rfl rfl "HerbWaters" (List.mem_filter.mpr ⟨List.mem_of_getElem? (i := 359) (by decide +kernel), rfl⟩)
def bAq_takeOut_0 : List Ir := [iLI3, iSI4, iC0, iSI5]
def bAq_takeOut_6 : List Ir := [iLI5, iLA1, (iGI 67 2 7), (iICge (62) 74)]
def bAq_takeOut_15 : List Ir := [iLI4, (iIFle (57) 74)]
def bAq_takeOut_20 : List Ir := [iLI4, iLA1, (iGR 105 2 0), iLI2, iLI5, iADD, iIALD, (iMIN 159), iSI6, iLA1, (iGR 105 2 0), iLI2, iLI5, iADD, iDUP2, iIALD, iLI6, iSUB, iIAST, iLA1, iDUPr, (iGI 165 2 13), iLI6, iADD, (iPI 165 2 13), iLI4, iLI6, iSUB, iSI4, (iINC5 1), (iGO (-65) 6)]
def bAq_takeOut_74 : List Ir := [iRV]
def tAq_takeOut : Tb := [(0, bAq_takeOut_0, 6), (6, bAq_takeOut_6, 15), (15, bAq_takeOut_15, 20), (20, bAq_takeOut_20, 74), (74, bAq_takeOut_74, 75)]
theorem fAq_takeOut_0 : tbf tAq_takeOut 0 = some (bAq_takeOut_0, 6) := rfl
theorem fAq_takeOut_6 : tbf tAq_takeOut 6 = some (bAq_takeOut_6, 15) := rfl
theorem fAq_takeOut_15 : tbf tAq_takeOut 15 = some (bAq_takeOut_15, 20) := rfl
theorem fAq_takeOut_20 : tbf tAq_takeOut 20 = some (bAq_takeOut_20, 74) := rfl
theorem fAq_takeOut_74 : tbf tAq_takeOut 74 = some (bAq_takeOut_74, 75) := rfl
theorem kAq_takeOut_0 : Bok "HerbWaters$Aqueduct" prog_2_method_14_code (0, bAq_takeOut_0, 6) := ⟨by decide +kernel, (List.forall_mem_cons.mpr ⟨sLI3, (List.forall_mem_cons.mpr ⟨sSI4, (List.forall_mem_cons.mpr ⟨sC0, (List.forall_mem_cons.mpr ⟨sSI5, (fun _ h => absurd h List.not_mem_nil)⟩)⟩)⟩)⟩)⟩
theorem kAq_takeOut_6 : Bok "HerbWaters$Aqueduct" prog_2_method_14_code (6, bAq_takeOut_6, 15) := ⟨by decide +kernel, (List.forall_mem_cons.mpr ⟨sLI5, (List.forall_mem_cons.mpr ⟨sLA1, (List.forall_mem_cons.mpr ⟨lAq_g67, (List.forall_mem_cons.mpr ⟨sICge, (fun _ h => absurd h List.not_mem_nil)⟩)⟩)⟩)⟩)⟩
theorem kAq_takeOut_15 : Bok "HerbWaters$Aqueduct" prog_2_method_14_code (15, bAq_takeOut_15, 20) := ⟨by decide +kernel, (List.forall_mem_cons.mpr ⟨sLI4, (List.forall_mem_cons.mpr ⟨sIFle, (fun _ h => absurd h List.not_mem_nil)⟩)⟩)⟩
theorem kAq_takeOut_20 : Bok "HerbWaters$Aqueduct" prog_2_method_14_code (20, bAq_takeOut_20, 74) := ⟨by decide +kernel, (List.forall_mem_cons.mpr ⟨sLI4, (List.forall_mem_cons.mpr ⟨sLA1, (List.forall_mem_cons.mpr ⟨lAq_g105, (List.forall_mem_cons.mpr ⟨sLI2, (List.forall_mem_cons.mpr ⟨sLI5, (List.forall_mem_cons.mpr ⟨sADD, (List.forall_mem_cons.mpr ⟨sIALD, (List.forall_mem_cons.mpr ⟨lAq_s159, (List.forall_mem_cons.mpr ⟨sSI6, (List.forall_mem_cons.mpr ⟨sLA1, (List.forall_mem_cons.mpr ⟨lAq_g105, (List.forall_mem_cons.mpr ⟨sLI2, (List.forall_mem_cons.mpr ⟨sLI5, (List.forall_mem_cons.mpr ⟨sADD, (List.forall_mem_cons.mpr ⟨sDUP2, (List.forall_mem_cons.mpr ⟨sIALD, (List.forall_mem_cons.mpr ⟨sLI6, (List.forall_mem_cons.mpr ⟨sSUB, (List.forall_mem_cons.mpr ⟨sIAST, (List.forall_mem_cons.mpr ⟨sLA1, (List.forall_mem_cons.mpr ⟨sDUPr, (List.forall_mem_cons.mpr ⟨lAq_g165, (List.forall_mem_cons.mpr ⟨sLI6, (List.forall_mem_cons.mpr ⟨sADD, (List.forall_mem_cons.mpr ⟨lAq_p165, (List.forall_mem_cons.mpr ⟨sLI4, (List.forall_mem_cons.mpr ⟨sLI6, (List.forall_mem_cons.mpr ⟨sSUB, (List.forall_mem_cons.mpr ⟨sSI4, (List.forall_mem_cons.mpr ⟨sINC5, (List.forall_mem_cons.mpr ⟨sGO, (fun _ h => absurd h List.not_mem_nil)⟩)⟩)⟩)⟩)⟩)⟩)⟩)⟩)⟩)⟩)⟩)⟩)⟩)⟩)⟩)⟩)⟩)⟩)⟩)⟩)⟩)⟩)⟩)⟩)⟩)⟩)⟩)⟩)⟩)⟩)⟩)⟩
theorem kAq_takeOut_74 : Bok "HerbWaters$Aqueduct" prog_2_method_14_code (74, bAq_takeOut_74, 75) := ⟨by decide +kernel, (List.forall_mem_cons.mpr ⟨sRV, (fun _ h => absurd h List.not_mem_nil)⟩)⟩
theorem kAq_takeOut : ∀ q ∈ tAq_takeOut, Bok "HerbWaters$Aqueduct" prog_2_method_14_code q := (List.forall_mem_cons.mpr ⟨kAq_takeOut_0, (List.forall_mem_cons.mpr ⟨kAq_takeOut_6, (List.forall_mem_cons.mpr ⟨kAq_takeOut_15, (List.forall_mem_cons.mpr ⟨kAq_takeOut_20, (List.forall_mem_cons.mpr ⟨kAq_takeOut_74, (fun _ h => absurd h List.not_mem_nil)⟩)⟩)⟩)⟩)⟩)
theorem rAq_takeOut : mAq_takeOut.2.2.2 = none := rfl
theorem lAq_g31 : Snd "HerbWaters$Aqueduct" (iGR 31 0 4) := sGR _ rfl (gtb_mem 284 (by decide +kernel) rfl)
theorem lAq_v168 : Snd "HerbWaters$Aqueduct" (iCV1 168 2 mDy_isPleased) := sCV1 _ rfl rfl ok_Dy_isPleased (gtb_mem 1019 (by decide +kernel) rfl) (gtb_mem 1020 (by decide +kernel) rfl) (gtb_mem 1018 (by decide +kernel) rfl)
theorem lAq_g172 : Snd "HerbWaters$Aqueduct" (iGI 172 5 3) := sGIN _ rfl "HerbWaters" (List.mem_filter.mpr ⟨List.mem_of_getElem? (i := 259) (by decide +kernel), rfl⟩)
theorem lAq_g174 : Snd "HerbWaters$Aqueduct" (iGR 174 9 3) := sGRN _ rfl "HerbWaters" (List.mem_filter.mpr ⟨List.mem_of_getElem? (i := 187) (by decide +kernel), rfl⟩)
theorem lAq_v177 : Snd "HerbWaters$Aqueduct" (iCV2 177 2 mDy_pastCell) := sCV2 _ rfl rfl ok_Dy_pastCell (gtb_mem 544 (by decide +kernel) rfl) (gtb_mem 545 (by decide +kernel) rfl) (gtb_mem 1022 (by decide +kernel) rfl)
theorem lAq_g180 : Snd "HerbWaters$Aqueduct" (iGR 180 2 1) := sGRN _ rfl "HerbWaters" (List.mem_filter.mpr ⟨List.mem_of_getElem? (i := 317) (by decide +kernel), rfl⟩)
def mAq_lookInto : Mt := (⟨"HerbWaters$Aqueduct", "lookInto", "(IIII)V"⟩, prog_2_method_17_code, 5, none)
theorem ok_Aq_lookInto : Mok mAq_lookInto := ⟨gtb_mem 1026 (by decide +kernel) rfl, gtb_mem 95 (by decide +kernel) rfl, by decide +kernel, by decide⟩
theorem lAq_v183 : Snd "HerbWaters$Aqueduct" (iCV4 183 0 mAq_lookInto) := sCV4 _ rfl rfl ok_Aq_lookInto (gtb_mem 1024 (by decide +kernel) rfl) (gtb_mem 1025 (by decide +kernel) rfl) (gtb_mem 1023 (by decide +kernel) rfl)
theorem lAq_v187 : Snd "HerbWaters$Aqueduct" (iCV2 187 2 mDy_herbIn) := sCV2 _ rfl rfl ok_Dy_herbIn (gtb_mem 555 (by decide +kernel) rfl) (gtb_mem 556 (by decide +kernel) rfl) (gtb_mem 1035 (by decide +kernel) rfl)
theorem lAq_v190 : Snd "HerbWaters$Aqueduct" (iCV1 190 2 mDy_waterIn) := sCV1 _ rfl rfl ok_Dy_waterIn (gtb_mem 551 (by decide +kernel) rfl) (gtb_mem 552 (by decide +kernel) rfl) (gtb_mem 1036 (by decide +kernel) rfl)
theorem lAq_g194 : Snd "HerbWaters$Aqueduct" (iGR 194 2 2) := sGRN _ rfl "HerbWaters" (List.mem_filter.mpr ⟨List.mem_of_getElem? (i := 320) (by decide +kernel), rfl⟩)
def mAq_lookAround : Mt := (⟨"HerbWaters$Aqueduct", "lookAround", "(III)V"⟩, prog_2_method_18_code, 4, none)
theorem ok_Aq_lookAround : Mok mAq_lookAround := ⟨gtb_mem 1040 (by decide +kernel) rfl, gtb_mem 95 (by decide +kernel) rfl, by decide +kernel, by decide⟩
theorem lAq_v197 : Snd "HerbWaters$Aqueduct" (iCV3 197 0 mAq_lookAround) := sCV3 _ rfl rfl ok_Aq_lookAround (gtb_mem 1039 (by decide +kernel) rfl) (gtb_mem 11 (by decide +kernel) rfl) (gtb_mem 1037 (by decide +kernel) rfl)
theorem lAq_g34 : Snd "HerbWaters$Aqueduct" (iGR 34 0 5) := sGR _ rfl (gtb_mem 285 (by decide +kernel) rfl)
theorem lAq_g201 : Snd "HerbWaters$Aqueduct" (iGR 201 9 4) := sGRN _ rfl "HerbWaters" (List.mem_filter.mpr ⟨List.mem_of_getElem? (i := 190) (by decide +kernel), rfl⟩)
theorem lAq_v204 : Snd "HerbWaters$Aqueduct" (iCV3 204 5 mOp_think) := sCV3 _ rfl rfl ok_Op_think (gtb_mem 1048 (by decide +kernel) rfl) (gtb_mem 1049 (by decide +kernel) rfl) (gtb_mem 1047 (by decide +kernel) rfl)
theorem lAq_v208 : Snd "HerbWaters$Aqueduct" (iCV1 208 2 mDy_isContrary) := sCV1 _ rfl rfl ok_Dy_isContrary (gtb_mem 1060 (by decide +kernel) rfl) (gtb_mem 1061 (by decide +kernel) rfl) (gtb_mem 1059 (by decide +kernel) rfl)
theorem lAq_g28 : Snd "HerbWaters$Aqueduct" (iGR 28 0 3) := sGR _ rfl (gtb_mem 283 (by decide +kernel) rfl)
def mAq_contraryTo : Mt := (⟨"HerbWaters$Aqueduct", "contraryTo", "(I)I"⟩, prog_2_method_16_code, 1, some .int)
theorem ok_Aq_contraryTo : Mok mAq_contraryTo := ⟨gtb_mem 1065 (by decide +kernel) rfl, gtb_mem 95 (by decide +kernel) rfl, by decide +kernel, by decide⟩
theorem lAq_s211 : Snd "HerbWaters$Aqueduct" (iCS1 211 mAq_contraryTo) := sCS1 ok_Aq_contraryTo (gtb_mem 1064 (by decide +kernel) rfl) (gtb_mem 1063 (by decide +kernel) rfl)
def bAq_decide_0 : List Ir := [iLA0, (iGR 31 0 4), iC0, (iCS2 90 mJa_fill), iLA1, iLI2, (iCV1 168 2 mDy_isPleased), (iIFne (161) 174)]
def bAq_decide_16 : List Ir := [iLA0, (iGR 20 0 1), iLI2, iAALD106, (iGI 172 5 3), (iIFle (149) 174)]
def bAq_decide_28 : List Ir := [iLA0, (iGR 12 0 0), (iGR 174 9 3), iLI2, iIALD, (iIFle (60) 97)]
def bAq_decide_40 : List Ir := [iLA1, iLI2, iLA1, (iGI 52 2 9), iLA0, (iGR 12 0 0), (iGR 174 9 3), iLI2, iIALD, iSUB, (iCV2 177 2 mDy_pastCell), iSI3, iLA0, iLA1, (iGR 180 2 1), iLI3, iC1, iADD, iIALD, iLA1, (iGR 180 2 1), iLI3, iC2, iADD, iIALD, iLA1, (iGR 180 2 1), iLI3, iC3, iADD, iIALD, iLA1, (iGR 180 2 1), iLI3, iIALD, (iCV4 183 0 mAq_lookInto), (iGO (30) 124)]
def bAq_decide_97 : List Ir := [iLA0, iLA1, iLI2, iC0, (iCV2 187 2 mDy_herbIn), iLA1, iLI2, iC1, (iCV2 187 2 mDy_herbIn), iLA1, iLI2, iC2, (iCV2 187 2 mDy_herbIn), iLA1, iLI2, (iCV1 190 2 mDy_waterIn), (iCV4 183 0 mAq_lookInto)]
def bAq_decide_124 : List Ir := [iLA0, iLI2, iLA1, (iGI 52 2 9), iLA1, (iGR 194 2 2), iLI2, iIALD, (iCV3 197 0 mAq_lookAround), iLA0, (iGR 20 0 1), iLI2, iAALD106, iLA0, (iGR 34 0 5), iLA0, (iGR 12 0 0), (iGR 201 9 4), iLI2, iIALD, iC1, (iICne (7) 166)]
def bAq_decide_162 : List Ir := [iC1, (iGO (4) 167)]
def bAq_decide_166 : List Ir := [iC0]
def bAq_decide_167 : List Ir := [iLA0, (iGR 31 0 4), (iCV3 204 5 mOp_think)]
def bAq_decide_174 : List Ir := [iLA1, iLI2, (iCV1 208 2 mDy_isContrary), iSI3, iC0, iSI4]
def bAq_decide_183 : List Ir := [iLI4, iC3, (iICge (39) 225)]
def bAq_decide_189 : List Ir := [iLA0, (iGR 28 0 3), iLI2, iC3, iMUL, iLI3, (iIFeq (11) 208)]
def bAq_decide_200 : List Ir := [iLI4, (iCS1 211 mAq_contraryTo), (iGO (5) 210)]
def bAq_decide_208 : List Ir := [iLI4]
def bAq_decide_210 : List Ir := [iADD, iLA0, (iGR 31 0 4), iLI4, iIALD, iIAST, (iINC4 1), (iGO (-39) 183)]
def bAq_decide_225 : List Ir := [iRV]
def tAq_decide : Tb := [(0, bAq_decide_0, 16), (16, bAq_decide_16, 28), (28, bAq_decide_28, 40), (40, bAq_decide_40, 97), (97, bAq_decide_97, 124), (124, bAq_decide_124, 162), (162, bAq_decide_162, 166), (166, bAq_decide_166, 167), (167, bAq_decide_167, 174), (174, bAq_decide_174, 183), (183, bAq_decide_183, 189), (189, bAq_decide_189, 200), (200, bAq_decide_200, 208), (208, bAq_decide_208, 210), (210, bAq_decide_210, 225), (225, bAq_decide_225, 226)]
theorem fAq_decide_0 : tbf tAq_decide 0 = some (bAq_decide_0, 16) := rfl
theorem fAq_decide_16 : tbf tAq_decide 16 = some (bAq_decide_16, 28) := rfl
theorem fAq_decide_28 : tbf tAq_decide 28 = some (bAq_decide_28, 40) := rfl
theorem fAq_decide_40 : tbf tAq_decide 40 = some (bAq_decide_40, 97) := rfl
theorem fAq_decide_97 : tbf tAq_decide 97 = some (bAq_decide_97, 124) := rfl
theorem fAq_decide_124 : tbf tAq_decide 124 = some (bAq_decide_124, 162) := rfl
theorem fAq_decide_162 : tbf tAq_decide 162 = some (bAq_decide_162, 166) := rfl
theorem fAq_decide_166 : tbf tAq_decide 166 = some (bAq_decide_166, 167) := rfl
theorem fAq_decide_167 : tbf tAq_decide 167 = some (bAq_decide_167, 174) := rfl
theorem fAq_decide_174 : tbf tAq_decide 174 = some (bAq_decide_174, 183) := rfl
theorem fAq_decide_183 : tbf tAq_decide 183 = some (bAq_decide_183, 189) := rfl
theorem fAq_decide_189 : tbf tAq_decide 189 = some (bAq_decide_189, 200) := rfl
theorem fAq_decide_200 : tbf tAq_decide 200 = some (bAq_decide_200, 208) := rfl
theorem fAq_decide_208 : tbf tAq_decide 208 = some (bAq_decide_208, 210) := rfl
theorem fAq_decide_210 : tbf tAq_decide 210 = some (bAq_decide_210, 225) := rfl
theorem fAq_decide_225 : tbf tAq_decide 225 = some (bAq_decide_225, 226) := rfl
theorem kAq_decide_0 : Bok "HerbWaters$Aqueduct" prog_2_method_15_code (0, bAq_decide_0, 16) := ⟨by decide +kernel, (List.forall_mem_cons.mpr ⟨sLA0, (List.forall_mem_cons.mpr ⟨lAq_g31, (List.forall_mem_cons.mpr ⟨sC0, (List.forall_mem_cons.mpr ⟨lAq_s90, (List.forall_mem_cons.mpr ⟨sLA1, (List.forall_mem_cons.mpr ⟨sLI2, (List.forall_mem_cons.mpr ⟨lAq_v168, (List.forall_mem_cons.mpr ⟨sIFne, (fun _ h => absurd h List.not_mem_nil)⟩)⟩)⟩)⟩)⟩)⟩)⟩)⟩)⟩
theorem kAq_decide_16 : Bok "HerbWaters$Aqueduct" prog_2_method_15_code (16, bAq_decide_16, 28) := ⟨by decide +kernel, (List.forall_mem_cons.mpr ⟨sLA0, (List.forall_mem_cons.mpr ⟨lAq_g20, (List.forall_mem_cons.mpr ⟨sLI2, (List.forall_mem_cons.mpr ⟨sAALD106, (List.forall_mem_cons.mpr ⟨lAq_g172, (List.forall_mem_cons.mpr ⟨sIFle, (fun _ h => absurd h List.not_mem_nil)⟩)⟩)⟩)⟩)⟩)⟩)⟩
theorem kAq_decide_28 : Bok "HerbWaters$Aqueduct" prog_2_method_15_code (28, bAq_decide_28, 40) := ⟨by decide +kernel, (List.forall_mem_cons.mpr ⟨sLA0, (List.forall_mem_cons.mpr ⟨lAq_g12, (List.forall_mem_cons.mpr ⟨lAq_g174, (List.forall_mem_cons.mpr ⟨sLI2, (List.forall_mem_cons.mpr ⟨sIALD, (List.forall_mem_cons.mpr ⟨sIFle, (fun _ h => absurd h List.not_mem_nil)⟩)⟩)⟩)⟩)⟩)⟩)⟩
theorem kAq_decide_40 : Bok "HerbWaters$Aqueduct" prog_2_method_15_code (40, bAq_decide_40, 97) := ⟨by decide +kernel, (List.forall_mem_cons.mpr ⟨sLA1, (List.forall_mem_cons.mpr ⟨sLI2, (List.forall_mem_cons.mpr ⟨sLA1, (List.forall_mem_cons.mpr ⟨lAq_g52, (List.forall_mem_cons.mpr ⟨sLA0, (List.forall_mem_cons.mpr ⟨lAq_g12, (List.forall_mem_cons.mpr ⟨lAq_g174, (List.forall_mem_cons.mpr ⟨sLI2, (List.forall_mem_cons.mpr ⟨sIALD, (List.forall_mem_cons.mpr ⟨sSUB, (List.forall_mem_cons.mpr ⟨lAq_v177, (List.forall_mem_cons.mpr ⟨sSI3, (List.forall_mem_cons.mpr ⟨sLA0, (List.forall_mem_cons.mpr ⟨sLA1, (List.forall_mem_cons.mpr ⟨lAq_g180, (List.forall_mem_cons.mpr ⟨sLI3, (List.forall_mem_cons.mpr ⟨sC1, (List.forall_mem_cons.mpr ⟨sADD, (List.forall_mem_cons.mpr ⟨sIALD, (List.forall_mem_cons.mpr ⟨sLA1, (List.forall_mem_cons.mpr ⟨lAq_g180, (List.forall_mem_cons.mpr ⟨sLI3, (List.forall_mem_cons.mpr ⟨sC2, (List.forall_mem_cons.mpr ⟨sADD, (List.forall_mem_cons.mpr ⟨sIALD, (List.forall_mem_cons.mpr ⟨sLA1, (List.forall_mem_cons.mpr ⟨lAq_g180, (List.forall_mem_cons.mpr ⟨sLI3, (List.forall_mem_cons.mpr ⟨sC3, (List.forall_mem_cons.mpr ⟨sADD, (List.forall_mem_cons.mpr ⟨sIALD, (List.forall_mem_cons.mpr ⟨sLA1, (List.forall_mem_cons.mpr ⟨lAq_g180, (List.forall_mem_cons.mpr ⟨sLI3, (List.forall_mem_cons.mpr ⟨sIALD, (List.forall_mem_cons.mpr ⟨lAq_v183, (List.forall_mem_cons.mpr ⟨sGO, (fun _ h => absurd h List.not_mem_nil)⟩)⟩)⟩)⟩)⟩)⟩)⟩)⟩)⟩)⟩)⟩)⟩)⟩)⟩)⟩)⟩)⟩)⟩)⟩)⟩)⟩)⟩)⟩)⟩)⟩)⟩)⟩)⟩)⟩)⟩)⟩)⟩)⟩)⟩)⟩)⟩)⟩)⟩
theorem kAq_decide_97 : Bok "HerbWaters$Aqueduct" prog_2_method_15_code (97, bAq_decide_97, 124) := ⟨by decide +kernel, (List.forall_mem_cons.mpr ⟨sLA0, (List.forall_mem_cons.mpr ⟨sLA1, (List.forall_mem_cons.mpr ⟨sLI2, (List.forall_mem_cons.mpr ⟨sC0, (List.forall_mem_cons.mpr ⟨lAq_v187, (List.forall_mem_cons.mpr ⟨sLA1, (List.forall_mem_cons.mpr ⟨sLI2, (List.forall_mem_cons.mpr ⟨sC1, (List.forall_mem_cons.mpr ⟨lAq_v187, (List.forall_mem_cons.mpr ⟨sLA1, (List.forall_mem_cons.mpr ⟨sLI2, (List.forall_mem_cons.mpr ⟨sC2, (List.forall_mem_cons.mpr ⟨lAq_v187, (List.forall_mem_cons.mpr ⟨sLA1, (List.forall_mem_cons.mpr ⟨sLI2, (List.forall_mem_cons.mpr ⟨lAq_v190, (List.forall_mem_cons.mpr ⟨lAq_v183, (fun _ h => absurd h List.not_mem_nil)⟩)⟩)⟩)⟩)⟩)⟩)⟩)⟩)⟩)⟩)⟩)⟩)⟩)⟩)⟩)⟩)⟩)⟩
theorem kAq_decide_124 : Bok "HerbWaters$Aqueduct" prog_2_method_15_code (124, bAq_decide_124, 162) := ⟨by decide +kernel, (List.forall_mem_cons.mpr ⟨sLA0, (List.forall_mem_cons.mpr ⟨sLI2, (List.forall_mem_cons.mpr ⟨sLA1, (List.forall_mem_cons.mpr ⟨lAq_g52, (List.forall_mem_cons.mpr ⟨sLA1, (List.forall_mem_cons.mpr ⟨lAq_g194, (List.forall_mem_cons.mpr ⟨sLI2, (List.forall_mem_cons.mpr ⟨sIALD, (List.forall_mem_cons.mpr ⟨lAq_v197, (List.forall_mem_cons.mpr ⟨sLA0, (List.forall_mem_cons.mpr ⟨lAq_g20, (List.forall_mem_cons.mpr ⟨sLI2, (List.forall_mem_cons.mpr ⟨sAALD106, (List.forall_mem_cons.mpr ⟨sLA0, (List.forall_mem_cons.mpr ⟨lAq_g34, (List.forall_mem_cons.mpr ⟨sLA0, (List.forall_mem_cons.mpr ⟨lAq_g12, (List.forall_mem_cons.mpr ⟨lAq_g201, (List.forall_mem_cons.mpr ⟨sLI2, (List.forall_mem_cons.mpr ⟨sIALD, (List.forall_mem_cons.mpr ⟨sC1, (List.forall_mem_cons.mpr ⟨sICne, (fun _ h => absurd h List.not_mem_nil)⟩)⟩)⟩)⟩)⟩)⟩)⟩)⟩)⟩)⟩)⟩)⟩)⟩)⟩)⟩)⟩)⟩)⟩)⟩)⟩)⟩)⟩)⟩
theorem kAq_decide_162 : Bok "HerbWaters$Aqueduct" prog_2_method_15_code (162, bAq_decide_162, 166) := ⟨by decide +kernel, (List.forall_mem_cons.mpr ⟨sC1, (List.forall_mem_cons.mpr ⟨sGO, (fun _ h => absurd h List.not_mem_nil)⟩)⟩)⟩
theorem kAq_decide_166 : Bok "HerbWaters$Aqueduct" prog_2_method_15_code (166, bAq_decide_166, 167) := ⟨by decide +kernel, (List.forall_mem_cons.mpr ⟨sC0, (fun _ h => absurd h List.not_mem_nil)⟩)⟩
theorem kAq_decide_167 : Bok "HerbWaters$Aqueduct" prog_2_method_15_code (167, bAq_decide_167, 174) := ⟨by decide +kernel, (List.forall_mem_cons.mpr ⟨sLA0, (List.forall_mem_cons.mpr ⟨lAq_g31, (List.forall_mem_cons.mpr ⟨lAq_v204, (fun _ h => absurd h List.not_mem_nil)⟩)⟩)⟩)⟩
theorem kAq_decide_174 : Bok "HerbWaters$Aqueduct" prog_2_method_15_code (174, bAq_decide_174, 183) := ⟨by decide +kernel, (List.forall_mem_cons.mpr ⟨sLA1, (List.forall_mem_cons.mpr ⟨sLI2, (List.forall_mem_cons.mpr ⟨lAq_v208, (List.forall_mem_cons.mpr ⟨sSI3, (List.forall_mem_cons.mpr ⟨sC0, (List.forall_mem_cons.mpr ⟨sSI4, (fun _ h => absurd h List.not_mem_nil)⟩)⟩)⟩)⟩)⟩)⟩)⟩
theorem kAq_decide_183 : Bok "HerbWaters$Aqueduct" prog_2_method_15_code (183, bAq_decide_183, 189) := ⟨by decide +kernel, (List.forall_mem_cons.mpr ⟨sLI4, (List.forall_mem_cons.mpr ⟨sC3, (List.forall_mem_cons.mpr ⟨sICge, (fun _ h => absurd h List.not_mem_nil)⟩)⟩)⟩)⟩
theorem kAq_decide_189 : Bok "HerbWaters$Aqueduct" prog_2_method_15_code (189, bAq_decide_189, 200) := ⟨by decide +kernel, (List.forall_mem_cons.mpr ⟨sLA0, (List.forall_mem_cons.mpr ⟨lAq_g28, (List.forall_mem_cons.mpr ⟨sLI2, (List.forall_mem_cons.mpr ⟨sC3, (List.forall_mem_cons.mpr ⟨sMUL, (List.forall_mem_cons.mpr ⟨sLI3, (List.forall_mem_cons.mpr ⟨sIFeq, (fun _ h => absurd h List.not_mem_nil)⟩)⟩)⟩)⟩)⟩)⟩)⟩)⟩
theorem kAq_decide_200 : Bok "HerbWaters$Aqueduct" prog_2_method_15_code (200, bAq_decide_200, 208) := ⟨by decide +kernel, (List.forall_mem_cons.mpr ⟨sLI4, (List.forall_mem_cons.mpr ⟨lAq_s211, (List.forall_mem_cons.mpr ⟨sGO, (fun _ h => absurd h List.not_mem_nil)⟩)⟩)⟩)⟩
theorem kAq_decide_208 : Bok "HerbWaters$Aqueduct" prog_2_method_15_code (208, bAq_decide_208, 210) := ⟨by decide +kernel, (List.forall_mem_cons.mpr ⟨sLI4, (fun _ h => absurd h List.not_mem_nil)⟩)⟩
theorem kAq_decide_210 : Bok "HerbWaters$Aqueduct" prog_2_method_15_code (210, bAq_decide_210, 225) := ⟨by decide +kernel, (List.forall_mem_cons.mpr ⟨sADD, (List.forall_mem_cons.mpr ⟨sLA0, (List.forall_mem_cons.mpr ⟨lAq_g31, (List.forall_mem_cons.mpr ⟨sLI4, (List.forall_mem_cons.mpr ⟨sIALD, (List.forall_mem_cons.mpr ⟨sIAST, (List.forall_mem_cons.mpr ⟨sINC4, (List.forall_mem_cons.mpr ⟨sGO, (fun _ h => absurd h List.not_mem_nil)⟩)⟩)⟩)⟩)⟩)⟩)⟩)⟩)⟩
theorem kAq_decide_225 : Bok "HerbWaters$Aqueduct" prog_2_method_15_code (225, bAq_decide_225, 226) := ⟨by decide +kernel, (List.forall_mem_cons.mpr ⟨sRV, (fun _ h => absurd h List.not_mem_nil)⟩)⟩
theorem kAq_decide : ∀ q ∈ tAq_decide, Bok "HerbWaters$Aqueduct" prog_2_method_15_code q := (List.forall_mem_cons.mpr ⟨kAq_decide_0, (List.forall_mem_cons.mpr ⟨kAq_decide_16, (List.forall_mem_cons.mpr ⟨kAq_decide_28, (List.forall_mem_cons.mpr ⟨kAq_decide_40, (List.forall_mem_cons.mpr ⟨kAq_decide_97, (List.forall_mem_cons.mpr ⟨kAq_decide_124, (List.forall_mem_cons.mpr ⟨kAq_decide_162, (List.forall_mem_cons.mpr ⟨kAq_decide_166, (List.forall_mem_cons.mpr ⟨kAq_decide_167, (List.forall_mem_cons.mpr ⟨kAq_decide_174, (List.forall_mem_cons.mpr ⟨kAq_decide_183, (List.forall_mem_cons.mpr ⟨kAq_decide_189, (List.forall_mem_cons.mpr ⟨kAq_decide_200, (List.forall_mem_cons.mpr ⟨kAq_decide_208, (List.forall_mem_cons.mpr ⟨kAq_decide_210, (List.forall_mem_cons.mpr ⟨kAq_decide_225, (fun _ h => absurd h List.not_mem_nil)⟩)⟩)⟩)⟩)⟩)⟩)⟩)⟩)⟩)⟩)⟩)⟩)⟩)⟩)⟩)⟩)
theorem rAq_decide : mAq_decide.2.2.2 = none := rfl
def bAq_contraryTo_0 : List Ir := [iLI0, (iIFne (7) 8)]
def bAq_contraryTo_4 : List Ir := [iC1, (iGO (13) 18)]
def bAq_contraryTo_8 : List Ir := [iLI0, iC1, (iICne (7) 17)]
def bAq_contraryTo_13 : List Ir := [iC0, (iGO (4) 18)]
def bAq_contraryTo_17 : List Ir := [iLI0]
def bAq_contraryTo_18 : List Ir := [iRI]
def tAq_contraryTo : Tb := [(0, bAq_contraryTo_0, 4), (4, bAq_contraryTo_4, 8), (8, bAq_contraryTo_8, 13), (13, bAq_contraryTo_13, 17), (17, bAq_contraryTo_17, 18), (18, bAq_contraryTo_18, 19)]
theorem fAq_contraryTo_0 : tbf tAq_contraryTo 0 = some (bAq_contraryTo_0, 4) := rfl
theorem fAq_contraryTo_4 : tbf tAq_contraryTo 4 = some (bAq_contraryTo_4, 8) := rfl
theorem fAq_contraryTo_8 : tbf tAq_contraryTo 8 = some (bAq_contraryTo_8, 13) := rfl
theorem fAq_contraryTo_13 : tbf tAq_contraryTo 13 = some (bAq_contraryTo_13, 17) := rfl
theorem fAq_contraryTo_17 : tbf tAq_contraryTo 17 = some (bAq_contraryTo_17, 18) := rfl
theorem fAq_contraryTo_18 : tbf tAq_contraryTo 18 = some (bAq_contraryTo_18, 19) := rfl
theorem kAq_contraryTo_0 : Bok "HerbWaters$Aqueduct" prog_2_method_16_code (0, bAq_contraryTo_0, 4) := ⟨by decide +kernel, (List.forall_mem_cons.mpr ⟨sLI0, (List.forall_mem_cons.mpr ⟨sIFne, (fun _ h => absurd h List.not_mem_nil)⟩)⟩)⟩
theorem kAq_contraryTo_4 : Bok "HerbWaters$Aqueduct" prog_2_method_16_code (4, bAq_contraryTo_4, 8) := ⟨by decide +kernel, (List.forall_mem_cons.mpr ⟨sC1, (List.forall_mem_cons.mpr ⟨sGO, (fun _ h => absurd h List.not_mem_nil)⟩)⟩)⟩
theorem kAq_contraryTo_8 : Bok "HerbWaters$Aqueduct" prog_2_method_16_code (8, bAq_contraryTo_8, 13) := ⟨by decide +kernel, (List.forall_mem_cons.mpr ⟨sLI0, (List.forall_mem_cons.mpr ⟨sC1, (List.forall_mem_cons.mpr ⟨sICne, (fun _ h => absurd h List.not_mem_nil)⟩)⟩)⟩)⟩
theorem kAq_contraryTo_13 : Bok "HerbWaters$Aqueduct" prog_2_method_16_code (13, bAq_contraryTo_13, 17) := ⟨by decide +kernel, (List.forall_mem_cons.mpr ⟨sC0, (List.forall_mem_cons.mpr ⟨sGO, (fun _ h => absurd h List.not_mem_nil)⟩)⟩)⟩
theorem kAq_contraryTo_17 : Bok "HerbWaters$Aqueduct" prog_2_method_16_code (17, bAq_contraryTo_17, 18) := ⟨by decide +kernel, (List.forall_mem_cons.mpr ⟨sLI0, (fun _ h => absurd h List.not_mem_nil)⟩)⟩
theorem kAq_contraryTo_18 : Bok "HerbWaters$Aqueduct" prog_2_method_16_code (18, bAq_contraryTo_18, 19) := ⟨by decide +kernel, (List.forall_mem_cons.mpr ⟨sRI, (fun _ h => absurd h List.not_mem_nil)⟩)⟩
theorem kAq_contraryTo : ∀ q ∈ tAq_contraryTo, Bok "HerbWaters$Aqueduct" prog_2_method_16_code q := (List.forall_mem_cons.mpr ⟨kAq_contraryTo_0, (List.forall_mem_cons.mpr ⟨kAq_contraryTo_4, (List.forall_mem_cons.mpr ⟨kAq_contraryTo_8, (List.forall_mem_cons.mpr ⟨kAq_contraryTo_13, (List.forall_mem_cons.mpr ⟨kAq_contraryTo_17, (List.forall_mem_cons.mpr ⟨kAq_contraryTo_18, (fun _ h => absurd h List.not_mem_nil)⟩)⟩)⟩)⟩)⟩)⟩)
theorem rAq_contraryTo : mAq_contraryTo.2.2.2 = some .int := rfl
