/-! code of the class; by program (wip/whole/gen_X.py) -/
def mOr_readTest : Mt := (⟨"HerbWaters$OpinionReader", "readTest", "()Z"⟩, prog_8_method_5_code, 3, some .boolean)
theorem ok_Or_readTest : Mok mOr_readTest := ⟨gtb_mem 1363 (by decide +kernel) rfl, gtb_mem 103 (by decide +kernel) rfl, by decide +kernel, by decide⟩
theorem lOr_v72 : Snd "HerbWaters$OpinionReader" (iCV0 72 6 mOr_readTest) := sCV0 _ rfl rfl ok_Or_readTest (gtb_mem 1362 (by decide +kernel) rfl) (gtb_mem 31 (by decide +kernel) rfl) (gtb_mem 1360 (by decide +kernel) rfl)
theorem lOr_t75 : Snd "HerbWaters$OpinionReader" (iGS 75 17) := sGS (gtb_mem 1366 (by decide +kernel) rfl)
theorem lOr_v78 : Snd "HerbWaters$OpinionReader" (iCV1 78 5 mOp_add) := sCV1 _ rfl rfl ok_Op_add (gtb_mem 1344 (by decide +kernel) rfl) (gtb_mem 1345 (by decide +kernel) rfl) (gtb_mem 1343 (by decide +kernel) rfl)
theorem lOr_t82 : Snd "HerbWaters$OpinionReader" (iGS 82 16) := sGS (gtb_mem 1368 (by decide +kernel) rfl)
def bOr_readCondition_0 : List Ir := [iC0, iSI1, iLA0, (iCV0 72 6 mOr_readTest), iSI2, iC0, iSI3]
def bOr_readCondition_9 : List Ir := [iLI3, (iSP 150), (iICge (80) 93)]
def bOr_readCondition_16 : List Ir := [iLI2, (iIFeq (76) 93)]
def bOr_readCondition_20 : List Ir := [iLA0, (iGR 15 6 0), (iGS 75 17), (iCV1 48 7 mTp_takes), (iIFeq (21) 51)]
def bOr_readCondition_33 : List Ir := [iLA0, (iCV0 72 6 mOr_readTest), iSI2, iLA0, (iGR 19 6 1), (iSP 1014), (iCV1 78 5 mOp_add), (iGO (39) 87)]
def bOr_readCondition_51 : List Ir := [iLI1, (iIFeq (13) 65)]
def bOr_readCondition_55 : List Ir := [iLA0, (iGR 19 6 1), (iSP 1015), (iCV1 78 5 mOp_add)]
def bOr_readCondition_65 : List Ir := [iLA0, (iGR 15 6 0), (iGS 82 16), (iCV1 48 7 mTp_takes), iSI1, iLI1, (iIFne (5) 82)]
def bOr_readCondition_80 : List Ir := [iC1, iRI]
def bOr_readCondition_82 : List Ir := [iLA0, (iCV0 72 6 mOr_readTest), iSI2]
def bOr_readCondition_87 : List Ir := [(iINC3 1), (iGO (-81) 9)]
def bOr_readCondition_93 : List Ir := [iLI2, iRI]
def tOr_readCondition : Tb := [(0, bOr_readCondition_0, 9), (9, bOr_readCondition_9, 16), (16, bOr_readCondition_16, 20), (20, bOr_readCondition_20, 33), (33, bOr_readCondition_33, 51), (51, bOr_readCondition_51, 55), (55, bOr_readCondition_55, 65), (65, bOr_readCondition_65, 80), (80, bOr_readCondition_80, 82), (82, bOr_readCondition_82, 87), (87, bOr_readCondition_87, 93), (93, bOr_readCondition_93, 95)]
theorem fOr_readCondition_0 : tbf tOr_readCondition 0 = some (bOr_readCondition_0, 9) := rfl
theorem fOr_readCondition_9 : tbf tOr_readCondition 9 = some (bOr_readCondition_9, 16) := rfl
theorem fOr_readCondition_16 : tbf tOr_readCondition 16 = some (bOr_readCondition_16, 20) := rfl
theorem fOr_readCondition_20 : tbf tOr_readCondition 20 = some (bOr_readCondition_20, 33) := rfl
theorem fOr_readCondition_33 : tbf tOr_readCondition 33 = some (bOr_readCondition_33, 51) := rfl
theorem fOr_readCondition_51 : tbf tOr_readCondition 51 = some (bOr_readCondition_51, 55) := rfl
theorem fOr_readCondition_55 : tbf tOr_readCondition 55 = some (bOr_readCondition_55, 65) := rfl
theorem fOr_readCondition_65 : tbf tOr_readCondition 65 = some (bOr_readCondition_65, 80) := rfl
theorem fOr_readCondition_80 : tbf tOr_readCondition 80 = some (bOr_readCondition_80, 82) := rfl
theorem fOr_readCondition_82 : tbf tOr_readCondition 82 = some (bOr_readCondition_82, 87) := rfl
theorem fOr_readCondition_87 : tbf tOr_readCondition 87 = some (bOr_readCondition_87, 93) := rfl
theorem fOr_readCondition_93 : tbf tOr_readCondition 93 = some (bOr_readCondition_93, 95) := rfl
theorem kOr_readCondition_0 : Bok "HerbWaters$OpinionReader" prog_8_method_4_code (0, bOr_readCondition_0, 9) := ⟨by decide +kernel, (List.forall_mem_cons.mpr ⟨sC0, (List.forall_mem_cons.mpr ⟨sSI1, (List.forall_mem_cons.mpr ⟨sLA0, (List.forall_mem_cons.mpr ⟨lOr_v72, (List.forall_mem_cons.mpr ⟨sSI2, (List.forall_mem_cons.mpr ⟨sC0, (List.forall_mem_cons.mpr ⟨sSI3, (fun _ h => absurd h List.not_mem_nil)⟩)⟩)⟩)⟩)⟩)⟩)⟩)⟩
theorem kOr_readCondition_9 : Bok "HerbWaters$OpinionReader" prog_8_method_4_code (9, bOr_readCondition_9, 16) := ⟨by decide +kernel, (List.forall_mem_cons.mpr ⟨sLI3, (List.forall_mem_cons.mpr ⟨sSP, (List.forall_mem_cons.mpr ⟨sICge, (fun _ h => absurd h List.not_mem_nil)⟩)⟩)⟩)⟩
theorem kOr_readCondition_16 : Bok "HerbWaters$OpinionReader" prog_8_method_4_code (16, bOr_readCondition_16, 20) := ⟨by decide +kernel, (List.forall_mem_cons.mpr ⟨sLI2, (List.forall_mem_cons.mpr ⟨sIFeq, (fun _ h => absurd h List.not_mem_nil)⟩)⟩)⟩
theorem kOr_readCondition_20 : Bok "HerbWaters$OpinionReader" prog_8_method_4_code (20, bOr_readCondition_20, 33) := ⟨by decide +kernel, (List.forall_mem_cons.mpr ⟨sLA0, (List.forall_mem_cons.mpr ⟨lOr_g15, (List.forall_mem_cons.mpr ⟨lOr_t75, (List.forall_mem_cons.mpr ⟨lOr_v48, (List.forall_mem_cons.mpr ⟨sIFeq, (fun _ h => absurd h List.not_mem_nil)⟩)⟩)⟩)⟩)⟩)⟩
theorem kOr_readCondition_33 : Bok "HerbWaters$OpinionReader" prog_8_method_4_code (33, bOr_readCondition_33, 51) := ⟨by decide +kernel, (List.forall_mem_cons.mpr ⟨sLA0, (List.forall_mem_cons.mpr ⟨lOr_v72, (List.forall_mem_cons.mpr ⟨sSI2, (List.forall_mem_cons.mpr ⟨sLA0, (List.forall_mem_cons.mpr ⟨lOr_g19, (List.forall_mem_cons.mpr ⟨sSP, (List.forall_mem_cons.mpr ⟨lOr_v78, (List.forall_mem_cons.mpr ⟨sGO, (fun _ h => absurd h List.not_mem_nil)⟩)⟩)⟩)⟩)⟩)⟩)⟩)⟩)⟩
theorem kOr_readCondition_51 : Bok "HerbWaters$OpinionReader" prog_8_method_4_code (51, bOr_readCondition_51, 55) := ⟨by decide +kernel, (List.forall_mem_cons.mpr ⟨sLI1, (List.forall_mem_cons.mpr ⟨sIFeq, (fun _ h => absurd h List.not_mem_nil)⟩)⟩)⟩
theorem kOr_readCondition_55 : Bok "HerbWaters$OpinionReader" prog_8_method_4_code (55, bOr_readCondition_55, 65) := ⟨by decide +kernel, (List.forall_mem_cons.mpr ⟨sLA0, (List.forall_mem_cons.mpr ⟨lOr_g19, (List.forall_mem_cons.mpr ⟨sSP, (List.forall_mem_cons.mpr ⟨lOr_v78, (fun _ h => absurd h List.not_mem_nil)⟩)⟩)⟩)⟩)⟩
theorem kOr_readCondition_65 : Bok "HerbWaters$OpinionReader" prog_8_method_4_code (65, bOr_readCondition_65, 80) := ⟨by decide +kernel, (List.forall_mem_cons.mpr ⟨sLA0, (List.forall_mem_cons.mpr ⟨lOr_g15, (List.forall_mem_cons.mpr ⟨lOr_t82, (List.forall_mem_cons.mpr ⟨lOr_v48, (List.forall_mem_cons.mpr ⟨sSI1, (List.forall_mem_cons.mpr ⟨sLI1, (List.forall_mem_cons.mpr ⟨sIFne, (fun _ h => absurd h List.not_mem_nil)⟩)⟩)⟩)⟩)⟩)⟩)⟩)⟩
theorem kOr_readCondition_80 : Bok "HerbWaters$OpinionReader" prog_8_method_4_code (80, bOr_readCondition_80, 82) := ⟨by decide +kernel, (List.forall_mem_cons.mpr ⟨sC1, (List.forall_mem_cons.mpr ⟨sRI, (fun _ h => absurd h List.not_mem_nil)⟩)⟩)⟩
theorem kOr_readCondition_82 : Bok "HerbWaters$OpinionReader" prog_8_method_4_code (82, bOr_readCondition_82, 87) := ⟨by decide +kernel, (List.forall_mem_cons.mpr ⟨sLA0, (List.forall_mem_cons.mpr ⟨lOr_v72, (List.forall_mem_cons.mpr ⟨sSI2, (fun _ h => absurd h List.not_mem_nil)⟩)⟩)⟩)⟩
theorem kOr_readCondition_87 : Bok "HerbWaters$OpinionReader" prog_8_method_4_code (87, bOr_readCondition_87, 93) := ⟨by decide +kernel, (List.forall_mem_cons.mpr ⟨sINC3, (List.forall_mem_cons.mpr ⟨sGO, (fun _ h => absurd h List.not_mem_nil)⟩)⟩)⟩
theorem kOr_readCondition_93 : Bok "HerbWaters$OpinionReader" prog_8_method_4_code (93, bOr_readCondition_93, 95) := ⟨by decide +kernel, (List.forall_mem_cons.mpr ⟨sLI2, (List.forall_mem_cons.mpr ⟨sRI, (fun _ h => absurd h List.not_mem_nil)⟩)⟩)⟩
theorem kOr_readCondition : ∀ q ∈ tOr_readCondition, Bok "HerbWaters$OpinionReader" prog_8_method_4_code q := (List.forall_mem_cons.mpr ⟨kOr_readCondition_0, (List.forall_mem_cons.mpr ⟨kOr_readCondition_9, (List.forall_mem_cons.mpr ⟨kOr_readCondition_16, (List.forall_mem_cons.mpr ⟨kOr_readCondition_20, (List.forall_mem_cons.mpr ⟨kOr_readCondition_33, (List.forall_mem_cons.mpr ⟨kOr_readCondition_51, (List.forall_mem_cons.mpr ⟨kOr_readCondition_55, (List.forall_mem_cons.mpr ⟨kOr_readCondition_65, (List.forall_mem_cons.mpr ⟨kOr_readCondition_80, (List.forall_mem_cons.mpr ⟨kOr_readCondition_82, (List.forall_mem_cons.mpr ⟨kOr_readCondition_87, (List.forall_mem_cons.mpr ⟨kOr_readCondition_93, (fun _ h => absurd h List.not_mem_nil)⟩)⟩)⟩)⟩)⟩)⟩)⟩)⟩)⟩)⟩)⟩)⟩)
theorem rOr_readCondition : mOr_readCondition.2.2.2 = some .boolean := rfl
theorem lOr_t85 : Snd "HerbWaters$OpinionReader" (iGS 85 18) := sGS (gtb_mem 1364 (by decide +kernel) rfl)
def mOr_opens : Mt := (⟨"HerbWaters$OpinionReader", "opens", "()Z"⟩, prog_8_method_6_code, 1, some .boolean)
theorem ok_Or_opens : Mok mOr_opens := ⟨gtb_mem 1339 (by decide +kernel) rfl, gtb_mem 103 (by decide +kernel) rfl, by decide +kernel, by decide⟩
theorem lOr_v88 : Snd "HerbWaters$OpinionReader" (iCV0 88 6 mOr_opens) := sCV0 _ rfl rfl ok_Or_opens (gtb_mem 1338 (by decide +kernel) rfl) (gtb_mem 29 (by decide +kernel) rfl) (gtb_mem 1336 (by decide +kernel) rfl)
theorem lOr_g9 : Snd "HerbWaters$OpinionReader" (iGI 9 6 2) := sGI _ rfl (gtb_mem 522 (by decide +kernel) rfl)
theorem lOr_v91 : Snd "HerbWaters$OpinionReader" (iCV1 91 7 mTp_sign) := sCV1 _ rfl rfl ok_Tp_sign (gtb_mem 1258 (by decide +kernel) rfl) (gtb_mem 1259 (by decide +kernel) rfl) (gtb_mem 1335 (by decide +kernel) rfl)
def bOr_readTest_0 : List Ir := [iLA0, (iGR 15 6 0), (iGS 85 18), (iCV1 48 7 mTp_takes), (iIFeq (41) 51)]
def bOr_readTest_13 : List Ir := [iLA0, (iCV0 88 6 mOr_opens), (iIFeq (10) 27)]
def bOr_readTest_20 : List Ir := [iLA0, (iCV0 72 6 mOr_readTest), (iIFne (5) 29)]
def bOr_readTest_27 : List Ir := [iC0, iRI]
def bOr_readTest_29 : List Ir := [iLA0, (iGR 19 6 1), (iSP 1016), (iCV1 78 5 mOp_add), iLA0, iDUPr, (iGI 9 6 2), iC1, iSUB, (iPI 9 6 2), iC1, iRI]
def bOr_readTest_51 : List Ir := [iLA0, (iGR 15 6 0), (iBP 91), (iCV1 91 7 mTp_sign), (iIFeq (43) 103)]
def bOr_readTest_63 : List Ir := [iLA0, (iCV0 88 6 mOr_opens), (iIFeq (22) 89)]
def bOr_readTest_70 : List Ir := [iLA0, (iCV0 65 6 mOr_readCondition), (iIFeq (15) 89)]
def bOr_readTest_77 : List Ir := [iLA0, (iGR 15 6 0), (iBP 93), (iCV1 38 7 mTp_needSign), (iIFne (5) 91)]
def bOr_readTest_89 : List Ir := [iC0, iRI]
def bOr_readTest_91 : List Ir := [iLA0, iDUPr, (iGI 9 6 2), iC1, iSUB, (iPI 9 6 2), iC1, iRI]
def bOr_readTest_103 : List Ir := [iLA0, (iCV0 59 6 mOr_readSum), (iIFne (5) 112)]
def bOr_readTest_110 : List Ir := [iC0, iRI]
def bOr_readTest_112 : List Ir := [iLA0, (iGR 15 6 0), (iBP 60), (iCV1 91 7 mTp_sign), (iIFeq (9) 130)]
def bOr_readTest_124 : List Ir := [(iSP 1011), (iGO (40) 167)]
def bOr_readTest_130 : List Ir := [iLA0, (iGR 15 6 0), (iBP 62), (iCV1 91 7 mTp_sign), (iIFeq (9) 148)]
def bOr_readTest_142 : List Ir := [(iSP 1012), (iGO (22) 167)]
def bOr_readTest_148 : List Ir := [iLA0, (iGR 15 6 0), (iBP 61), (iCV1 91 7 mTp_sign), (iIFeq (9) 166)]
def bOr_readTest_160 : List Ir := [(iSP 1013), (iGO (4) 167)]
def bOr_readTest_166 : List Ir := [iCm1]
def bOr_readTest_167 : List Ir := [iSI1, iLI1, iCm1, (iICne (12) 182)]
def bOr_readTest_173 : List Ir := [iLA0, (iGR 15 6 0), iC1, (iCV1 52 7 mTp_fails), iRI]
def bOr_readTest_182 : List Ir := [iLA0, (iCV0 59 6 mOr_readSum), iSI2, iLA0, (iGR 19 6 1), iLI1, (iCV1 78 5 mOp_add), iLI2, iRI]
def tOr_readTest : Tb := [(0, bOr_readTest_0, 13), (13, bOr_readTest_13, 20), (20, bOr_readTest_20, 27), (27, bOr_readTest_27, 29), (29, bOr_readTest_29, 51), (51, bOr_readTest_51, 63), (63, bOr_readTest_63, 70), (70, bOr_readTest_70, 77), (77, bOr_readTest_77, 89), (89, bOr_readTest_89, 91), (91, bOr_readTest_91, 103), (103, bOr_readTest_103, 110), (110, bOr_readTest_110, 112), (112, bOr_readTest_112, 124), (124, bOr_readTest_124, 130), (130, bOr_readTest_130, 142), (142, bOr_readTest_142, 148), (148, bOr_readTest_148, 160), (160, bOr_readTest_160, 166), (166, bOr_readTest_166, 167), (167, bOr_readTest_167, 173), (173, bOr_readTest_173, 182), (182, bOr_readTest_182, 197)]
theorem fOr_readTest_0 : tbf tOr_readTest 0 = some (bOr_readTest_0, 13) := rfl
theorem fOr_readTest_13 : tbf tOr_readTest 13 = some (bOr_readTest_13, 20) := rfl
theorem fOr_readTest_20 : tbf tOr_readTest 20 = some (bOr_readTest_20, 27) := rfl
theorem fOr_readTest_27 : tbf tOr_readTest 27 = some (bOr_readTest_27, 29) := rfl
theorem fOr_readTest_29 : tbf tOr_readTest 29 = some (bOr_readTest_29, 51) := rfl
theorem fOr_readTest_51 : tbf tOr_readTest 51 = some (bOr_readTest_51, 63) := rfl
theorem fOr_readTest_63 : tbf tOr_readTest 63 = some (bOr_readTest_63, 70) := rfl
theorem fOr_readTest_70 : tbf tOr_readTest 70 = some (bOr_readTest_70, 77) := rfl
theorem fOr_readTest_77 : tbf tOr_readTest 77 = some (bOr_readTest_77, 89) := rfl
theorem fOr_readTest_89 : tbf tOr_readTest 89 = some (bOr_readTest_89, 91) := rfl
theorem fOr_readTest_91 : tbf tOr_readTest 91 = some (bOr_readTest_91, 103) := rfl
theorem fOr_readTest_103 : tbf tOr_readTest 103 = some (bOr_readTest_103, 110) := rfl
theorem fOr_readTest_110 : tbf tOr_readTest 110 = some (bOr_readTest_110, 112) := rfl
theorem fOr_readTest_112 : tbf tOr_readTest 112 = some (bOr_readTest_112, 124) := rfl
theorem fOr_readTest_124 : tbf tOr_readTest 124 = some (bOr_readTest_124, 130) := rfl
theorem fOr_readTest_130 : tbf tOr_readTest 130 = some (bOr_readTest_130, 142) := rfl
theorem fOr_readTest_142 : tbf tOr_readTest 142 = some (bOr_readTest_142, 148) := rfl
theorem fOr_readTest_148 : tbf tOr_readTest 148 = some (bOr_readTest_148, 160) := rfl
theorem fOr_readTest_160 : tbf tOr_readTest 160 = some (bOr_readTest_160, 166) := rfl
theorem fOr_readTest_166 : tbf tOr_readTest 166 = some (bOr_readTest_166, 167) := rfl
theorem fOr_readTest_167 : tbf tOr_readTest 167 = some (bOr_readTest_167, 173) := rfl
theorem fOr_readTest_173 : tbf tOr_readTest 173 = some (bOr_readTest_173, 182) := rfl
theorem fOr_readTest_182 : tbf tOr_readTest 182 = some (bOr_readTest_182, 197) := rfl
theorem kOr_readTest_0 : Bok "HerbWaters$OpinionReader" prog_8_method_5_code (0, bOr_readTest_0, 13) := ⟨by decide +kernel, (List.forall_mem_cons.mpr ⟨sLA0, (List.forall_mem_cons.mpr ⟨lOr_g15, (List.forall_mem_cons.mpr ⟨lOr_t85, (List.forall_mem_cons.mpr ⟨lOr_v48, (List.forall_mem_cons.mpr ⟨sIFeq, (fun _ h => absurd h List.not_mem_nil)⟩)⟩)⟩)⟩)⟩)⟩
theorem kOr_readTest_13 : Bok "HerbWaters$OpinionReader" prog_8_method_5_code (13, bOr_readTest_13, 20) := ⟨by decide +kernel, (List.forall_mem_cons.mpr ⟨sLA0, (List.forall_mem_cons.mpr ⟨lOr_v88, (List.forall_mem_cons.mpr ⟨sIFeq, (fun _ h => absurd h List.not_mem_nil)⟩)⟩)⟩)⟩
theorem kOr_readTest_20 : Bok "HerbWaters$OpinionReader" prog_8_method_5_code (20, bOr_readTest_20, 27) := ⟨by decide +kernel, (List.forall_mem_cons.mpr ⟨sLA0, (List.forall_mem_cons.mpr ⟨lOr_v72, (List.forall_mem_cons.mpr ⟨sIFne, (fun _ h => absurd h List.not_mem_nil)⟩)⟩)⟩)⟩
theorem kOr_readTest_27 : Bok "HerbWaters$OpinionReader" prog_8_method_5_code (27, bOr_readTest_27, 29) := ⟨by decide +kernel, (List.forall_mem_cons.mpr ⟨sC0, (List.forall_mem_cons.mpr ⟨sRI, (fun _ h => absurd h List.not_mem_nil)⟩)⟩)⟩
theorem kOr_readTest_29 : Bok "HerbWaters$OpinionReader" prog_8_method_5_code (29, bOr_readTest_29, 51) := ⟨by decide +kernel, (List.forall_mem_cons.mpr ⟨sLA0, (List.forall_mem_cons.mpr ⟨lOr_g19, (List.forall_mem_cons.mpr ⟨sSP, (List.forall_mem_cons.mpr ⟨lOr_v78, (List.forall_mem_cons.mpr ⟨sLA0, (List.forall_mem_cons.mpr ⟨sDUPr, (List.forall_mem_cons.mpr ⟨lOr_g9, (List.forall_mem_cons.mpr ⟨sC1, (List.forall_mem_cons.mpr ⟨sSUB, (List.forall_mem_cons.mpr ⟨lOr_p9, (List.forall_mem_cons.mpr ⟨sC1, (List.forall_mem_cons.mpr ⟨sRI, (fun _ h => absurd h List.not_mem_nil)⟩)⟩)⟩)⟩)⟩)⟩)⟩)⟩)⟩)⟩)⟩)⟩)⟩
theorem kOr_readTest_51 : Bok "HerbWaters$OpinionReader" prog_8_method_5_code (51, bOr_readTest_51, 63) := ⟨by decide +kernel, (List.forall_mem_cons.mpr ⟨sLA0, (List.forall_mem_cons.mpr ⟨lOr_g15, (List.forall_mem_cons.mpr ⟨sBP, (List.forall_mem_cons.mpr ⟨lOr_v91, (List.forall_mem_cons.mpr ⟨sIFeq, (fun _ h => absurd h List.not_mem_nil)⟩)⟩)⟩)⟩)⟩)⟩
theorem kOr_readTest_63 : Bok "HerbWaters$OpinionReader" prog_8_method_5_code (63, bOr_readTest_63, 70) := ⟨by decide +kernel, (List.forall_mem_cons.mpr ⟨sLA0, (List.forall_mem_cons.mpr ⟨lOr_v88, (List.forall_mem_cons.mpr ⟨sIFeq, (fun _ h => absurd h List.not_mem_nil)⟩)⟩)⟩)⟩
theorem kOr_readTest_70 : Bok "HerbWaters$OpinionReader" prog_8_method_5_code (70, bOr_readTest_70, 77) := ⟨by decide +kernel, (List.forall_mem_cons.mpr ⟨sLA0, (List.forall_mem_cons.mpr ⟨lOr_v65, (List.forall_mem_cons.mpr ⟨sIFeq, (fun _ h => absurd h List.not_mem_nil)⟩)⟩)⟩)⟩
theorem kOr_readTest_77 : Bok "HerbWaters$OpinionReader" prog_8_method_5_code (77, bOr_readTest_77, 89) := ⟨by decide +kernel, (List.forall_mem_cons.mpr ⟨sLA0, (List.forall_mem_cons.mpr ⟨lOr_g15, (List.forall_mem_cons.mpr ⟨sBP, (List.forall_mem_cons.mpr ⟨lOr_v38, (List.forall_mem_cons.mpr ⟨sIFne, (fun _ h => absurd h List.not_mem_nil)⟩)⟩)⟩)⟩)⟩)⟩
theorem kOr_readTest_89 : Bok "HerbWaters$OpinionReader" prog_8_method_5_code (89, bOr_readTest_89, 91) := ⟨by decide +kernel, (List.forall_mem_cons.mpr ⟨sC0, (List.forall_mem_cons.mpr ⟨sRI, (fun _ h => absurd h List.not_mem_nil)⟩)⟩)⟩
theorem kOr_readTest_91 : Bok "HerbWaters$OpinionReader" prog_8_method_5_code (91, bOr_readTest_91, 103) := ⟨by decide +kernel, (List.forall_mem_cons.mpr ⟨sLA0, (List.forall_mem_cons.mpr ⟨sDUPr, (List.forall_mem_cons.mpr ⟨lOr_g9, (List.forall_mem_cons.mpr ⟨sC1, (List.forall_mem_cons.mpr ⟨sSUB, (List.forall_mem_cons.mpr ⟨lOr_p9, (List.forall_mem_cons.mpr ⟨sC1, (List.forall_mem_cons.mpr ⟨sRI, (fun _ h => absurd h List.not_mem_nil)⟩)⟩)⟩)⟩)⟩)⟩)⟩)⟩)⟩
theorem kOr_readTest_103 : Bok "HerbWaters$OpinionReader" prog_8_method_5_code (103, bOr_readTest_103, 110) := ⟨by decide +kernel, (List.forall_mem_cons.mpr ⟨sLA0, (List.forall_mem_cons.mpr ⟨lOr_v59, (List.forall_mem_cons.mpr ⟨sIFne, (fun _ h => absurd h List.not_mem_nil)⟩)⟩)⟩)⟩
theorem kOr_readTest_110 : Bok "HerbWaters$OpinionReader" prog_8_method_5_code (110, bOr_readTest_110, 112) := ⟨by decide +kernel, (List.forall_mem_cons.mpr ⟨sC0, (List.forall_mem_cons.mpr ⟨sRI, (fun _ h => absurd h List.not_mem_nil)⟩)⟩)⟩
theorem kOr_readTest_112 : Bok "HerbWaters$OpinionReader" prog_8_method_5_code (112, bOr_readTest_112, 124) := ⟨by decide +kernel, (List.forall_mem_cons.mpr ⟨sLA0, (List.forall_mem_cons.mpr ⟨lOr_g15, (List.forall_mem_cons.mpr ⟨sBP, (List.forall_mem_cons.mpr ⟨lOr_v91, (List.forall_mem_cons.mpr ⟨sIFeq, (fun _ h => absurd h List.not_mem_nil)⟩)⟩)⟩)⟩)⟩)⟩
theorem kOr_readTest_124 : Bok "HerbWaters$OpinionReader" prog_8_method_5_code (124, bOr_readTest_124, 130) := ⟨by decide +kernel, (List.forall_mem_cons.mpr ⟨sSP, (List.forall_mem_cons.mpr ⟨sGO, (fun _ h => absurd h List.not_mem_nil)⟩)⟩)⟩
theorem kOr_readTest_130 : Bok "HerbWaters$OpinionReader" prog_8_method_5_code (130, bOr_readTest_130, 142) := ⟨by decide +kernel, (List.forall_mem_cons.mpr ⟨sLA0, (List.forall_mem_cons.mpr ⟨lOr_g15, (List.forall_mem_cons.mpr ⟨sBP, (List.forall_mem_cons.mpr ⟨lOr_v91, (List.forall_mem_cons.mpr ⟨sIFeq, (fun _ h => absurd h List.not_mem_nil)⟩)⟩)⟩)⟩)⟩)⟩
theorem kOr_readTest_142 : Bok "HerbWaters$OpinionReader" prog_8_method_5_code (142, bOr_readTest_142, 148) := ⟨by decide +kernel, (List.forall_mem_cons.mpr ⟨sSP, (List.forall_mem_cons.mpr ⟨sGO, (fun _ h => absurd h List.not_mem_nil)⟩)⟩)⟩
theorem kOr_readTest_148 : Bok "HerbWaters$OpinionReader" prog_8_method_5_code (148, bOr_readTest_148, 160) := ⟨by decide +kernel, (List.forall_mem_cons.mpr ⟨sLA0, (List.forall_mem_cons.mpr ⟨lOr_g15, (List.forall_mem_cons.mpr ⟨sBP, (List.forall_mem_cons.mpr ⟨lOr_v91, (List.forall_mem_cons.mpr ⟨sIFeq, (fun _ h => absurd h List.not_mem_nil)⟩)⟩)⟩)⟩)⟩)⟩
theorem kOr_readTest_160 : Bok "HerbWaters$OpinionReader" prog_8_method_5_code (160, bOr_readTest_160, 166) := ⟨by decide +kernel, (List.forall_mem_cons.mpr ⟨sSP, (List.forall_mem_cons.mpr ⟨sGO, (fun _ h => absurd h List.not_mem_nil)⟩)⟩)⟩
theorem kOr_readTest_166 : Bok "HerbWaters$OpinionReader" prog_8_method_5_code (166, bOr_readTest_166, 167) := ⟨by decide +kernel, (List.forall_mem_cons.mpr ⟨sCm1, (fun _ h => absurd h List.not_mem_nil)⟩)⟩
theorem kOr_readTest_167 : Bok "HerbWaters$OpinionReader" prog_8_method_5_code (167, bOr_readTest_167, 173) := ⟨by decide +kernel, (List.forall_mem_cons.mpr ⟨sSI1, (List.forall_mem_cons.mpr ⟨sLI1, (List.forall_mem_cons.mpr ⟨sCm1, (List.forall_mem_cons.mpr ⟨sICne, (fun _ h => absurd h List.not_mem_nil)⟩)⟩)⟩)⟩)⟩
theorem kOr_readTest_173 : Bok "HerbWaters$OpinionReader" prog_8_method_5_code (173, bOr_readTest_173, 182) := ⟨by decide +kernel, (List.forall_mem_cons.mpr ⟨sLA0, (List.forall_mem_cons.mpr ⟨lOr_g15, (List.forall_mem_cons.mpr ⟨sC1, (List.forall_mem_cons.mpr ⟨lOr_v52, (List.forall_mem_cons.mpr ⟨sRI, (fun _ h => absurd h List.not_mem_nil)⟩)⟩)⟩)⟩)⟩)⟩
theorem kOr_readTest_182 : Bok "HerbWaters$OpinionReader" prog_8_method_5_code (182, bOr_readTest_182, 197) := ⟨by decide +kernel, (List.forall_mem_cons.mpr ⟨sLA0, (List.forall_mem_cons.mpr ⟨lOr_v59, (List.forall_mem_cons.mpr ⟨sSI2, (List.forall_mem_cons.mpr ⟨sLA0, (List.forall_mem_cons.mpr ⟨lOr_g19, (List.forall_mem_cons.mpr ⟨sLI1, (List.forall_mem_cons.mpr ⟨lOr_v78, (List.forall_mem_cons.mpr ⟨sLI2, (List.forall_mem_cons.mpr ⟨sRI, (fun _ h => absurd h List.not_mem_nil)⟩)⟩)⟩)⟩)⟩)⟩)⟩)⟩)⟩)⟩
theorem kOr_readTest : ∀ q ∈ tOr_readTest, Bok "HerbWaters$OpinionReader" prog_8_method_5_code q := (List.forall_mem_cons.mpr ⟨kOr_readTest_0, (List.forall_mem_cons.mpr ⟨kOr_readTest_13, (List.forall_mem_cons.mpr ⟨kOr_readTest_20, (List.forall_mem_cons.mpr ⟨kOr_readTest_27, (List.forall_mem_cons.mpr ⟨kOr_readTest_29, (List.forall_mem_cons.mpr ⟨kOr_readTest_51, (List.forall_mem_cons.mpr ⟨kOr_readTest_63, (List.forall_mem_cons.mpr ⟨kOr_readTest_70, (List.forall_mem_cons.mpr ⟨kOr_readTest_77, (List.forall_mem_cons.mpr ⟨kOr_readTest_89, (List.forall_mem_cons.mpr ⟨kOr_readTest_91, (List.forall_mem_cons.mpr ⟨kOr_readTest_103, (List.forall_mem_cons.mpr ⟨kOr_readTest_110, (List.forall_mem_cons.mpr ⟨kOr_readTest_112, (List.forall_mem_cons.mpr ⟨kOr_readTest_124, (List.forall_mem_cons.mpr ⟨kOr_readTest_130, (List.forall_mem_cons.mpr ⟨kOr_readTest_142, (List.forall_mem_cons.mpr ⟨kOr_readTest_148, (List.forall_mem_cons.mpr ⟨kOr_readTest_160, (List.forall_mem_cons.mpr ⟨kOr_readTest_166, (List.forall_mem_cons.mpr ⟨kOr_readTest_167, (List.forall_mem_cons.mpr ⟨kOr_readTest_173, (List.forall_mem_cons.mpr ⟨kOr_readTest_182, (fun _ h => absurd h List.not_mem_nil)⟩)⟩)⟩)⟩)⟩)⟩)⟩)⟩)⟩)⟩)⟩)⟩)⟩)⟩)⟩)⟩)⟩)⟩)⟩)⟩)⟩)⟩)⟩)
theorem rOr_readTest : mOr_readTest.2.2.2 = some .boolean := rfl
def bOr_opens_0 : List Ir := [iLA0, (iGI 9 6 2), (iBP 6), (iIClt (12) 18)]
def bOr_opens_9 : List Ir := [iLA0, (iGR 15 6 0), iC3, (iCV1 52 7 mTp_fails), iRI]
def bOr_opens_18 : List Ir := [iLA0, iDUPr, (iGI 9 6 2), iC1, iADD, (iPI 9 6 2), iC1, iRI]
def tOr_opens : Tb := [(0, bOr_opens_0, 9), (9, bOr_opens_9, 18), (18, bOr_opens_18, 30)]
theorem fOr_opens_0 : tbf tOr_opens 0 = some (bOr_opens_0, 9) := rfl
theorem fOr_opens_9 : tbf tOr_opens 9 = some (bOr_opens_9, 18) := rfl
theorem fOr_opens_18 : tbf tOr_opens 18 = some (bOr_opens_18, 30) := rfl
theorem kOr_opens_0 : Bok "HerbWaters$OpinionReader" prog_8_method_6_code (0, bOr_opens_0, 9) := ⟨by decide +kernel, (List.forall_mem_cons.mpr ⟨sLA0, (List.forall_mem_cons.mpr ⟨lOr_g9, (List.forall_mem_cons.mpr ⟨sBP, (List.forall_mem_cons.mpr ⟨sIClt, (fun _ h => absurd h List.not_mem_nil)⟩)⟩)⟩)⟩)⟩
theorem kOr_opens_9 : Bok "HerbWaters$OpinionReader" prog_8_method_6_code (9, bOr_opens_9, 18) := ⟨by decide +kernel, (List.forall_mem_cons.mpr ⟨sLA0, (List.forall_mem_cons.mpr ⟨lOr_g15, (List.forall_mem_cons.mpr ⟨sC3, (List.forall_mem_cons.mpr ⟨lOr_v52, (List.forall_mem_cons.mpr ⟨sRI, (fun _ h => absurd h List.not_mem_nil)⟩)⟩)⟩)⟩)⟩)⟩
theorem kOr_opens_18 : Bok "HerbWaters$OpinionReader" prog_8_method_6_code (18, bOr_opens_18, 30) := ⟨by decide +kernel, (List.forall_mem_cons.mpr ⟨sLA0, (List.forall_mem_cons.mpr ⟨sDUPr, (List.forall_mem_cons.mpr ⟨lOr_g9, (List.forall_mem_cons.mpr ⟨sC1, (List.forall_mem_cons.mpr ⟨sADD, (List.forall_mem_cons.mpr ⟨lOr_p9, (List.forall_mem_cons.mpr ⟨sC1, (List.forall_mem_cons.mpr ⟨sRI, (fun _ h => absurd h List.not_mem_nil)⟩)⟩)⟩)⟩)⟩)⟩)⟩)⟩)⟩
theorem kOr_opens : ∀ q ∈ tOr_opens, Bok "HerbWaters$OpinionReader" prog_8_method_6_code q := (List.forall_mem_cons.mpr ⟨kOr_opens_0, (List.forall_mem_cons.mpr ⟨kOr_opens_9, (List.forall_mem_cons.mpr ⟨kOr_opens_18, (fun _ h => absurd h List.not_mem_nil)⟩)⟩)⟩)
theorem rOr_opens : mOr_opens.2.2.2 = some .boolean := rfl
def mOr_readValue : Mt := (⟨"HerbWaters$OpinionReader", "readValue", "()Z"⟩, prog_8_method_8_code, 2, some .boolean)
theorem ok_Or_readValue : Mok mOr_readValue := ⟨gtb_mem 1334 (by decide +kernel) rfl, gtb_mem 103 (by decide +kernel) rfl, by decide +kernel, by decide⟩
theorem lOr_v94 : Snd "HerbWaters$OpinionReader" (iCV0 94 6 mOr_readValue) := sCV0 _ rfl rfl ok_Or_readValue (gtb_mem 1333 (by decide +kernel) rfl) (gtb_mem 28 (by decide +kernel) rfl) (gtb_mem 1331 (by decide +kernel) rfl)
def bOr_readSum_0 : List Ir := [iCm1, iSI1, iLA0, (iCV0 94 6 mOr_readValue), iSI2, iC0, iSI3]
def bOr_readSum_9 : List Ir := [iLI3, (iSP 150), (iICge (138) 151)]
def bOr_readSum_16 : List Ir := [iLI2, (iIFeq (134) 151)]
def bOr_readSum_20 : List Ir := [iLA0, (iGR 15 6 0), (iBP 42), (iCV1 91 7 mTp_sign), (iIFeq (9) 38)]
def bOr_readSum_32 : List Ir := [(iSP 1009), (iGO (22) 57)]
def bOr_readSum_38 : List Ir := [iLA0, (iGR 15 6 0), (iBP 47), (iCV1 91 7 mTp_sign), (iIFeq (9) 56)]
def bOr_readSum_50 : List Ir := [(iSP 1010), (iGO (4) 57)]
def bOr_readSum_56 : List Ir := [iCm1]
def bOr_readSum_57 : List Ir := [iSI4, iLI4, iCm1, (iICeq (20) 82)]
def bOr_readSum_65 : List Ir := [iLA0, (iCV0 94 6 mOr_readValue), iSI2, iLA0, (iGR 19 6 1), iLI4, (iCV1 78 5 mOp_add), (iGO (66) 145)]
def bOr_readSum_82 : List Ir := [iLI1, iCm1, (iICeq (11) 95)]
def bOr_readSum_87 : List Ir := [iLA0, (iGR 19 6 1), iLI1, (iCV1 78 5 mOp_add)]
def bOr_readSum_95 : List Ir := [iLA0, (iGR 15 6 0), (iBP 43), (iCV1 91 7 mTp_sign), (iIFeq (9) 113)]
def bOr_readSum_107 : List Ir := [(iSP 1007), (iGO (22) 132)]
def bOr_readSum_113 : List Ir := [iLA0, (iGR 15 6 0), (iBP 45), (iCV1 91 7 mTp_sign), (iIFeq (9) 131)]
def bOr_readSum_125 : List Ir := [(iSP 1008), (iGO (4) 132)]
def bOr_readSum_131 : List Ir := [iCm1]
def bOr_readSum_132 : List Ir := [iSI1, iLI1, iCm1, (iICne (5) 140)]
def bOr_readSum_138 : List Ir := [iC1, iRI]
def bOr_readSum_140 : List Ir := [iLA0, (iCV0 94 6 mOr_readValue), iSI2]
def bOr_readSum_145 : List Ir := [(iINC3 1), (iGO (-139) 9)]
def bOr_readSum_151 : List Ir := [iLI2, iRI]
def tOr_readSum : Tb := [(0, bOr_readSum_0, 9), (9, bOr_readSum_9, 16), (16, bOr_readSum_16, 20), (20, bOr_readSum_20, 32), (32, bOr_readSum_32, 38), (38, bOr_readSum_38, 50), (50, bOr_readSum_50, 56), (56, bOr_readSum_56, 57), (57, bOr_readSum_57, 65), (65, bOr_readSum_65, 82), (82, bOr_readSum_82, 87), (87, bOr_readSum_87, 95), (95, bOr_readSum_95, 107), (107, bOr_readSum_107, 113), (113, bOr_readSum_113, 125), (125, bOr_readSum_125, 131), (131, bOr_readSum_131, 132), (132, bOr_readSum_132, 138), (138, bOr_readSum_138, 140), (140, bOr_readSum_140, 145), (145, bOr_readSum_145, 151), (151, bOr_readSum_151, 153)]
theorem fOr_readSum_0 : tbf tOr_readSum 0 = some (bOr_readSum_0, 9) := rfl
theorem fOr_readSum_9 : tbf tOr_readSum 9 = some (bOr_readSum_9, 16) := rfl
theorem fOr_readSum_16 : tbf tOr_readSum 16 = some (bOr_readSum_16, 20) := rfl
theorem fOr_readSum_20 : tbf tOr_readSum 20 = some (bOr_readSum_20, 32) := rfl
theorem fOr_readSum_32 : tbf tOr_readSum 32 = some (bOr_readSum_32, 38) := rfl
theorem fOr_readSum_38 : tbf tOr_readSum 38 = some (bOr_readSum_38, 50) := rfl
theorem fOr_readSum_50 : tbf tOr_readSum 50 = some (bOr_readSum_50, 56) := rfl
theorem fOr_readSum_56 : tbf tOr_readSum 56 = some (bOr_readSum_56, 57) := rfl
theorem fOr_readSum_57 : tbf tOr_readSum 57 = some (bOr_readSum_57, 65) := rfl
theorem fOr_readSum_65 : tbf tOr_readSum 65 = some (bOr_readSum_65, 82) := rfl
theorem fOr_readSum_82 : tbf tOr_readSum 82 = some (bOr_readSum_82, 87) := rfl
theorem fOr_readSum_87 : tbf tOr_readSum 87 = some (bOr_readSum_87, 95) := rfl
theorem fOr_readSum_95 : tbf tOr_readSum 95 = some (bOr_readSum_95, 107) := rfl
theorem fOr_readSum_107 : tbf tOr_readSum 107 = some (bOr_readSum_107, 113) := rfl
theorem fOr_readSum_113 : tbf tOr_readSum 113 = some (bOr_readSum_113, 125) := rfl
theorem fOr_readSum_125 : tbf tOr_readSum 125 = some (bOr_readSum_125, 131) := rfl
theorem fOr_readSum_131 : tbf tOr_readSum 131 = some (bOr_readSum_131, 132) := rfl
theorem fOr_readSum_132 : tbf tOr_readSum 132 = some (bOr_readSum_132, 138) := rfl
theorem fOr_readSum_138 : tbf tOr_readSum 138 = some (bOr_readSum_138, 140) := rfl
theorem fOr_readSum_140 : tbf tOr_readSum 140 = some (bOr_readSum_140, 145) := rfl
theorem fOr_readSum_145 : tbf tOr_readSum 145 = some (bOr_readSum_145, 151) := rfl
theorem fOr_readSum_151 : tbf tOr_readSum 151 = some (bOr_readSum_151, 153) := rfl
theorem kOr_readSum_0 : Bok "HerbWaters$OpinionReader" prog_8_method_7_code (0, bOr_readSum_0, 9) := ⟨by decide +kernel, (List.forall_mem_cons.mpr ⟨sCm1, (List.forall_mem_cons.mpr ⟨sSI1, (List.forall_mem_cons.mpr ⟨sLA0, (List.forall_mem_cons.mpr ⟨lOr_v94, (List.forall_mem_cons.mpr ⟨sSI2, (List.forall_mem_cons.mpr ⟨sC0, (List.forall_mem_cons.mpr ⟨sSI3, (fun _ h => absurd h List.not_mem_nil)⟩)⟩)⟩)⟩)⟩)⟩)⟩)⟩
theorem kOr_readSum_9 : Bok "HerbWaters$OpinionReader" prog_8_method_7_code (9, bOr_readSum_9, 16) := ⟨by decide +kernel, (List.forall_mem_cons.mpr ⟨sLI3, (List.forall_mem_cons.mpr ⟨sSP, (List.forall_mem_cons.mpr ⟨sICge, (fun _ h => absurd h List.not_mem_nil)⟩)⟩)⟩)⟩
theorem kOr_readSum_16 : Bok "HerbWaters$OpinionReader" prog_8_method_7_code (16, bOr_readSum_16, 20) := ⟨by decide +kernel, (List.forall_mem_cons.mpr ⟨sLI2, (List.forall_mem_cons.mpr ⟨sIFeq, (fun _ h => absurd h List.not_mem_nil)⟩)⟩)⟩
theorem kOr_readSum_20 : Bok "HerbWaters$OpinionReader" prog_8_method_7_code (20, bOr_readSum_20, 32) := ⟨by decide +kernel, (List.forall_mem_cons.mpr ⟨sLA0, (List.forall_mem_cons.mpr ⟨lOr_g15, (List.forall_mem_cons.mpr ⟨sBP, (List.forall_mem_cons.mpr ⟨lOr_v91, (List.forall_mem_cons.mpr ⟨sIFeq, (fun _ h => absurd h List.not_mem_nil)⟩)⟩)⟩)⟩)⟩)⟩
theorem kOr_readSum_32 : Bok "HerbWaters$OpinionReader" prog_8_method_7_code (32, bOr_readSum_32, 38) := ⟨by decide +kernel, (List.forall_mem_cons.mpr ⟨sSP, (List.forall_mem_cons.mpr ⟨sGO, (fun _ h => absurd h List.not_mem_nil)⟩)⟩)⟩
theorem kOr_readSum_38 : Bok "HerbWaters$OpinionReader" prog_8_method_7_code (38, bOr_readSum_38, 50) := ⟨by decide +kernel, (List.forall_mem_cons.mpr ⟨sLA0, (List.forall_mem_cons.mpr ⟨lOr_g15, (List.forall_mem_cons.mpr ⟨sBP, (List.forall_mem_cons.mpr ⟨lOr_v91, (List.forall_mem_cons.mpr ⟨sIFeq, (fun _ h => absurd h List.not_mem_nil)⟩)⟩)⟩)⟩)⟩)⟩
theorem kOr_readSum_50 : Bok "HerbWaters$OpinionReader" prog_8_method_7_code (50, bOr_readSum_50, 56) := ⟨by decide +kernel, (List.forall_mem_cons.mpr ⟨sSP, (List.forall_mem_cons.mpr ⟨sGO, (fun _ h => absurd h List.not_mem_nil)⟩)⟩)⟩
theorem kOr_readSum_56 : Bok "HerbWaters$OpinionReader" prog_8_method_7_code (56, bOr_readSum_56, 57) := ⟨by decide +kernel, (List.forall_mem_cons.mpr ⟨sCm1, (fun _ h => absurd h List.not_mem_nil)⟩)⟩
theorem kOr_readSum_57 : Bok "HerbWaters$OpinionReader" prog_8_method_7_code (57, bOr_readSum_57, 65) := ⟨by decide +kernel, (List.forall_mem_cons.mpr ⟨sSI4, (List.forall_mem_cons.mpr ⟨sLI4, (List.forall_mem_cons.mpr ⟨sCm1, (List.forall_mem_cons.mpr ⟨sICeq, (fun _ h => absurd h List.not_mem_nil)⟩)⟩)⟩)⟩)⟩
theorem kOr_readSum_65 : Bok "HerbWaters$OpinionReader" prog_8_method_7_code (65, bOr_readSum_65, 82) := ⟨by decide +kernel, (List.forall_mem_cons.mpr ⟨sLA0, (List.forall_mem_cons.mpr ⟨lOr_v94, (List.forall_mem_cons.mpr ⟨sSI2, (List.forall_mem_cons.mpr ⟨sLA0, (List.forall_mem_cons.mpr ⟨lOr_g19, (List.forall_mem_cons.mpr ⟨sLI4, (List.forall_mem_cons.mpr ⟨lOr_v78, (List.forall_mem_cons.mpr ⟨sGO, (fun _ h => absurd h List.not_mem_nil)⟩)⟩)⟩)⟩)⟩)⟩)⟩)⟩)⟩
theorem kOr_readSum_82 : Bok "HerbWaters$OpinionReader" prog_8_method_7_code (82, bOr_readSum_82, 87) := ⟨by decide +kernel, (List.forall_mem_cons.mpr ⟨sLI1, (List.forall_mem_cons.mpr ⟨sCm1, (List.forall_mem_cons.mpr ⟨sICeq, (fun _ h => absurd h List.not_mem_nil)⟩)⟩)⟩)⟩
theorem kOr_readSum_87 : Bok "HerbWaters$OpinionReader" prog_8_method_7_code (87, bOr_readSum_87, 95) := ⟨by decide +kernel, (List.forall_mem_cons.mpr ⟨sLA0, (List.forall_mem_cons.mpr ⟨lOr_g19, (List.forall_mem_cons.mpr ⟨sLI1, (List.forall_mem_cons.mpr ⟨lOr_v78, (fun _ h => absurd h List.not_mem_nil)⟩)⟩)⟩)⟩)⟩
theorem kOr_readSum_95 : Bok "HerbWaters$OpinionReader" prog_8_method_7_code (95, bOr_readSum_95, 107) := ⟨by decide +kernel, (List.forall_mem_cons.mpr ⟨sLA0, (List.forall_mem_cons.mpr ⟨lOr_g15, (List.forall_mem_cons.mpr ⟨sBP, (List.forall_mem_cons.mpr ⟨lOr_v91, (List.forall_mem_cons.mpr ⟨sIFeq, (fun _ h => absurd h List.not_mem_nil)⟩)⟩)⟩)⟩)⟩)⟩
theorem kOr_readSum_107 : Bok "HerbWaters$OpinionReader" prog_8_method_7_code (107, bOr_readSum_107, 113) := ⟨by decide +kernel, (List.forall_mem_cons.mpr ⟨sSP, (List.forall_mem_cons.mpr ⟨sGO, (fun _ h => absurd h List.not_mem_nil)⟩)⟩)⟩
theorem kOr_readSum_113 : Bok "HerbWaters$OpinionReader" prog_8_method_7_code (113, bOr_readSum_113, 125) := ⟨by decide +kernel, (List.forall_mem_cons.mpr ⟨sLA0, (List.forall_mem_cons.mpr ⟨lOr_g15, (List.forall_mem_cons.mpr ⟨sBP, (List.forall_mem_cons.mpr ⟨lOr_v91, (List.forall_mem_cons.mpr ⟨sIFeq, (fun _ h => absurd h List.not_mem_nil)⟩)⟩)⟩)⟩)⟩)⟩
theorem kOr_readSum_125 : Bok "HerbWaters$OpinionReader" prog_8_method_7_code (125, bOr_readSum_125, 131) := ⟨by decide +kernel, (List.forall_mem_cons.mpr ⟨sSP, (List.forall_mem_cons.mpr ⟨sGO, (fun _ h => absurd h List.not_mem_nil)⟩)⟩)⟩
theorem kOr_readSum_131 : Bok "HerbWaters$OpinionReader" prog_8_method_7_code (131, bOr_readSum_131, 132) := ⟨by decide +kernel, (List.forall_mem_cons.mpr ⟨sCm1, (fun _ h => absurd h List.not_mem_nil)⟩)⟩
theorem kOr_readSum_132 : Bok "HerbWaters$OpinionReader" prog_8_method_7_code (132, bOr_readSum_132, 138) := ⟨by decide +kernel, (List.forall_mem_cons.mpr ⟨sSI1, (List.forall_mem_cons.mpr ⟨sLI1, (List.forall_mem_cons.mpr ⟨sCm1, (List.forall_mem_cons.mpr ⟨sICne, (fun _ h => absurd h List.not_mem_nil)⟩)⟩)⟩)⟩)⟩
theorem kOr_readSum_138 : Bok "HerbWaters$OpinionReader" prog_8_method_7_code (138, bOr_readSum_138, 140) := ⟨by decide +kernel, (List.forall_mem_cons.mpr ⟨sC1, (List.forall_mem_cons.mpr ⟨sRI, (fun _ h => absurd h List.not_mem_nil)⟩)⟩)⟩
theorem kOr_readSum_140 : Bok "HerbWaters$OpinionReader" prog_8_method_7_code (140, bOr_readSum_140, 145) := ⟨by decide +kernel, (List.forall_mem_cons.mpr ⟨sLA0, (List.forall_mem_cons.mpr ⟨lOr_v94, (List.forall_mem_cons.mpr ⟨sSI2, (fun _ h => absurd h List.not_mem_nil)⟩)⟩)⟩)⟩
theorem kOr_readSum_145 : Bok "HerbWaters$OpinionReader" prog_8_method_7_code (145, bOr_readSum_145, 151) := ⟨by decide +kernel, (List.forall_mem_cons.mpr ⟨sINC3, (List.forall_mem_cons.mpr ⟨sGO, (fun _ h => absurd h List.not_mem_nil)⟩)⟩)⟩
theorem kOr_readSum_151 : Bok "HerbWaters$OpinionReader" prog_8_method_7_code (151, bOr_readSum_151, 153) := ⟨by decide +kernel, (List.forall_mem_cons.mpr ⟨sLI2, (List.forall_mem_cons.mpr ⟨sRI, (fun _ h => absurd h List.not_mem_nil)⟩)⟩)⟩
theorem kOr_readSum : ∀ q ∈ tOr_readSum, Bok "HerbWaters$OpinionReader" prog_8_method_7_code q := (List.forall_mem_cons.mpr ⟨kOr_readSum_0, (List.forall_mem_cons.mpr ⟨kOr_readSum_9, (List.forall_mem_cons.mpr ⟨kOr_readSum_16, (List.forall_mem_cons.mpr ⟨kOr_readSum_20, (List.forall_mem_cons.mpr ⟨kOr_readSum_32, (List.forall_mem_cons.mpr ⟨kOr_readSum_38, (List.forall_mem_cons.mpr ⟨kOr_readSum_50, (List.forall_mem_cons.mpr ⟨kOr_readSum_56, (List.forall_mem_cons.mpr ⟨kOr_readSum_57, (List.forall_mem_cons.mpr ⟨kOr_readSum_65, (List.forall_mem_cons.mpr ⟨kOr_readSum_82, (List.forall_mem_cons.mpr ⟨kOr_readSum_87, (List.forall_mem_cons.mpr ⟨kOr_readSum_95, (List.forall_mem_cons.mpr ⟨kOr_readSum_107, (List.forall_mem_cons.mpr ⟨kOr_readSum_113, (List.forall_mem_cons.mpr ⟨kOr_readSum_125, (List.forall_mem_cons.mpr ⟨kOr_readSum_131, (List.forall_mem_cons.mpr ⟨kOr_readSum_132, (List.forall_mem_cons.mpr ⟨kOr_readSum_138, (List.forall_mem_cons.mpr ⟨kOr_readSum_140, (List.forall_mem_cons.mpr ⟨kOr_readSum_145, (List.forall_mem_cons.mpr ⟨kOr_readSum_151, (fun _ h => absurd h List.not_mem_nil)⟩)⟩)⟩)⟩)⟩)⟩)⟩)⟩)⟩)⟩)⟩)⟩)⟩)⟩)⟩)⟩)⟩)⟩)⟩)⟩)⟩)⟩)
theorem rOr_readSum : mOr_readSum.2.2.2 = some .boolean := rfl
theorem lOr_v97 : Snd "HerbWaters$OpinionReader" (iCV0 97 7 mTp_isDigit) := sCV0 _ rfl rfl ok_Tp_isDigit (gtb_mem 1205 (by decide +kernel) rfl) (gtb_mem 1206 (by decide +kernel) rfl) (gtb_mem 1341 (by decide +kernel) rfl)
theorem lOr_v100 : Snd "HerbWaters$OpinionReader" (iCV2 100 7 mTp_numberIn) := sCV2 _ rfl rfl ok_Tp_numberIn (gtb_mem 1201 (by decide +kernel) rfl) (gtb_mem 1202 (by decide +kernel) rfl) (gtb_mem 1342 (by decide +kernel) rfl)
theorem lOr_v104 : Snd "HerbWaters$OpinionReader" (iCV0 104 7 mTp_nextWord) := sCV0 _ rfl rfl ok_Tp_nextWord (gtb_mem 1150 (by decide +kernel) rfl) (gtb_mem 1151 (by decide +kernel) rfl) (gtb_mem 1347 (by decide +kernel) rfl)
theorem lOr_g108 : Snd "HerbWaters$OpinionReader" (iGW 108 0) := sGW "HerbWaters" (List.mem_filter.mpr ⟨List.mem_of_getElem? (i := 2310) (by decide +kernel), rfl⟩)
theorem lOr_v111 : Snd "HerbWaters$OpinionReader" (iCV1 111 5 mOp_addLook) := sCV1 _ rfl rfl ok_Op_addLook (gtb_mem 1349 (by decide +kernel) rfl) (gtb_mem 1350 (by decide +kernel) rfl) (gtb_mem 1348 (by decide +kernel) rfl)
def bOr_readValue_0 : List Ir := [iLA0, (iGR 15 6 0), (iBP 40), (iCV1 91 7 mTp_sign), (iIFeq (43) 52)]
def bOr_readValue_12 : List Ir := [iLA0, (iCV0 88 6 mOr_opens), (iIFeq (22) 38)]
def bOr_readValue_19 : List Ir := [iLA0, (iCV0 59 6 mOr_readSum), (iIFeq (15) 38)]
def bOr_readValue_26 : List Ir := [iLA0, (iGR 15 6 0), (iBP 41), (iCV1 38 7 mTp_needSign), (iIFne (5) 40)]
def bOr_readValue_38 : List Ir := [iC0, iRI]
def bOr_readValue_40 : List Ir := [iLA0, iDUPr, (iGI 9 6 2), iC1, iSUB, (iPI 9 6 2), iC1, iRI]
def bOr_readValue_52 : List Ir := [iLA0, (iGR 15 6 0), (iCV0 97 7 mTp_isDigit), (iIFeq (34) 93)]
def bOr_readValue_62 : List Ir := [iLA0, (iGR 15 6 0), iC0, (iSP 999), (iCV2 100 7 mTp_numberIn), iSI1, iLA0, (iGR 19 6 1), iLI1, (iCV1 78 5 mOp_add), iLI1, iCm1, (iICeq (7) 91)]
def bOr_readValue_87 : List Ir := [iC1, (iGO (4) 92)]
def bOr_readValue_91 : List Ir := [iC0]
def bOr_readValue_92 : List Ir := [iRI]
def bOr_readValue_93 : List Ir := [iLA0, (iGR 15 6 0), (iCV0 104 7 mTp_nextWord), (iGW 108 0), iSI1, iLI1, iCm1, (iICne (12) 118)]
def bOr_readValue_109 : List Ir := [iLA0, (iGR 15 6 0), iC1, (iCV1 52 7 mTp_fails), iRI]
def bOr_readValue_118 : List Ir := [iLA0, (iGR 19 6 1), iLI1, (iCV1 111 5 mOp_addLook), iC1, iRI]
def tOr_readValue : Tb := [(0, bOr_readValue_0, 12), (12, bOr_readValue_12, 19), (19, bOr_readValue_19, 26), (26, bOr_readValue_26, 38), (38, bOr_readValue_38, 40), (40, bOr_readValue_40, 52), (52, bOr_readValue_52, 62), (62, bOr_readValue_62, 87), (87, bOr_readValue_87, 91), (91, bOr_readValue_91, 92), (92, bOr_readValue_92, 93), (93, bOr_readValue_93, 109), (109, bOr_readValue_109, 118), (118, bOr_readValue_118, 128)]
theorem fOr_readValue_0 : tbf tOr_readValue 0 = some (bOr_readValue_0, 12) := rfl
theorem fOr_readValue_12 : tbf tOr_readValue 12 = some (bOr_readValue_12, 19) := rfl
theorem fOr_readValue_19 : tbf tOr_readValue 19 = some (bOr_readValue_19, 26) := rfl
theorem fOr_readValue_26 : tbf tOr_readValue 26 = some (bOr_readValue_26, 38) := rfl
theorem fOr_readValue_38 : tbf tOr_readValue 38 = some (bOr_readValue_38, 40) := rfl
theorem fOr_readValue_40 : tbf tOr_readValue 40 = some (bOr_readValue_40, 52) := rfl
theorem fOr_readValue_52 : tbf tOr_readValue 52 = some (bOr_readValue_52, 62) := rfl
theorem fOr_readValue_62 : tbf tOr_readValue 62 = some (bOr_readValue_62, 87) := rfl
theorem fOr_readValue_87 : tbf tOr_readValue 87 = some (bOr_readValue_87, 91) := rfl
theorem fOr_readValue_91 : tbf tOr_readValue 91 = some (bOr_readValue_91, 92) := rfl
theorem fOr_readValue_92 : tbf tOr_readValue 92 = some (bOr_readValue_92, 93) := rfl
theorem fOr_readValue_93 : tbf tOr_readValue 93 = some (bOr_readValue_93, 109) := rfl
theorem fOr_readValue_109 : tbf tOr_readValue 109 = some (bOr_readValue_109, 118) := rfl
theorem fOr_readValue_118 : tbf tOr_readValue 118 = some (bOr_readValue_118, 128) := rfl
theorem kOr_readValue_0 : Bok "HerbWaters$OpinionReader" prog_8_method_8_code (0, bOr_readValue_0, 12) := ⟨by decide +kernel, (List.forall_mem_cons.mpr ⟨sLA0, (List.forall_mem_cons.mpr ⟨lOr_g15, (List.forall_mem_cons.mpr ⟨sBP, (List.forall_mem_cons.mpr ⟨lOr_v91, (List.forall_mem_cons.mpr ⟨sIFeq, (fun _ h => absurd h List.not_mem_nil)⟩)⟩)⟩)⟩)⟩)⟩
theorem kOr_readValue_12 : Bok "HerbWaters$OpinionReader" prog_8_method_8_code (12, bOr_readValue_12, 19) := ⟨by decide +kernel, (List.forall_mem_cons.mpr ⟨sLA0, (List.forall_mem_cons.mpr ⟨lOr_v88, (List.forall_mem_cons.mpr ⟨sIFeq, (fun _ h => absurd h List.not_mem_nil)⟩)⟩)⟩)⟩
theorem kOr_readValue_19 : Bok "HerbWaters$OpinionReader" prog_8_method_8_code (19, bOr_readValue_19, 26) := ⟨by decide +kernel, (List.forall_mem_cons.mpr ⟨sLA0, (List.forall_mem_cons.mpr ⟨lOr_v59, (List.forall_mem_cons.mpr ⟨sIFeq, (fun _ h => absurd h List.not_mem_nil)⟩)⟩)⟩)⟩
theorem kOr_readValue_26 : Bok "HerbWaters$OpinionReader" prog_8_method_8_code (26, bOr_readValue_26, 38) := ⟨by decide +kernel, (List.forall_mem_cons.mpr ⟨sLA0, (List.forall_mem_cons.mpr ⟨lOr_g15, (List.forall_mem_cons.mpr ⟨sBP, (List.forall_mem_cons.mpr ⟨lOr_v38, (List.forall_mem_cons.mpr ⟨sIFne, (fun _ h => absurd h List.not_mem_nil)⟩)⟩)⟩)⟩)⟩)⟩
theorem kOr_readValue_38 : Bok "HerbWaters$OpinionReader" prog_8_method_8_code (38, bOr_readValue_38, 40) := ⟨by decide +kernel, (List.forall_mem_cons.mpr ⟨sC0, (List.forall_mem_cons.mpr ⟨sRI, (fun _ h => absurd h List.not_mem_nil)⟩)⟩)⟩
theorem kOr_readValue_40 : Bok "HerbWaters$OpinionReader" prog_8_method_8_code (40, bOr_readValue_40, 52) := ⟨by decide +kernel, (List.forall_mem_cons.mpr ⟨sLA0, (List.forall_mem_cons.mpr ⟨sDUPr, (List.forall_mem_cons.mpr ⟨lOr_g9, (List.forall_mem_cons.mpr ⟨sC1, (List.forall_mem_cons.mpr ⟨sSUB, (List.forall_mem_cons.mpr ⟨lOr_p9, (List.forall_mem_cons.mpr ⟨sC1, (List.forall_mem_cons.mpr ⟨sRI, (fun _ h => absurd h List.not_mem_nil)⟩)⟩)⟩)⟩)⟩)⟩)⟩)⟩)⟩
theorem kOr_readValue_52 : Bok "HerbWaters$OpinionReader" prog_8_method_8_code (52, bOr_readValue_52, 62) := ⟨by decide +kernel, (List.forall_mem_cons.mpr ⟨sLA0, (List.forall_mem_cons.mpr ⟨lOr_g15, (List.forall_mem_cons.mpr ⟨lOr_v97, (List.forall_mem_cons.mpr ⟨sIFeq, (fun _ h => absurd h List.not_mem_nil)⟩)⟩)⟩)⟩)⟩
theorem kOr_readValue_62 : Bok "HerbWaters$OpinionReader" prog_8_method_8_code (62, bOr_readValue_62, 87) := ⟨by decide +kernel, (List.forall_mem_cons.mpr ⟨sLA0, (List.forall_mem_cons.mpr ⟨lOr_g15, (List.forall_mem_cons.mpr ⟨sC0, (List.forall_mem_cons.mpr ⟨sSP, (List.forall_mem_cons.mpr ⟨lOr_v100, (List.forall_mem_cons.mpr ⟨sSI1, (List.forall_mem_cons.mpr ⟨sLA0, (List.forall_mem_cons.mpr ⟨lOr_g19, (List.forall_mem_cons.mpr ⟨sLI1, (List.forall_mem_cons.mpr ⟨lOr_v78, (List.forall_mem_cons.mpr ⟨sLI1, (List.forall_mem_cons.mpr ⟨sCm1, (List.forall_mem_cons.mpr ⟨sICeq, (fun _ h => absurd h List.not_mem_nil)⟩)⟩)⟩)⟩)⟩)⟩)⟩)⟩)⟩)⟩)⟩)⟩)⟩)⟩
theorem kOr_readValue_87 : Bok "HerbWaters$OpinionReader" prog_8_method_8_code (87, bOr_readValue_87, 91) := ⟨by decide +kernel, (List.forall_mem_cons.mpr ⟨sC1, (List.forall_mem_cons.mpr ⟨sGO, (fun _ h => absurd h List.not_mem_nil)⟩)⟩)⟩
theorem kOr_readValue_91 : Bok "HerbWaters$OpinionReader" prog_8_method_8_code (91, bOr_readValue_91, 92) := ⟨by decide +kernel, (List.forall_mem_cons.mpr ⟨sC0, (fun _ h => absurd h List.not_mem_nil)⟩)⟩
theorem kOr_readValue_92 : Bok "HerbWaters$OpinionReader" prog_8_method_8_code (92, bOr_readValue_92, 93) := ⟨by decide +kernel, (List.forall_mem_cons.mpr ⟨sRI, (fun _ h => absurd h List.not_mem_nil)⟩)⟩
theorem kOr_readValue_93 : Bok "HerbWaters$OpinionReader" prog_8_method_8_code (93, bOr_readValue_93, 109) := ⟨by decide +kernel, (List.forall_mem_cons.mpr ⟨sLA0, (List.forall_mem_cons.mpr ⟨lOr_g15, (List.forall_mem_cons.mpr ⟨lOr_v104, (List.forall_mem_cons.mpr ⟨lOr_g108, (List.forall_mem_cons.mpr ⟨sSI1, (List.forall_mem_cons.mpr ⟨sLI1, (List.forall_mem_cons.mpr ⟨sCm1, (List.forall_mem_cons.mpr ⟨sICne, (fun _ h => absurd h List.not_mem_nil)⟩)⟩)⟩)⟩)⟩)⟩)⟩)⟩)⟩
theorem kOr_readValue_109 : Bok "HerbWaters$OpinionReader" prog_8_method_8_code (109, bOr_readValue_109, 118) := ⟨by decide +kernel, (List.forall_mem_cons.mpr ⟨sLA0, (List.forall_mem_cons.mpr ⟨lOr_g15, (List.forall_mem_cons.mpr ⟨sC1, (List.forall_mem_cons.mpr ⟨lOr_v52, (List.forall_mem_cons.mpr ⟨sRI, (fun _ h => absurd h List.not_mem_nil)⟩)⟩)⟩)⟩)⟩)⟩
theorem kOr_readValue_118 : Bok "HerbWaters$OpinionReader" prog_8_method_8_code (118, bOr_readValue_118, 128) := ⟨by decide +kernel, (List.forall_mem_cons.mpr ⟨sLA0, (List.forall_mem_cons.mpr ⟨lOr_g19, (List.forall_mem_cons.mpr ⟨sLI1, (List.forall_mem_cons.mpr ⟨lOr_v111, (List.forall_mem_cons.mpr ⟨sC1, (List.forall_mem_cons.mpr ⟨sRI, (fun _ h => absurd h List.not_mem_nil)⟩)⟩)⟩)⟩)⟩)⟩)⟩
theorem kOr_readValue : ∀ q ∈ tOr_readValue, Bok "HerbWaters$OpinionReader" prog_8_method_8_code q := (List.forall_mem_cons.mpr ⟨kOr_readValue_0, (List.forall_mem_cons.mpr ⟨kOr_readValue_12, (List.forall_mem_cons.mpr ⟨kOr_readValue_19, (List.forall_mem_cons.mpr ⟨kOr_readValue_26, (List.forall_mem_cons.mpr ⟨kOr_readValue_38, (List.forall_mem_cons.mpr ⟨kOr_readValue_40, (List.forall_mem_cons.mpr ⟨kOr_readValue_52, (List.forall_mem_cons.mpr ⟨kOr_readValue_62, (List.forall_mem_cons.mpr ⟨kOr_readValue_87, (List.forall_mem_cons.mpr ⟨kOr_readValue_91, (List.forall_mem_cons.mpr ⟨kOr_readValue_92, (List.forall_mem_cons.mpr ⟨kOr_readValue_93, (List.forall_mem_cons.mpr ⟨kOr_readValue_109, (List.forall_mem_cons.mpr ⟨kOr_readValue_118, (fun _ h => absurd h List.not_mem_nil)⟩)⟩)⟩)⟩)⟩)⟩)⟩)⟩)⟩)⟩)⟩)⟩)⟩)⟩)
theorem rOr_readValue : mOr_readValue.2.2.2 = some .boolean := rfl
def mBk_clear : Mt := (⟨"HerbWaters$Book", "clear", "()V"⟩, prog_3_method_2_code, 1, none)
theorem ok_Bk_clear : Mok mBk_clear := ⟨gtb_mem 1276 (by decide +kernel) rfl, gtb_mem 101 (by decide +kernel) rfl, by decide +kernel, by decide⟩
theorem lBk_p18 : Snd "HerbWaters$Book" (iPI 18 1 2) := sPI _ rfl rfl (gtb_mem 445 (by decide +kernel) rfl)
theorem lBk_p22 : Snd "HerbWaters$Book" (iPI 22 1 3) := sPI _ rfl rfl (gtb_mem 448 (by decide +kernel) rfl)
def bBk_clear_0 : List Ir := [iLA0, iC0, (iPI 18 1 2), iLA0, iC0, (iPI 22 1 3), iRV]
def tBk_clear : Tb := [(0, bBk_clear_0, 11)]
theorem fBk_clear_0 : tbf tBk_clear 0 = some (bBk_clear_0, 11) := rfl
theorem kBk_clear_0 : Bok "HerbWaters$Book" prog_3_method_2_code (0, bBk_clear_0, 11) := ⟨by decide +kernel, (List.forall_mem_cons.mpr ⟨sLA0, (List.forall_mem_cons.mpr ⟨sC0, (List.forall_mem_cons.mpr ⟨lBk_p18, (List.forall_mem_cons.mpr ⟨sLA0, (List.forall_mem_cons.mpr ⟨sC0, (List.forall_mem_cons.mpr ⟨lBk_p22, (List.forall_mem_cons.mpr ⟨sRV, (fun _ h => absurd h List.not_mem_nil)⟩)⟩)⟩)⟩)⟩)⟩)⟩)⟩
theorem kBk_clear : ∀ q ∈ tBk_clear, Bok "HerbWaters$Book" prog_3_method_2_code q := (List.forall_mem_cons.mpr ⟨kBk_clear_0, (fun _ h => absurd h List.not_mem_nil)⟩)
theorem rBk_clear : mBk_clear.2.2.2 = none := rfl
def mBk_read : Mt := (⟨"HerbWaters$Book", "read", "(LHerbWaters$Tape;)Z"⟩, prog_3_method_3_code, 3, some .boolean)
theorem ok_Bk_read : Mok mBk_read := ⟨gtb_mem 1392 (by decide +kernel) rfl, gtb_mem 101 (by decide +kernel) rfl, by decide +kernel, by decide⟩
theorem lBk_v25 : Snd "HerbWaters$Book" (iCV0 25 1 mBk_clear) := sCV0 _ rfl rfl ok_Bk_clear (gtb_mem 1274 (by decide +kernel) rfl) (gtb_mem 1275 (by decide +kernel) rfl) (gtb_mem 1393 (by decide +kernel) rfl)
theorem lBk_v28 : Snd "HerbWaters$Book" (iCV0 28 7 mTp_isEnded) := sCV0 _ rfl rfl ok_Tp_isEnded (gtb_mem 1138 (by decide +kernel) rfl) (gtb_mem 1139 (by decide +kernel) rfl) (gtb_mem 1394 (by decide +kernel) rfl)
def mBk_readLine : Mt := (⟨"HerbWaters$Book", "readLine", "(LHerbWaters$Tape;)Z"⟩, prog_3_method_4_code, 4, some .boolean)
theorem ok_Bk_readLine : Mok mBk_readLine := ⟨gtb_mem 1398 (by decide +kernel) rfl, gtb_mem 101 (by decide +kernel) rfl, by decide +kernel, by decide⟩
theorem lBk_v34 : Snd "HerbWaters$Book" (iCV1 34 1 mBk_readLine) := sCV1 _ rfl rfl ok_Bk_readLine (gtb_mem 1397 (by decide +kernel) rfl) (gtb_mem 32 (by decide +kernel) rfl) (gtb_mem 1395 (by decide +kernel) rfl)
theorem lBk_v38 : Snd "HerbWaters$Book" (iCV1 38 7 mTp_needSign) := sCV1 _ rfl rfl ok_Tp_needSign (gtb_mem 1254 (by decide +kernel) rfl) (gtb_mem 1255 (by decide +kernel) rfl) (gtb_mem 1402 (by decide +kernel) rfl)
def bBk_read_0 : List Ir := [iLA0, (iCV0 25 1 mBk_clear), iC0, iSI2]
def bBk_read_6 : List Ir := [iLI2, (iBP 12), (iICgt (37) 46)]
def bBk_read_12 : List Ir := [iLA1, (iCV0 28 7 mTp_isEnded), (iIFeq (5) 21)]
def bBk_read_19 : List Ir := [iC1, iRI]
def bBk_read_21 : List Ir := [iLA0, iLA1, (iCV1 34 1 mBk_readLine), (iIFeq (12) 38)]
def bBk_read_29 : List Ir := [iLA1, (iBP 59), (iCV1 38 7 mTp_needSign), (iIFne (5) 40)]
def bBk_read_38 : List Ir := [iC0, iRI]
def bBk_read_40 : List Ir := [(iINC2 1), (iGO (-37) 6)]
def bBk_read_46 : List Ir := [iC0, iRI]
def tBk_read : Tb := [(0, bBk_read_0, 6), (6, bBk_read_6, 12), (12, bBk_read_12, 19), (19, bBk_read_19, 21), (21, bBk_read_21, 29), (29, bBk_read_29, 38), (38, bBk_read_38, 40), (40, bBk_read_40, 46), (46, bBk_read_46, 48)]
theorem fBk_read_0 : tbf tBk_read 0 = some (bBk_read_0, 6) := rfl
theorem fBk_read_6 : tbf tBk_read 6 = some (bBk_read_6, 12) := rfl
theorem fBk_read_12 : tbf tBk_read 12 = some (bBk_read_12, 19) := rfl
theorem fBk_read_19 : tbf tBk_read 19 = some (bBk_read_19, 21) := rfl
theorem fBk_read_21 : tbf tBk_read 21 = some (bBk_read_21, 29) := rfl
theorem fBk_read_29 : tbf tBk_read 29 = some (bBk_read_29, 38) := rfl
theorem fBk_read_38 : tbf tBk_read 38 = some (bBk_read_38, 40) := rfl
theorem fBk_read_40 : tbf tBk_read 40 = some (bBk_read_40, 46) := rfl
theorem fBk_read_46 : tbf tBk_read 46 = some (bBk_read_46, 48) := rfl
theorem kBk_read_0 : Bok "HerbWaters$Book" prog_3_method_3_code (0, bBk_read_0, 6) := ⟨by decide +kernel, (List.forall_mem_cons.mpr ⟨sLA0, (List.forall_mem_cons.mpr ⟨lBk_v25, (List.forall_mem_cons.mpr ⟨sC0, (List.forall_mem_cons.mpr ⟨sSI2, (fun _ h => absurd h List.not_mem_nil)⟩)⟩)⟩)⟩)⟩
theorem kBk_read_6 : Bok "HerbWaters$Book" prog_3_method_3_code (6, bBk_read_6, 12) := ⟨by decide +kernel, (List.forall_mem_cons.mpr ⟨sLI2, (List.forall_mem_cons.mpr ⟨sBP, (List.forall_mem_cons.mpr ⟨sICgt, (fun _ h => absurd h List.not_mem_nil)⟩)⟩)⟩)⟩
theorem kBk_read_12 : Bok "HerbWaters$Book" prog_3_method_3_code (12, bBk_read_12, 19) := ⟨by decide +kernel, (List.forall_mem_cons.mpr ⟨sLA1, (List.forall_mem_cons.mpr ⟨lBk_v28, (List.forall_mem_cons.mpr ⟨sIFeq, (fun _ h => absurd h List.not_mem_nil)⟩)⟩)⟩)⟩
theorem kBk_read_19 : Bok "HerbWaters$Book" prog_3_method_3_code (19, bBk_read_19, 21) := ⟨by decide +kernel, (List.forall_mem_cons.mpr ⟨sC1, (List.forall_mem_cons.mpr ⟨sRI, (fun _ h => absurd h List.not_mem_nil)⟩)⟩)⟩
theorem kBk_read_21 : Bok "HerbWaters$Book" prog_3_method_3_code (21, bBk_read_21, 29) := ⟨by decide +kernel, (List.forall_mem_cons.mpr ⟨sLA0, (List.forall_mem_cons.mpr ⟨sLA1, (List.forall_mem_cons.mpr ⟨lBk_v34, (List.forall_mem_cons.mpr ⟨sIFeq, (fun _ h => absurd h List.not_mem_nil)⟩)⟩)⟩)⟩)⟩
theorem kBk_read_29 : Bok "HerbWaters$Book" prog_3_method_3_code (29, bBk_read_29, 38) := ⟨by decide +kernel, (List.forall_mem_cons.mpr ⟨sLA1, (List.forall_mem_cons.mpr ⟨sBP, (List.forall_mem_cons.mpr ⟨lBk_v38, (List.forall_mem_cons.mpr ⟨sIFne, (fun _ h => absurd h List.not_mem_nil)⟩)⟩)⟩)⟩)⟩
theorem kBk_read_38 : Bok "HerbWaters$Book" prog_3_method_3_code (38, bBk_read_38, 40) := ⟨by decide +kernel, (List.forall_mem_cons.mpr ⟨sC0, (List.forall_mem_cons.mpr ⟨sRI, (fun _ h => absurd h List.not_mem_nil)⟩)⟩)⟩
theorem kBk_read_40 : Bok "HerbWaters$Book" prog_3_method_3_code (40, bBk_read_40, 46) := ⟨by decide +kernel, (List.forall_mem_cons.mpr ⟨sINC2, (List.forall_mem_cons.mpr ⟨sGO, (fun _ h => absurd h List.not_mem_nil)⟩)⟩)⟩
theorem kBk_read_46 : Bok "HerbWaters$Book" prog_3_method_3_code (46, bBk_read_46, 48) := ⟨by decide +kernel, (List.forall_mem_cons.mpr ⟨sC0, (List.forall_mem_cons.mpr ⟨sRI, (fun _ h => absurd h List.not_mem_nil)⟩)⟩)⟩
theorem kBk_read : ∀ q ∈ tBk_read, Bok "HerbWaters$Book" prog_3_method_3_code q := (List.forall_mem_cons.mpr ⟨kBk_read_0, (List.forall_mem_cons.mpr ⟨kBk_read_6, (List.forall_mem_cons.mpr ⟨kBk_read_12, (List.forall_mem_cons.mpr ⟨kBk_read_19, (List.forall_mem_cons.mpr ⟨kBk_read_21, (List.forall_mem_cons.mpr ⟨kBk_read_29, (List.forall_mem_cons.mpr ⟨kBk_read_38, (List.forall_mem_cons.mpr ⟨kBk_read_40, (List.forall_mem_cons.mpr ⟨kBk_read_46, (fun _ h => absurd h List.not_mem_nil)⟩)⟩)⟩)⟩)⟩)⟩)⟩)⟩)⟩)
theorem rBk_read : mBk_read.2.2.2 = some .boolean := rfl
theorem lBk_v42 : Snd "HerbWaters$Book" (iCV2 42 7 mTp_numberIn) := sCV2 _ rfl rfl ok_Tp_numberIn (gtb_mem 1201 (by decide +kernel) rfl) (gtb_mem 1202 (by decide +kernel) rfl) (gtb_mem 1399 (by decide +kernel) rfl)
theorem lBk_g18 : Snd "HerbWaters$Book" (iGI 18 1 2) := sGI _ rfl (gtb_mem 445 (by decide +kernel) rfl)
theorem lBk_v46 : Snd "HerbWaters$Book" (iCV1 46 7 mTp_fails) := sCV1 _ rfl rfl ok_Tp_fails (gtb_mem 1187 (by decide +kernel) rfl) (gtb_mem 1188 (by decide +kernel) rfl) (gtb_mem 1400 (by decide +kernel) rfl)
theorem lBk_g11 : Snd "HerbWaters$Book" (iGR 11 1 0) := sGR _ rfl (gtb_mem 443 (by decide +kernel) rfl)
theorem lBk_g15 : Snd "HerbWaters$Book" (iGR 15 1 1) := sGR _ rfl (gtb_mem 444 (by decide +kernel) rfl)
theorem lBk_g22 : Snd "HerbWaters$Book" (iGI 22 1 3) := sGI _ rfl (gtb_mem 448 (by decide +kernel) rfl)
theorem lBk_s50 : Snd "HerbWaters$Book" (iMAX 50) := sMAX (gtb_mem 1401 (by decide +kernel) rfl) (gtb_mem 548 (by decide +kernel) rfl) (gtb_mem 105 (by decide +kernel) rfl) (gtb_mem 549 (by decide +kernel) rfl)
def bBk_readLine_0 : List Ir := [iLA1, iC1, (iBP 99), (iCV2 42 7 mTp_numberIn), iSI2, iLI2, iCm1, (iICne (5) 15)]
def bBk_readLine_13 : List Ir := [iC0, iRI]
def bBk_readLine_15 : List Ir := [iLA0, (iGI 18 1 2), (iBP 12), (iIClt (9) 30)]
def bBk_readLine_24 : List Ir := [iLA1, iC3, (iCV1 46 7 mTp_fails), iRI]
def bBk_readLine_30 : List Ir := [iLA1, iC0, (iBP 7), (iCV2 42 7 mTp_numberIn), iSI3, iLI3, iCm1, (iICne (5) 45)]
def bBk_readLine_43 : List Ir := [iC0, iRI]
def bBk_readLine_45 : List Ir := [iLA0, (iGR 11 1 0), iLA0, (iGI 18 1 2), iLI2, iIAST, iLA0, (iGR 15 1 1), iLA0, (iGI 18 1 2), iLI3, iIAST, iLA0, iDUPr, (iGI 18 1 2), iC1, iADD, (iPI 18 1 2), iLA0, iLA0, (iGI 22 1 3), iLI2, (iMAX 50), (iPI 22 1 3), iC1, iRI]
def tBk_readLine : Tb := [(0, bBk_readLine_0, 13), (13, bBk_readLine_13, 15), (15, bBk_readLine_15, 24), (24, bBk_readLine_24, 30), (30, bBk_readLine_30, 43), (43, bBk_readLine_43, 45), (45, bBk_readLine_45, 89)]
theorem fBk_readLine_0 : tbf tBk_readLine 0 = some (bBk_readLine_0, 13) := rfl
theorem fBk_readLine_13 : tbf tBk_readLine 13 = some (bBk_readLine_13, 15) := rfl
theorem fBk_readLine_15 : tbf tBk_readLine 15 = some (bBk_readLine_15, 24) := rfl
theorem fBk_readLine_24 : tbf tBk_readLine 24 = some (bBk_readLine_24, 30) := rfl
theorem fBk_readLine_30 : tbf tBk_readLine 30 = some (bBk_readLine_30, 43) := rfl
theorem fBk_readLine_43 : tbf tBk_readLine 43 = some (bBk_readLine_43, 45) := rfl
theorem fBk_readLine_45 : tbf tBk_readLine 45 = some (bBk_readLine_45, 89) := rfl
theorem kBk_readLine_0 : Bok "HerbWaters$Book" prog_3_method_4_code (0, bBk_readLine_0, 13) := ⟨by decide +kernel, (List.forall_mem_cons.mpr ⟨sLA1, (List.forall_mem_cons.mpr ⟨sC1, (List.forall_mem_cons.mpr ⟨sBP, (List.forall_mem_cons.mpr ⟨lBk_v42, (List.forall_mem_cons.mpr ⟨sSI2, (List.forall_mem_cons.mpr ⟨sLI2, (List.forall_mem_cons.mpr ⟨sCm1, (List.forall_mem_cons.mpr ⟨sICne, (fun _ h => absurd h List.not_mem_nil)⟩)⟩)⟩)⟩)⟩)⟩)⟩)⟩)⟩
theorem kBk_readLine_13 : Bok "HerbWaters$Book" prog_3_method_4_code (13, bBk_readLine_13, 15) := ⟨by decide +kernel, (List.forall_mem_cons.mpr ⟨sC0, (List.forall_mem_cons.mpr ⟨sRI, (fun _ h => absurd h List.not_mem_nil)⟩)⟩)⟩
theorem kBk_readLine_15 : Bok "HerbWaters$Book" prog_3_method_4_code (15, bBk_readLine_15, 24) := ⟨by decide +kernel, (List.forall_mem_cons.mpr ⟨sLA0, (List.forall_mem_cons.mpr ⟨lBk_g18, (List.forall_mem_cons.mpr ⟨sBP, (List.forall_mem_cons.mpr ⟨sIClt, (fun _ h => absurd h List.not_mem_nil)⟩)⟩)⟩)⟩)⟩
theorem kBk_readLine_24 : Bok "HerbWaters$Book" prog_3_method_4_code (24, bBk_readLine_24, 30) := ⟨by decide +kernel, (List.forall_mem_cons.mpr ⟨sLA1, (List.forall_mem_cons.mpr ⟨sC3, (List.forall_mem_cons.mpr ⟨lBk_v46, (List.forall_mem_cons.mpr ⟨sRI, (fun _ h => absurd h List.not_mem_nil)⟩)⟩)⟩)⟩)⟩
theorem kBk_readLine_30 : Bok "HerbWaters$Book" prog_3_method_4_code (30, bBk_readLine_30, 43) := ⟨by decide +kernel, (List.forall_mem_cons.mpr ⟨sLA1, (List.forall_mem_cons.mpr ⟨sC0, (List.forall_mem_cons.mpr ⟨sBP, (List.forall_mem_cons.mpr ⟨lBk_v42, (List.forall_mem_cons.mpr ⟨sSI3, (List.forall_mem_cons.mpr ⟨sLI3, (List.forall_mem_cons.mpr ⟨sCm1, (List.forall_mem_cons.mpr ⟨sICne, (fun _ h => absurd h List.not_mem_nil)⟩)⟩)⟩)⟩)⟩)⟩)⟩)⟩)⟩
theorem kBk_readLine_43 : Bok "HerbWaters$Book" prog_3_method_4_code (43, bBk_readLine_43, 45) := ⟨by decide +kernel, (List.forall_mem_cons.mpr ⟨sC0, (List.forall_mem_cons.mpr ⟨sRI, (fun _ h => absurd h List.not_mem_nil)⟩)⟩)⟩
theorem kBk_readLine_45 : Bok "HerbWaters$Book" prog_3_method_4_code (45, bBk_readLine_45, 89) := ⟨by decide +kernel, (List.forall_mem_cons.mpr ⟨sLA0, (List.forall_mem_cons.mpr ⟨lBk_g11, (List.forall_mem_cons.mpr ⟨sLA0, (List.forall_mem_cons.mpr ⟨lBk_g18, (List.forall_mem_cons.mpr ⟨sLI2, (List.forall_mem_cons.mpr ⟨sIAST, (List.forall_mem_cons.mpr ⟨sLA0, (List.forall_mem_cons.mpr ⟨lBk_g15, (List.forall_mem_cons.mpr ⟨sLA0, (List.forall_mem_cons.mpr ⟨lBk_g18, (List.forall_mem_cons.mpr ⟨sLI3, (List.forall_mem_cons.mpr ⟨sIAST, (List.forall_mem_cons.mpr ⟨sLA0, (List.forall_mem_cons.mpr ⟨sDUPr, (List.forall_mem_cons.mpr ⟨lBk_g18, (List.forall_mem_cons.mpr ⟨sC1, (List.forall_mem_cons.mpr ⟨sADD, (List.forall_mem_cons.mpr ⟨lBk_p18, (List.forall_mem_cons.mpr ⟨sLA0, (List.forall_mem_cons.mpr ⟨sLA0, (List.forall_mem_cons.mpr ⟨lBk_g22, (List.forall_mem_cons.mpr ⟨sLI2, (List.forall_mem_cons.mpr ⟨lBk_s50, (List.forall_mem_cons.mpr ⟨lBk_p22, (List.forall_mem_cons.mpr ⟨sC1, (List.forall_mem_cons.mpr ⟨sRI, (fun _ h => absurd h List.not_mem_nil)⟩)⟩)⟩)⟩)⟩)⟩)⟩)⟩)⟩)⟩)⟩)⟩)⟩)⟩)⟩)⟩)⟩)⟩)⟩)⟩)⟩)⟩)⟩)⟩)⟩)⟩)⟩
theorem kBk_readLine : ∀ q ∈ tBk_readLine, Bok "HerbWaters$Book" prog_3_method_4_code q := (List.forall_mem_cons.mpr ⟨kBk_readLine_0, (List.forall_mem_cons.mpr ⟨kBk_readLine_13, (List.forall_mem_cons.mpr ⟨kBk_readLine_15, (List.forall_mem_cons.mpr ⟨kBk_readLine_24, (List.forall_mem_cons.mpr ⟨kBk_readLine_30, (List.forall_mem_cons.mpr ⟨kBk_readLine_43, (List.forall_mem_cons.mpr ⟨kBk_readLine_45, (fun _ h => absurd h List.not_mem_nil)⟩)⟩)⟩)⟩)⟩)⟩)⟩)
theorem rBk_readLine : mBk_readLine.2.2.2 = some .boolean := rfl
def mBk_firstWrong : Mt := (⟨"HerbWaters$Book", "firstWrong", "(II)I"⟩, prog_3_method_5_code, 4, some .int)
theorem ok_Bk_firstWrong : Mok mBk_firstWrong := ⟨gtb_mem 1089 (by decide +kernel) rfl, gtb_mem 101 (by decide +kernel) rfl, by decide +kernel, by decide⟩
def bBk_firstWrong_0 : List Ir := [iC0, iSI3]
def bBk_firstWrong_2 : List Ir := [iLI3, iLA0, (iGI 18 1 2), (iICge (31) 38)]
def bBk_firstWrong_10 : List Ir := [iLA0, (iGR 11 1 0), iLI3, iIALD, iLI1, (iICne (15) 32)]
def bBk_firstWrong_20 : List Ir := [iLA0, (iGR 15 1 1), iLI3, iIALD, iLI2, (iICeq (5) 32)]
def bBk_firstWrong_30 : List Ir := [iLI3, iRI]
def bBk_firstWrong_32 : List Ir := [(iINC3 1), (iGO (-33) 2)]
def bBk_firstWrong_38 : List Ir := [iLA0, (iGI 18 1 2), iRI]
def tBk_firstWrong : Tb := [(0, bBk_firstWrong_0, 2), (2, bBk_firstWrong_2, 10), (10, bBk_firstWrong_10, 20), (20, bBk_firstWrong_20, 30), (30, bBk_firstWrong_30, 32), (32, bBk_firstWrong_32, 38), (38, bBk_firstWrong_38, 43)]
theorem fBk_firstWrong_0 : tbf tBk_firstWrong 0 = some (bBk_firstWrong_0, 2) := rfl
theorem fBk_firstWrong_2 : tbf tBk_firstWrong 2 = some (bBk_firstWrong_2, 10) := rfl
theorem fBk_firstWrong_10 : tbf tBk_firstWrong 10 = some (bBk_firstWrong_10, 20) := rfl
theorem fBk_firstWrong_20 : tbf tBk_firstWrong 20 = some (bBk_firstWrong_20, 30) := rfl
theorem fBk_firstWrong_30 : tbf tBk_firstWrong 30 = some (bBk_firstWrong_30, 32) := rfl
theorem fBk_firstWrong_32 : tbf tBk_firstWrong 32 = some (bBk_firstWrong_32, 38) := rfl
theorem fBk_firstWrong_38 : tbf tBk_firstWrong 38 = some (bBk_firstWrong_38, 43) := rfl
theorem kBk_firstWrong_0 : Bok "HerbWaters$Book" prog_3_method_5_code (0, bBk_firstWrong_0, 2) := ⟨by decide +kernel, (List.forall_mem_cons.mpr ⟨sC0, (List.forall_mem_cons.mpr ⟨sSI3, (fun _ h => absurd h List.not_mem_nil)⟩)⟩)⟩
theorem kBk_firstWrong_2 : Bok "HerbWaters$Book" prog_3_method_5_code (2, bBk_firstWrong_2, 10) := ⟨by decide +kernel, (List.forall_mem_cons.mpr ⟨sLI3, (List.forall_mem_cons.mpr ⟨sLA0, (List.forall_mem_cons.mpr ⟨lBk_g18, (List.forall_mem_cons.mpr ⟨sICge, (fun _ h => absurd h List.not_mem_nil)⟩)⟩)⟩)⟩)⟩
theorem kBk_firstWrong_10 : Bok "HerbWaters$Book" prog_3_method_5_code (10, bBk_firstWrong_10, 20) := ⟨by decide +kernel, (List.forall_mem_cons.mpr ⟨sLA0, (List.forall_mem_cons.mpr ⟨lBk_g11, (List.forall_mem_cons.mpr ⟨sLI3, (List.forall_mem_cons.mpr ⟨sIALD, (List.forall_mem_cons.mpr ⟨sLI1, (List.forall_mem_cons.mpr ⟨sICne, (fun _ h => absurd h List.not_mem_nil)⟩)⟩)⟩)⟩)⟩)⟩)⟩
theorem kBk_firstWrong_20 : Bok "HerbWaters$Book" prog_3_method_5_code (20, bBk_firstWrong_20, 30) := ⟨by decide +kernel, (List.forall_mem_cons.mpr ⟨sLA0, (List.forall_mem_cons.mpr ⟨lBk_g15, (List.forall_mem_cons.mpr ⟨sLI3, (List.forall_mem_cons.mpr ⟨sIALD, (List.forall_mem_cons.mpr ⟨sLI2, (List.forall_mem_cons.mpr ⟨sICeq, (fun _ h => absurd h List.not_mem_nil)⟩)⟩)⟩)⟩)⟩)⟩)⟩
theorem kBk_firstWrong_30 : Bok "HerbWaters$Book" prog_3_method_5_code (30, bBk_firstWrong_30, 32) := ⟨by decide +kernel, (List.forall_mem_cons.mpr ⟨sLI3, (List.forall_mem_cons.mpr ⟨sRI, (fun _ h => absurd h List.not_mem_nil)⟩)⟩)⟩
theorem kBk_firstWrong_32 : Bok "HerbWaters$Book" prog_3_method_5_code (32, bBk_firstWrong_32, 38) := ⟨by decide +kernel, (List.forall_mem_cons.mpr ⟨sINC3, (List.forall_mem_cons.mpr ⟨sGO, (fun _ h => absurd h List.not_mem_nil)⟩)⟩)⟩
theorem kBk_firstWrong_38 : Bok "HerbWaters$Book" prog_3_method_5_code (38, bBk_firstWrong_38, 43) := ⟨by decide +kernel, (List.forall_mem_cons.mpr ⟨sLA0, (List.forall_mem_cons.mpr ⟨lBk_g18, (List.forall_mem_cons.mpr ⟨sRI, (fun _ h => absurd h List.not_mem_nil)⟩)⟩)⟩)⟩
theorem kBk_firstWrong : ∀ q ∈ tBk_firstWrong, Bok "HerbWaters$Book" prog_3_method_5_code q := (List.forall_mem_cons.mpr ⟨kBk_firstWrong_0, (List.forall_mem_cons.mpr ⟨kBk_firstWrong_2, (List.forall_mem_cons.mpr ⟨kBk_firstWrong_10, (List.forall_mem_cons.mpr ⟨kBk_firstWrong_20, (List.forall_mem_cons.mpr ⟨kBk_firstWrong_30, (List.forall_mem_cons.mpr ⟨kBk_firstWrong_32, (List.forall_mem_cons.mpr ⟨kBk_firstWrong_38, (fun _ h => absurd h List.not_mem_nil)⟩)⟩)⟩)⟩)⟩)⟩)⟩)
theorem rBk_firstWrong : mBk_firstWrong.2.2.2 = some .int := rfl
def mDy_begin : Mt := (⟨"HerbWaters$Days", "begin", "(LHerbWaters$Town;)V"⟩, prog_4_method_2_code, 3, none)
theorem ok_Dy_begin : Mok mDy_begin := ⟨gtb_mem 535 (by decide +kernel) rfl, gtb_mem 99 (by decide +kernel) rfl, by decide +kernel, by decide⟩
theorem lDy_g67 : Snd "HerbWaters$Days" (iGI 67 9 10) := sGIN _ rfl "HerbWaters" (List.mem_filter.mpr ⟨List.mem_of_getElem? (i := 201) (by decide +kernel), rfl⟩)
theorem lDy_p33 : Snd "HerbWaters$Days" (iPI 33 2 7) := sPI _ rfl rfl (gtb_mem 335 (by decide +kernel) rfl)
theorem lDy_g33 : Snd "HerbWaters$Days" (iGI 33 2 7) := sGI _ rfl (gtb_mem 335 (by decide +kernel) rfl)
theorem lDy_p37 : Snd "HerbWaters$Days" (iPI 37 2 8) := sPI _ rfl rfl (gtb_mem 339 (by decide +kernel) rfl)
theorem lDy_p40 : Snd "HerbWaters$Days" (iPI 40 2 9) := sPI _ rfl rfl (gtb_mem 342 (by decide +kernel) rfl)
theorem lDy_p43 : Snd "HerbWaters$Days" (iPI 43 2 10) := sPI _ rfl rfl (gtb_mem 347 (by decide +kernel) rfl)
theorem lDy_p46 : Snd "HerbWaters$Days" (iPI 46 2 11) := sPI _ rfl rfl (gtb_mem 351 (by decide +kernel) rfl)
theorem lDy_p49 : Snd "HerbWaters$Days" (iPI 49 2 12) := sPI _ rfl rfl (gtb_mem 354 (by decide +kernel) rfl)
theorem lDy_p52 : Snd "HerbWaters$Days" (iPI 52 2 13) := sPI _ rfl rfl (gtb_mem 357 (by decide +kernel) rfl)
theorem lDy_p55 : Snd "HerbWaters$Days" (iPI 55 2 14) := sPI _ rfl rfl (gtb_mem 360 (by decide +kernel) rfl)
theorem lDy_p58 : Snd "HerbWaters$Days" (iPI 58 2 15) := sPI _ rfl rfl (gtb_mem 363 (by decide +kernel) rfl)
theorem lDy_p61 : Snd "HerbWaters$Days" (iPI 61 2 16) := sPI _ rfl rfl (gtb_mem 366 (by decide +kernel) rfl)
theorem lDy_p64 : Snd "HerbWaters$Days" (iPI 64 2 17) := sPI _ rfl rfl (gtb_mem 368 (by decide +kernel) rfl)
theorem lDy_g9 : Snd "HerbWaters$Days" (iGR 9 2 0) := sGR _ rfl (gtb_mem 311 (by decide +kernel) rfl)
theorem lDy_s70 : Snd "HerbWaters$Days" (iCS2 70 mJa_fill) := sCS2 ok_Ja_fill (gtb_mem 537 (by decide +kernel) rfl) (gtb_mem 536 (by decide +kernel) rfl)
theorem lDy_g15 : Snd "HerbWaters$Days" (iGR 15 2 1) := sGR _ rfl (gtb_mem 315 (by decide +kernel) rfl)
theorem lDy_g18 : Snd "HerbWaters$Days" (iGR 18 2 2) := sGR _ rfl (gtb_mem 318 (by decide +kernel) rfl)
theorem lDy_g21 : Snd "HerbWaters$Days" (iGR 21 2 3) := sGR _ rfl (gtb_mem 321 (by decide +kernel) rfl)
theorem lDy_g24 : Snd "HerbWaters$Days" (iGR 24 2 4) := sGR _ rfl (gtb_mem 324 (by decide +kernel) rfl)
theorem lDy_g27 : Snd "HerbWaters$Days" (iGR 27 2 5) := sGR _ rfl (gtb_mem 327 (by decide +kernel) rfl)
theorem lDy_g30 : Snd "HerbWaters$Days" (iGR 30 2 6) := sGR _ rfl (gtb_mem 331 (by decide +kernel) rfl)
theorem lDy_g37 : Snd "HerbWaters$Days" (iGI 37 2 8) := sGI _ rfl (gtb_mem 339 (by decide +kernel) rfl)
theorem lDy_g76 : Snd "HerbWaters$Days" (iGR 76 9 0) := sGRN _ rfl "HerbWaters" (List.mem_filter.mpr ⟨List.mem_of_getElem? (i := 177) (by decide +kernel), rfl⟩)
def mDy_remember : Mt := (⟨"HerbWaters$Days", "remember", "(LHerbWaters$Town;)V"⟩, prog_4_method_15_code, 5, none)
theorem ok_Dy_remember : Mok mDy_remember := ⟨gtb_mem 542 (by decide +kernel) rfl, gtb_mem 99 (by decide +kernel) rfl, by decide +kernel, by decide⟩
theorem lDy_v79 : Snd "HerbWaters$Days" (iCV1 79 2 mDy_remember) := sCV1 _ rfl rfl ok_Dy_remember (gtb_mem 540 (by decide +kernel) rfl) (gtb_mem 541 (by decide +kernel) rfl) (gtb_mem 539 (by decide +kernel) rfl)
def bDy_begin_0 : List Ir := [iLA0, iLA1, (iGI 67 9 10), (iPI 33 2 7), iLA0, iC1, iC3, iLA0, (iGI 33 2 7), iMUL, iADD, (iPI 37 2 8), iLA0, iC0, (iPI 40 2 9), iLA0, iC0, (iPI 43 2 10), iLA0, iC0, (iPI 46 2 11), iLA0, iC0, (iPI 49 2 12), iLA0, iC0, (iPI 52 2 13), iLA0, iCm1, (iPI 55 2 14), iLA0, iC0, (iPI 58 2 15), iLA0, iC0, (iPI 61 2 16), iLA0, iC0, (iPI 64 2 17), iLA0, (iGR 9 2 0), iC0, (iCS2 70 mJa_fill), iLA0, (iGR 15 2 1), iC0, (iCS2 70 mJa_fill), iLA0, (iGR 18 2 2), iC0, (iCS2 70 mJa_fill), iLA0, (iGR 21 2 3), iC0, (iCS2 70 mJa_fill), iLA0, (iGR 24 2 4), iC0, (iCS2 70 mJa_fill), iLA0, (iGR 27 2 5), iC0, (iCS2 70 mJa_fill), iLA0, (iGR 30 2 6), iC0, (iCS2 70 mJa_fill), iC0, iSI2]
def bDy_begin_123 : List Ir := [iLI2, iLA0, (iGI 33 2 7), (iICge (26) 154)]
def bDy_begin_131 : List Ir := [iLA0, (iGR 9 2 0), iLI2, iLA0, (iGI 37 2 8), iMUL, iLA1, (iGR 76 9 0), iLI2, iIALD, iIAST, (iINC2 1), (iGO (-28) 123)]
def bDy_begin_154 : List Ir := [iLA0, iLA1, (iCV1 79 2 mDy_remember), iRV]
def tDy_begin : Tb := [(0, bDy_begin_0, 123), (123, bDy_begin_123, 131), (131, bDy_begin_131, 154), (154, bDy_begin_154, 160)]
theorem fDy_begin_0 : tbf tDy_begin 0 = some (bDy_begin_0, 123) := rfl
theorem fDy_begin_123 : tbf tDy_begin 123 = some (bDy_begin_123, 131) := rfl
theorem fDy_begin_131 : tbf tDy_begin 131 = some (bDy_begin_131, 154) := rfl
theorem fDy_begin_154 : tbf tDy_begin 154 = some (bDy_begin_154, 160) := rfl
theorem kDy_begin_0 : Bok "HerbWaters$Days" prog_4_method_2_code (0, bDy_begin_0, 123) := ⟨by decide +kernel, (List.forall_mem_cons.mpr ⟨sLA0, (List.forall_mem_cons.mpr ⟨sLA1, (List.forall_mem_cons.mpr ⟨lDy_g67, (List.forall_mem_cons.mpr ⟨lDy_p33, (List.forall_mem_cons.mpr ⟨sLA0, (List.forall_mem_cons.mpr ⟨sC1, (List.forall_mem_cons.mpr ⟨sC3, (List.forall_mem_cons.mpr ⟨sLA0, (List.forall_mem_cons.mpr ⟨lDy_g33, (List.forall_mem_cons.mpr ⟨sMUL, (List.forall_mem_cons.mpr ⟨sADD, (List.forall_mem_cons.mpr ⟨lDy_p37, (List.forall_mem_cons.mpr ⟨sLA0, (List.forall_mem_cons.mpr ⟨sC0, (List.forall_mem_cons.mpr ⟨lDy_p40, (List.forall_mem_cons.mpr ⟨sLA0, (List.forall_mem_cons.mpr ⟨sC0, (List.forall_mem_cons.mpr ⟨lDy_p43, (List.forall_mem_cons.mpr ⟨sLA0, (List.forall_mem_cons.mpr ⟨sC0, (List.forall_mem_cons.mpr ⟨lDy_p46, (List.forall_mem_cons.mpr ⟨sLA0, (List.forall_mem_cons.mpr ⟨sC0, (List.forall_mem_cons.mpr ⟨lDy_p49, (List.forall_mem_cons.mpr ⟨sLA0, (List.forall_mem_cons.mpr ⟨sC0, (List.forall_mem_cons.mpr ⟨lDy_p52, (List.forall_mem_cons.mpr ⟨sLA0, (List.forall_mem_cons.mpr ⟨sCm1, (List.forall_mem_cons.mpr ⟨lDy_p55, (List.forall_mem_cons.mpr ⟨sLA0, (List.forall_mem_cons.mpr ⟨sC0, (List.forall_mem_cons.mpr ⟨lDy_p58, (List.forall_mem_cons.mpr ⟨sLA0, (List.forall_mem_cons.mpr ⟨sC0, (List.forall_mem_cons.mpr ⟨lDy_p61, (List.forall_mem_cons.mpr ⟨sLA0, (List.forall_mem_cons.mpr ⟨sC0, (List.forall_mem_cons.mpr ⟨lDy_p64, (List.forall_mem_cons.mpr ⟨sLA0, (List.forall_mem_cons.mpr ⟨lDy_g9, (List.forall_mem_cons.mpr ⟨sC0, (List.forall_mem_cons.mpr ⟨lDy_s70, (List.forall_mem_cons.mpr ⟨sLA0, (List.forall_mem_cons.mpr ⟨lDy_g15, (List.forall_mem_cons.mpr ⟨sC0, (List.forall_mem_cons.mpr ⟨lDy_s70, (List.forall_mem_cons.mpr ⟨sLA0, (List.forall_mem_cons.mpr ⟨lDy_g18, (List.forall_mem_cons.mpr ⟨sC0, (List.forall_mem_cons.mpr ⟨lDy_s70, (List.forall_mem_cons.mpr ⟨sLA0, (List.forall_mem_cons.mpr ⟨lDy_g21, (List.forall_mem_cons.mpr ⟨sC0, (List.forall_mem_cons.mpr ⟨lDy_s70, (List.forall_mem_cons.mpr ⟨sLA0, (List.forall_mem_cons.mpr ⟨lDy_g24, (List.forall_mem_cons.mpr ⟨sC0, (List.forall_mem_cons.mpr ⟨lDy_s70, (List.forall_mem_cons.mpr ⟨sLA0, (List.forall_mem_cons.mpr ⟨lDy_g27, (List.forall_mem_cons.mpr ⟨sC0, (List.forall_mem_cons.mpr ⟨lDy_s70, (List.forall_mem_cons.mpr ⟨sLA0, (List.forall_mem_cons.mpr ⟨lDy_g30, (List.forall_mem_cons.mpr ⟨sC0, (List.forall_mem_cons.mpr ⟨lDy_s70, (List.forall_mem_cons.mpr ⟨sC0, (List.forall_mem_cons.mpr ⟨sSI2, (fun _ h => absurd h List.not_mem_nil)⟩)⟩)⟩)⟩)⟩)⟩)⟩)⟩)⟩)⟩)⟩)⟩)⟩)⟩)⟩)⟩)⟩)⟩)⟩)⟩)⟩)⟩)⟩)⟩)⟩)⟩)⟩)⟩)⟩)⟩)⟩)⟩)⟩)⟩)⟩)⟩)⟩)⟩)⟩)⟩)⟩)⟩)⟩)⟩)⟩)⟩)⟩)⟩)⟩)⟩)⟩)⟩)⟩)⟩)⟩)⟩)⟩)⟩)⟩)⟩)⟩)⟩)⟩)⟩)⟩)⟩)⟩)⟩)⟩)⟩
theorem kDy_begin_123 : Bok "HerbWaters$Days" prog_4_method_2_code (123, bDy_begin_123, 131) := ⟨by decide +kernel, (List.forall_mem_cons.mpr ⟨sLI2, (List.forall_mem_cons.mpr ⟨sLA0, (List.forall_mem_cons.mpr ⟨lDy_g33, (List.forall_mem_cons.mpr ⟨sICge, (fun _ h => absurd h List.not_mem_nil)⟩)⟩)⟩)⟩)⟩
theorem kDy_begin_131 : Bok "HerbWaters$Days" prog_4_method_2_code (131, bDy_begin_131, 154) := ⟨by decide +kernel, (List.forall_mem_cons.mpr ⟨sLA0, (List.forall_mem_cons.mpr ⟨lDy_g9, (List.forall_mem_cons.mpr ⟨sLI2, (List.forall_mem_cons.mpr ⟨sLA0, (List.forall_mem_cons.mpr ⟨lDy_g37, (List.forall_mem_cons.mpr ⟨sMUL, (List.forall_mem_cons.mpr ⟨sLA1, (List.forall_mem_cons.mpr ⟨lDy_g76, (List.forall_mem_cons.mpr ⟨sLI2, (List.forall_mem_cons.mpr ⟨sIALD, (List.forall_mem_cons.mpr ⟨sIAST, (List.forall_mem_cons.mpr ⟨sINC2, (List.forall_mem_cons.mpr ⟨sGO, (fun _ h => absurd h List.not_mem_nil)⟩)⟩)⟩)⟩)⟩)⟩)⟩)⟩)⟩)⟩)⟩)⟩)⟩)⟩
theorem kDy_begin_154 : Bok "HerbWaters$Days" prog_4_method_2_code (154, bDy_begin_154, 160) := ⟨by decide +kernel, (List.forall_mem_cons.mpr ⟨sLA0, (List.forall_mem_cons.mpr ⟨sLA1, (List.forall_mem_cons.mpr ⟨lDy_v79, (List.forall_mem_cons.mpr ⟨sRV, (fun _ h => absurd h List.not_mem_nil)⟩)⟩)⟩)⟩)⟩
theorem kDy_begin : ∀ q ∈ tDy_begin, Bok "HerbWaters$Days" prog_4_method_2_code q := (List.forall_mem_cons.mpr ⟨kDy_begin_0, (List.forall_mem_cons.mpr ⟨kDy_begin_123, (List.forall_mem_cons.mpr ⟨kDy_begin_131, (List.forall_mem_cons.mpr ⟨kDy_begin_154, (fun _ h => absurd h List.not_mem_nil)⟩)⟩)⟩)⟩)
theorem rDy_begin : mDy_begin.2.2.2 = none := rfl
def mDy_copyFrom : Mt := (⟨"HerbWaters$Days", "copyFrom", "(LHerbWaters$Days;)V"⟩, prog_4_method_3_code, 2, none)
theorem ok_Dy_copyFrom : Mok mDy_copyFrom := ⟨gtb_mem 574 (by decide +kernel) rfl, gtb_mem 99 (by decide +kernel) rfl, by decide +kernel, by decide⟩
theorem lDy_c83 : Snd "HerbWaters$Days" (iACP 83) := sACP (gtb_mem 575 (by decide +kernel) rfl) (gtb_mem 577 (by decide +kernel) rfl) (gtb_mem 576 (by decide +kernel) rfl) (gtb_mem 106 (by decide +kernel) rfl)
theorem lDy_g40 : Snd "HerbWaters$Days" (iGI 40 2 9) := sGI _ rfl (gtb_mem 342 (by decide +kernel) rfl)
theorem lDy_g43 : Snd "HerbWaters$Days" (iGI 43 2 10) := sGI _ rfl (gtb_mem 347 (by decide +kernel) rfl)
theorem lDy_g46 : Snd "HerbWaters$Days" (iGI 46 2 11) := sGI _ rfl (gtb_mem 351 (by decide +kernel) rfl)
theorem lDy_g49 : Snd "HerbWaters$Days" (iGI 49 2 12) := sGI _ rfl (gtb_mem 354 (by decide +kernel) rfl)
theorem lDy_g52 : Snd "HerbWaters$Days" (iGI 52 2 13) := sGI _ rfl (gtb_mem 357 (by decide +kernel) rfl)
theorem lDy_g55 : Snd "HerbWaters$Days" (iGI 55 2 14) := sGI _ rfl (gtb_mem 360 (by decide +kernel) rfl)
theorem lDy_g58 : Snd "HerbWaters$Days" (iGI 58 2 15) := sGI _ rfl (gtb_mem 363 (by decide +kernel) rfl)
theorem lDy_g61 : Snd "HerbWaters$Days" (iGI 61 2 16) := sGI _ rfl (gtb_mem 366 (by decide +kernel) rfl)
theorem lDy_g64 : Snd "HerbWaters$Days" (iGI 64 2 17) := sGI _ rfl (gtb_mem 368 (by decide +kernel) rfl)
def bDy_copyFrom_0 : List Ir := [iLA1, (iGR 9 2 0), iC0, iLA0, (iGR 9 2 0), iC0, iLA0, (iGR 9 2 0), iALEN, (iACP 83), iLA1, (iGR 15 2 1), iC0, iLA0, (iGR 15 2 1), iC0, iLA0, (iGR 15 2 1), iALEN, (iACP 83), iLA1, (iGR 18 2 2), iC0, iLA0, (iGR 18 2 2), iC0, iLA0, (iGR 18 2 2), iALEN, (iACP 83), iLA1, (iGR 21 2 3), iC0, iLA0, (iGR 21 2 3), iC0, iLA0, (iGR 21 2 3), iALEN, (iACP 83), iLA1, (iGR 24 2 4), iC0, iLA0, (iGR 24 2 4), iC0, iLA0, (iGR 24 2 4), iALEN, (iACP 83), iLA1, (iGR 27 2 5), iC0, iLA0, (iGR 27 2 5), iC0, iLA0, (iGR 27 2 5), iALEN, (iACP 83), iLA1, (iGR 30 2 6), iC0, iLA0, (iGR 30 2 6), iC0, iLA0, (iGR 30 2 6), iALEN, (iACP 83), iLA0, iLA1, (iGI 33 2 7), (iPI 33 2 7), iLA0, iLA1, (iGI 37 2 8), (iPI 37 2 8), iLA0, iLA1, (iGI 40 2 9), (iPI 40 2 9), iLA0, iLA1, (iGI 43 2 10), (iPI 43 2 10), iLA0, iLA1, (iGI 46 2 11), (iPI 46 2 11), iLA0, iLA1, (iGI 49 2 12), (iPI 49 2 12), iLA0, iLA1, (iGI 52 2 13), (iPI 52 2 13), iLA0, iLA1, (iGI 55 2 14), (iPI 55 2 14), iLA0, iLA1, (iGI 58 2 15), (iPI 58 2 15), iLA0, iLA1, (iGI 61 2 16), (iPI 61 2 16), iLA0, iLA1, (iGI 64 2 17), (iPI 64 2 17), iRV]
def tDy_copyFrom : Tb := [(0, bDy_copyFrom_0, 215)]
theorem fDy_copyFrom_0 : tbf tDy_copyFrom 0 = some (bDy_copyFrom_0, 215) := rfl
theorem kDy_copyFrom_0 : Bok "HerbWaters$Days" prog_4_method_3_code (0, bDy_copyFrom_0, 215) := ⟨by decide +kernel, (List.forall_mem_cons.mpr ⟨sLA1, (List.forall_mem_cons.mpr ⟨lDy_g9, (List.forall_mem_cons.mpr ⟨sC0, (List.forall_mem_cons.mpr ⟨sLA0, (List.forall_mem_cons.mpr ⟨lDy_g9, (List.forall_mem_cons.mpr ⟨sC0, (List.forall_mem_cons.mpr ⟨sLA0, (List.forall_mem_cons.mpr ⟨lDy_g9, (List.forall_mem_cons.mpr ⟨sALEN, (List.forall_mem_cons.mpr ⟨lDy_c83, (List.forall_mem_cons.mpr ⟨sLA1, (List.forall_mem_cons.mpr ⟨lDy_g15, (List.forall_mem_cons.mpr ⟨sC0, (List.forall_mem_cons.mpr ⟨sLA0, (List.forall_mem_cons.mpr ⟨lDy_g15, (List.forall_mem_cons.mpr ⟨sC0, (List.forall_mem_cons.mpr ⟨sLA0, (List.forall_mem_cons.mpr ⟨lDy_g15, (List.forall_mem_cons.mpr ⟨sALEN, (List.forall_mem_cons.mpr ⟨lDy_c83, (List.forall_mem_cons.mpr ⟨sLA1, (List.forall_mem_cons.mpr ⟨lDy_g18, (List.forall_mem_cons.mpr ⟨sC0, (List.forall_mem_cons.mpr ⟨sLA0, (List.forall_mem_cons.mpr ⟨lDy_g18, (List.forall_mem_cons.mpr ⟨sC0, (List.forall_mem_cons.mpr ⟨sLA0, (List.forall_mem_cons.mpr ⟨lDy_g18, (List.forall_mem_cons.mpr ⟨sALEN, (List.forall_mem_cons.mpr ⟨lDy_c83, (List.forall_mem_cons.mpr ⟨sLA1, (List.forall_mem_cons.mpr ⟨lDy_g21, (List.forall_mem_cons.mpr ⟨sC0, (List.forall_mem_cons.mpr ⟨sLA0, (List.forall_mem_cons.mpr ⟨lDy_g21, (List.forall_mem_cons.mpr ⟨sC0, (List.forall_mem_cons.mpr ⟨sLA0, (List.forall_mem_cons.mpr ⟨lDy_g21, (List.forall_mem_cons.mpr ⟨sALEN, (List.forall_mem_cons.mpr ⟨lDy_c83, (List.forall_mem_cons.mpr ⟨sLA1, (List.forall_mem_cons.mpr ⟨lDy_g24, (List.forall_mem_cons.mpr ⟨sC0, (List.forall_mem_cons.mpr ⟨sLA0, (List.forall_mem_cons.mpr ⟨lDy_g24, (List.forall_mem_cons.mpr ⟨sC0, (List.forall_mem_cons.mpr ⟨sLA0, (List.forall_mem_cons.mpr ⟨lDy_g24, (List.forall_mem_cons.mpr ⟨sALEN, (List.forall_mem_cons.mpr ⟨lDy_c83, (List.forall_mem_cons.mpr ⟨sLA1, (List.forall_mem_cons.mpr ⟨lDy_g27, (List.forall_mem_cons.mpr ⟨sC0, (List.forall_mem_cons.mpr ⟨sLA0, (List.forall_mem_cons.mpr ⟨lDy_g27, (List.forall_mem_cons.mpr ⟨sC0, (List.forall_mem_cons.mpr ⟨sLA0, (List.forall_mem_cons.mpr ⟨lDy_g27, (List.forall_mem_cons.mpr ⟨sALEN, (List.forall_mem_cons.mpr ⟨lDy_c83, (List.forall_mem_cons.mpr ⟨sLA1, (List.forall_mem_cons.mpr ⟨lDy_g30, (List.forall_mem_cons.mpr ⟨sC0, (List.forall_mem_cons.mpr ⟨sLA0, (List.forall_mem_cons.mpr ⟨lDy_g30, (List.forall_mem_cons.mpr ⟨sC0, (List.forall_mem_cons.mpr ⟨sLA0, (List.forall_mem_cons.mpr ⟨lDy_g30, (List.forall_mem_cons.mpr ⟨sALEN, (List.forall_mem_cons.mpr ⟨lDy_c83, (List.forall_mem_cons.mpr ⟨sLA0, (List.forall_mem_cons.mpr ⟨sLA1, (List.forall_mem_cons.mpr ⟨lDy_g33, (List.forall_mem_cons.mpr ⟨lDy_p33, (List.forall_mem_cons.mpr ⟨sLA0, (List.forall_mem_cons.mpr ⟨sLA1, (List.forall_mem_cons.mpr ⟨lDy_g37, (List.forall_mem_cons.mpr ⟨lDy_p37, (List.forall_mem_cons.mpr ⟨sLA0, (List.forall_mem_cons.mpr ⟨sLA1, (List.forall_mem_cons.mpr ⟨lDy_g40, (List.forall_mem_cons.mpr ⟨lDy_p40, (List.forall_mem_cons.mpr ⟨sLA0, (List.forall_mem_cons.mpr ⟨sLA1, (List.forall_mem_cons.mpr ⟨lDy_g43, (List.forall_mem_cons.mpr ⟨lDy_p43, (List.forall_mem_cons.mpr ⟨sLA0, (List.forall_mem_cons.mpr ⟨sLA1, (List.forall_mem_cons.mpr ⟨lDy_g46, (List.forall_mem_cons.mpr ⟨lDy_p46, (List.forall_mem_cons.mpr ⟨sLA0, (List.forall_mem_cons.mpr ⟨sLA1, (List.forall_mem_cons.mpr ⟨lDy_g49, (List.forall_mem_cons.mpr ⟨lDy_p49, (List.forall_mem_cons.mpr ⟨sLA0, (List.forall_mem_cons.mpr ⟨sLA1, (List.forall_mem_cons.mpr ⟨lDy_g52, (List.forall_mem_cons.mpr ⟨lDy_p52, (List.forall_mem_cons.mpr ⟨sLA0, (List.forall_mem_cons.mpr ⟨sLA1, (List.forall_mem_cons.mpr ⟨lDy_g55, (List.forall_mem_cons.mpr ⟨lDy_p55, (List.forall_mem_cons.mpr ⟨sLA0, (List.forall_mem_cons.mpr ⟨sLA1, (List.forall_mem_cons.mpr ⟨lDy_g58, (List.forall_mem_cons.mpr ⟨lDy_p58, (List.forall_mem_cons.mpr ⟨sLA0, (List.forall_mem_cons.mpr ⟨sLA1, (List.forall_mem_cons.mpr ⟨lDy_g61, (List.forall_mem_cons.mpr ⟨lDy_p61, (List.forall_mem_cons.mpr ⟨sLA0, (List.forall_mem_cons.mpr ⟨sLA1, (List.forall_mem_cons.mpr ⟨lDy_g64, (List.forall_mem_cons.mpr ⟨lDy_p64, (List.forall_mem_cons.mpr ⟨sRV, (fun _ h => absurd h List.not_mem_nil)⟩)⟩)⟩)⟩)⟩)⟩)⟩)⟩)⟩)⟩)⟩)⟩)⟩)⟩)⟩)⟩)⟩)⟩)⟩)⟩)⟩)⟩)⟩)⟩)⟩)⟩)⟩)⟩)⟩)⟩)⟩)⟩)⟩)⟩)⟩)⟩)⟩)⟩)⟩)⟩)⟩)⟩)⟩)⟩)⟩)⟩)⟩)⟩)⟩)⟩)⟩)⟩)⟩)⟩)⟩)⟩)⟩)⟩)⟩)⟩)⟩)⟩)⟩)⟩)⟩)⟩)⟩)⟩)⟩)⟩)⟩)⟩)⟩)⟩)⟩)⟩)⟩)⟩)⟩)⟩)⟩)⟩)⟩)⟩)⟩)⟩)⟩)⟩)⟩)⟩)⟩)⟩)⟩)⟩)⟩)⟩)⟩)⟩)⟩)⟩)⟩)⟩)⟩)⟩)⟩)⟩)⟩)⟩)⟩)⟩)⟩)⟩)⟩)⟩)⟩)⟩
theorem kDy_copyFrom : ∀ q ∈ tDy_copyFrom, Bok "HerbWaters$Days" prog_4_method_3_code q := (List.forall_mem_cons.mpr ⟨kDy_copyFrom_0, (fun _ h => absurd h List.not_mem_nil)⟩)
theorem rDy_copyFrom : mDy_copyFrom.2.2.2 = none := rfl
def mDy_cell : Mt := (⟨"HerbWaters$Days", "cell", "(III)I"⟩, prog_4_method_4_code, 4, some .int)
theorem ok_Dy_cell : Mok mDy_cell := ⟨gtb_mem 561 (by decide +kernel) rfl, gtb_mem 99 (by decide +kernel) rfl, by decide +kernel, by decide⟩
def bDy_cell_0 : List Ir := [iLI1, iLA0, (iGI 37 2 8), iMUL, iC1, iADD, iLI2, iLA0, (iGI 33 2 7), iMUL, iADD, iLI3, iADD, iRI]
def tDy_cell : Tb := [(0, bDy_cell_0, 18)]
theorem fDy_cell_0 : tbf tDy_cell 0 = some (bDy_cell_0, 18) := rfl
theorem kDy_cell_0 : Bok "HerbWaters$Days" prog_4_method_4_code (0, bDy_cell_0, 18) := ⟨by decide +kernel, (List.forall_mem_cons.mpr ⟨sLI1, (List.forall_mem_cons.mpr ⟨sLA0, (List.forall_mem_cons.mpr ⟨lDy_g37, (List.forall_mem_cons.mpr ⟨sMUL, (List.forall_mem_cons.mpr ⟨sC1, (List.forall_mem_cons.mpr ⟨sADD, (List.forall_mem_cons.mpr ⟨sLI2, (List.forall_mem_cons.mpr ⟨sLA0, (List.forall_mem_cons.mpr ⟨lDy_g33, (List.forall_mem_cons.mpr ⟨sMUL, (List.forall_mem_cons.mpr ⟨sADD, (List.forall_mem_cons.mpr ⟨sLI3, (List.forall_mem_cons.mpr ⟨sADD, (List.forall_mem_cons.mpr ⟨sRI, (fun _ h => absurd h List.not_mem_nil)⟩)⟩)⟩)⟩)⟩)⟩)⟩)⟩)⟩)⟩)⟩)⟩)⟩)⟩)⟩
theorem kDy_cell : ∀ q ∈ tDy_cell, Bok "HerbWaters$Days" prog_4_method_4_code q := (List.forall_mem_cons.mpr ⟨kDy_cell_0, (fun _ h => absurd h List.not_mem_nil)⟩)
theorem rDy_cell : mDy_cell.2.2.2 = some .int := rfl
def mDy_waterIn : Mt := (⟨"HerbWaters$Days", "waterIn", "(I)I"⟩, prog_4_method_5_code, 2, some .int)
theorem ok_Dy_waterIn : Mok mDy_waterIn := ⟨gtb_mem 553 (by decide +kernel) rfl, gtb_mem 99 (by decide +kernel) rfl, by decide +kernel, by decide⟩
def bDy_waterIn_0 : List Ir := [iLA0, (iGR 9 2 0), iLI1, iLA0, (iGI 37 2 8), iMUL, iIALD, iRI]
def tDy_waterIn : Tb := [(0, bDy_waterIn_0, 12)]
theorem fDy_waterIn_0 : tbf tDy_waterIn 0 = some (bDy_waterIn_0, 12) := rfl
theorem kDy_waterIn_0 : Bok "HerbWaters$Days" prog_4_method_5_code (0, bDy_waterIn_0, 12) := ⟨by decide +kernel, (List.forall_mem_cons.mpr ⟨sLA0, (List.forall_mem_cons.mpr ⟨lDy_g9, (List.forall_mem_cons.mpr ⟨sLI1, (List.forall_mem_cons.mpr ⟨sLA0, (List.forall_mem_cons.mpr ⟨lDy_g37, (List.forall_mem_cons.mpr ⟨sMUL, (List.forall_mem_cons.mpr ⟨sIALD, (List.forall_mem_cons.mpr ⟨sRI, (fun _ h => absurd h List.not_mem_nil)⟩)⟩)⟩)⟩)⟩)⟩)⟩)⟩)⟩
theorem kDy_waterIn : ∀ q ∈ tDy_waterIn, Bok "HerbWaters$Days" prog_4_method_5_code q := (List.forall_mem_cons.mpr ⟨kDy_waterIn_0, (fun _ h => absurd h List.not_mem_nil)⟩)
theorem rDy_waterIn : mDy_waterIn.2.2.2 = some .int := rfl
def mDy_herbIn : Mt := (⟨"HerbWaters$Days", "herbIn", "(II)I"⟩, prog_4_method_6_code, 6, some .int)
theorem ok_Dy_herbIn : Mok mDy_herbIn := ⟨gtb_mem 557 (by decide +kernel) rfl, gtb_mem 99 (by decide +kernel) rfl, by decide +kernel, by decide⟩
theorem lDy_v89 : Snd "HerbWaters$Days" (iCV3 89 2 mDy_cell) := sCV3 _ rfl rfl ok_Dy_cell (gtb_mem 559 (by decide +kernel) rfl) (gtb_mem 560 (by decide +kernel) rfl) (gtb_mem 558 (by decide +kernel) rfl)
def bDy_herbIn_0 : List Ir := [iLA0, iLI1, iLI2, iC0, (iCV3 89 2 mDy_cell), iSI3, iC0, iSI4, iC0, iSI5]
def bDy_herbIn_14 : List Ir := [iLI5, iLA0, (iGI 33 2 7), (iICge (23) 43)]
def bDy_herbIn_23 : List Ir := [iLI4, iLA0, (iGR 9 2 0), iLI3, iLI5, iADD, iIALD, iADD, iSI4, (iINC5 1), (iGO (-26) 14)]
def bDy_herbIn_43 : List Ir := [iLI4, iRI]
def tDy_herbIn : Tb := [(0, bDy_herbIn_0, 14), (14, bDy_herbIn_14, 23), (23, bDy_herbIn_23, 43), (43, bDy_herbIn_43, 46)]
theorem fDy_herbIn_0 : tbf tDy_herbIn 0 = some (bDy_herbIn_0, 14) := rfl
theorem fDy_herbIn_14 : tbf tDy_herbIn 14 = some (bDy_herbIn_14, 23) := rfl
theorem fDy_herbIn_23 : tbf tDy_herbIn 23 = some (bDy_herbIn_23, 43) := rfl
theorem fDy_herbIn_43 : tbf tDy_herbIn 43 = some (bDy_herbIn_43, 46) := rfl
theorem kDy_herbIn_0 : Bok "HerbWaters$Days" prog_4_method_6_code (0, bDy_herbIn_0, 14) := ⟨by decide +kernel, (List.forall_mem_cons.mpr ⟨sLA0, (List.forall_mem_cons.mpr ⟨sLI1, (List.forall_mem_cons.mpr ⟨sLI2, (List.forall_mem_cons.mpr ⟨sC0, (List.forall_mem_cons.mpr ⟨lDy_v89, (List.forall_mem_cons.mpr ⟨sSI3, (List.forall_mem_cons.mpr ⟨sC0, (List.forall_mem_cons.mpr ⟨sSI4, (List.forall_mem_cons.mpr ⟨sC0, (List.forall_mem_cons.mpr ⟨sSI5, (fun _ h => absurd h List.not_mem_nil)⟩)⟩)⟩)⟩)⟩)⟩)⟩)⟩)⟩)⟩)⟩
theorem kDy_herbIn_14 : Bok "HerbWaters$Days" prog_4_method_6_code (14, bDy_herbIn_14, 23) := ⟨by decide +kernel, (List.forall_mem_cons.mpr ⟨sLI5, (List.forall_mem_cons.mpr ⟨sLA0, (List.forall_mem_cons.mpr ⟨lDy_g33, (List.forall_mem_cons.mpr ⟨sICge, (fun _ h => absurd h List.not_mem_nil)⟩)⟩)⟩)⟩)⟩
theorem kDy_herbIn_23 : Bok "HerbWaters$Days" prog_4_method_6_code (23, bDy_herbIn_23, 43) := ⟨by decide +kernel, (List.forall_mem_cons.mpr ⟨sLI4, (List.forall_mem_cons.mpr ⟨sLA0, (List.forall_mem_cons.mpr ⟨lDy_g9, (List.forall_mem_cons.mpr ⟨sLI3, (List.forall_mem_cons.mpr ⟨sLI5, (List.forall_mem_cons.mpr ⟨sADD, (List.forall_mem_cons.mpr ⟨sIALD, (List.forall_mem_cons.mpr ⟨sADD, (List.forall_mem_cons.mpr ⟨sSI4, (List.forall_mem_cons.mpr ⟨sINC5, (List.forall_mem_cons.mpr ⟨sGO, (fun _ h => absurd h List.not_mem_nil)⟩)⟩)⟩)⟩)⟩)⟩)⟩)⟩)⟩)⟩)⟩)⟩
theorem kDy_herbIn_43 : Bok "HerbWaters$Days" prog_4_method_6_code (43, bDy_herbIn_43, 46) := ⟨by decide +kernel, (List.forall_mem_cons.mpr ⟨sLI4, (List.forall_mem_cons.mpr ⟨sRI, (fun _ h => absurd h List.not_mem_nil)⟩)⟩)⟩
theorem kDy_herbIn : ∀ q ∈ tDy_herbIn, Bok "HerbWaters$Days" prog_4_method_6_code q := (List.forall_mem_cons.mpr ⟨kDy_herbIn_0, (List.forall_mem_cons.mpr ⟨kDy_herbIn_14, (List.forall_mem_cons.mpr ⟨kDy_herbIn_23, (List.forall_mem_cons.mpr ⟨kDy_herbIn_43, (fun _ h => absurd h List.not_mem_nil)⟩)⟩)⟩)⟩)
theorem rDy_herbIn : mDy_herbIn.2.2.2 = some .int := rfl
def mDy_herbsIn : Mt := (⟨"HerbWaters$Days", "herbsIn", "(I)I"⟩, prog_4_method_7_code, 4, some .int)
theorem ok_Dy_herbsIn : Mok mDy_herbsIn := ⟨gtb_mem 1474 (by decide +kernel) rfl, gtb_mem 99 (by decide +kernel) rfl, by decide +kernel, by decide⟩
theorem lDy_v93 : Snd "HerbWaters$Days" (iCV2 93 2 mDy_herbIn) := sCV2 _ rfl rfl ok_Dy_herbIn (gtb_mem 555 (by decide +kernel) rfl) (gtb_mem 556 (by decide +kernel) rfl) (gtb_mem 554 (by decide +kernel) rfl)
def bDy_herbsIn_0 : List Ir := [iC0, iSI2, iC0, iSI3]
def bDy_herbsIn_4 : List Ir := [iLI3, iC3, (iICge (18) 24)]
def bDy_herbsIn_9 : List Ir := [iLI2, iLA0, iLI1, iLI3, (iCV2 93 2 mDy_herbIn), iADD, iSI2, (iINC3 1), (iGO (-17) 4)]
def bDy_herbsIn_24 : List Ir := [iLI2, iRI]
def tDy_herbsIn : Tb := [(0, bDy_herbsIn_0, 4), (4, bDy_herbsIn_4, 9), (9, bDy_herbsIn_9, 24), (24, bDy_herbsIn_24, 26)]
theorem fDy_herbsIn_0 : tbf tDy_herbsIn 0 = some (bDy_herbsIn_0, 4) := rfl
theorem fDy_herbsIn_4 : tbf tDy_herbsIn 4 = some (bDy_herbsIn_4, 9) := rfl
theorem fDy_herbsIn_9 : tbf tDy_herbsIn 9 = some (bDy_herbsIn_9, 24) := rfl
theorem fDy_herbsIn_24 : tbf tDy_herbsIn 24 = some (bDy_herbsIn_24, 26) := rfl
theorem kDy_herbsIn_0 : Bok "HerbWaters$Days" prog_4_method_7_code (0, bDy_herbsIn_0, 4) := ⟨by decide +kernel, (List.forall_mem_cons.mpr ⟨sC0, (List.forall_mem_cons.mpr ⟨sSI2, (List.forall_mem_cons.mpr ⟨sC0, (List.forall_mem_cons.mpr ⟨sSI3, (fun _ h => absurd h List.not_mem_nil)⟩)⟩)⟩)⟩)⟩
theorem kDy_herbsIn_4 : Bok "HerbWaters$Days" prog_4_method_7_code (4, bDy_herbsIn_4, 9) := ⟨by decide +kernel, (List.forall_mem_cons.mpr ⟨sLI3, (List.forall_mem_cons.mpr ⟨sC3, (List.forall_mem_cons.mpr ⟨sICge, (fun _ h => absurd h List.not_mem_nil)⟩)⟩)⟩)⟩
theorem kDy_herbsIn_9 : Bok "HerbWaters$Days" prog_4_method_7_code (9, bDy_herbsIn_9, 24) := ⟨by decide +kernel, (List.forall_mem_cons.mpr ⟨sLI2, (List.forall_mem_cons.mpr ⟨sLA0, (List.forall_mem_cons.mpr ⟨sLI1, (List.forall_mem_cons.mpr ⟨sLI3, (List.forall_mem_cons.mpr ⟨lDy_v93, (List.forall_mem_cons.mpr ⟨sADD, (List.forall_mem_cons.mpr ⟨sSI2, (List.forall_mem_cons.mpr ⟨sINC3, (List.forall_mem_cons.mpr ⟨sGO, (fun _ h => absurd h List.not_mem_nil)⟩)⟩)⟩)⟩)⟩)⟩)⟩)⟩)⟩)⟩
theorem kDy_herbsIn_24 : Bok "HerbWaters$Days" prog_4_method_7_code (24, bDy_herbsIn_24, 26) := ⟨by decide +kernel, (List.forall_mem_cons.mpr ⟨sLI2, (List.forall_mem_cons.mpr ⟨sRI, (fun _ h => absurd h List.not_mem_nil)⟩)⟩)⟩
theorem kDy_herbsIn : ∀ q ∈ tDy_herbsIn, Bok "HerbWaters$Days" prog_4_method_7_code q := (List.forall_mem_cons.mpr ⟨kDy_herbsIn_0, (List.forall_mem_cons.mpr ⟨kDy_herbsIn_4, (List.forall_mem_cons.mpr ⟨kDy_herbsIn_9, (List.forall_mem_cons.mpr ⟨kDy_herbsIn_24, (fun _ h => absurd h List.not_mem_nil)⟩)⟩)⟩)⟩)
theorem rDy_herbsIn : mDy_herbsIn.2.2.2 = some .int := rfl
def mDy_herbsInBasins : Mt := (⟨"HerbWaters$Days", "herbsInBasins", "()I"⟩, prog_4_method_8_code, 3, some .int)
theorem ok_Dy_herbsInBasins : Mok mDy_herbsInBasins := ⟨gtb_mem 1470 (by decide +kernel) rfl, gtb_mem 99 (by decide +kernel) rfl, by decide +kernel, by decide⟩
theorem lDy_v97 : Snd "HerbWaters$Days" (iCV1 97 2 mDy_herbsIn) := sCV1 _ rfl rfl ok_Dy_herbsIn (gtb_mem 1472 (by decide +kernel) rfl) (gtb_mem 1473 (by decide +kernel) rfl) (gtb_mem 1471 (by decide +kernel) rfl)
def bDy_herbsInBasins_0 : List Ir := [iC0, iSI1, iC0, iSI2]
def bDy_herbsInBasins_4 : List Ir := [iLI2, iLA0, (iGI 33 2 7), (iICge (17) 26)]
def bDy_herbsInBasins_12 : List Ir := [iLI1, iLA0, iLI2, (iCV1 97 2 mDy_herbsIn), iADD, iSI1, (iINC2 1), (iGO (-19) 4)]
def bDy_herbsInBasins_26 : List Ir := [iLI1, iRI]
def tDy_herbsInBasins : Tb := [(0, bDy_herbsInBasins_0, 4), (4, bDy_herbsInBasins_4, 12), (12, bDy_herbsInBasins_12, 26), (26, bDy_herbsInBasins_26, 28)]
theorem fDy_herbsInBasins_0 : tbf tDy_herbsInBasins 0 = some (bDy_herbsInBasins_0, 4) := rfl
theorem fDy_herbsInBasins_4 : tbf tDy_herbsInBasins 4 = some (bDy_herbsInBasins_4, 12) := rfl
theorem fDy_herbsInBasins_12 : tbf tDy_herbsInBasins 12 = some (bDy_herbsInBasins_12, 26) := rfl
theorem fDy_herbsInBasins_26 : tbf tDy_herbsInBasins 26 = some (bDy_herbsInBasins_26, 28) := rfl
theorem kDy_herbsInBasins_0 : Bok "HerbWaters$Days" prog_4_method_8_code (0, bDy_herbsInBasins_0, 4) := ⟨by decide +kernel, (List.forall_mem_cons.mpr ⟨sC0, (List.forall_mem_cons.mpr ⟨sSI1, (List.forall_mem_cons.mpr ⟨sC0, (List.forall_mem_cons.mpr ⟨sSI2, (fun _ h => absurd h List.not_mem_nil)⟩)⟩)⟩)⟩)⟩
theorem kDy_herbsInBasins_4 : Bok "HerbWaters$Days" prog_4_method_8_code (4, bDy_herbsInBasins_4, 12) := ⟨by decide +kernel, (List.forall_mem_cons.mpr ⟨sLI2, (List.forall_mem_cons.mpr ⟨sLA0, (List.forall_mem_cons.mpr ⟨lDy_g33, (List.forall_mem_cons.mpr ⟨sICge, (fun _ h => absurd h List.not_mem_nil)⟩)⟩)⟩)⟩)⟩
theorem kDy_herbsInBasins_12 : Bok "HerbWaters$Days" prog_4_method_8_code (12, bDy_herbsInBasins_12, 26) := ⟨by decide +kernel, (List.forall_mem_cons.mpr ⟨sLI1, (List.forall_mem_cons.mpr ⟨sLA0, (List.forall_mem_cons.mpr ⟨sLI2, (List.forall_mem_cons.mpr ⟨lDy_v97, (List.forall_mem_cons.mpr ⟨sADD, (List.forall_mem_cons.mpr ⟨sSI1, (List.forall_mem_cons.mpr ⟨sINC2, (List.forall_mem_cons.mpr ⟨sGO, (fun _ h => absurd h List.not_mem_nil)⟩)⟩)⟩)⟩)⟩)⟩)⟩)⟩)⟩
theorem kDy_herbsInBasins_26 : Bok "HerbWaters$Days" prog_4_method_8_code (26, bDy_herbsInBasins_26, 28) := ⟨by decide +kernel, (List.forall_mem_cons.mpr ⟨sLI1, (List.forall_mem_cons.mpr ⟨sRI, (fun _ h => absurd h List.not_mem_nil)⟩)⟩)⟩
theorem kDy_herbsInBasins : ∀ q ∈ tDy_herbsInBasins, Bok "HerbWaters$Days" prog_4_method_8_code q := (List.forall_mem_cons.mpr ⟨kDy_herbsInBasins_0, (List.forall_mem_cons.mpr ⟨kDy_herbsInBasins_4, (List.forall_mem_cons.mpr ⟨kDy_herbsInBasins_12, (List.forall_mem_cons.mpr ⟨kDy_herbsInBasins_26, (fun _ h => absurd h List.not_mem_nil)⟩)⟩)⟩)⟩)
theorem rDy_herbsInBasins : mDy_herbsInBasins.2.2.2 = some .int := rfl
def mDy_sumOf : Mt := (⟨"HerbWaters$Days", "sumOf", "([I)I"⟩, prog_4_method_9_code, 4, some .int)
theorem ok_Dy_sumOf : Mok mDy_sumOf := ⟨gtb_mem 1466 (by decide +kernel) rfl, gtb_mem 99 (by decide +kernel) rfl, by decide +kernel, by decide⟩
def bDy_sumOf_0 : List Ir := [iC0, iSI2, iC0, iSI3]
def bDy_sumOf_4 : List Ir := [iLI3, iLA1, iALEN, (iICge (15) 22)]
def bDy_sumOf_10 : List Ir := [iLI2, iLA1, iLI3, iIALD, iADD, iSI2, (iINC3 1), (iGO (-15) 4)]
def bDy_sumOf_22 : List Ir := [iLI2, iRI]
def tDy_sumOf : Tb := [(0, bDy_sumOf_0, 4), (4, bDy_sumOf_4, 10), (10, bDy_sumOf_10, 22), (22, bDy_sumOf_22, 24)]
theorem fDy_sumOf_0 : tbf tDy_sumOf 0 = some (bDy_sumOf_0, 4) := rfl
theorem fDy_sumOf_4 : tbf tDy_sumOf 4 = some (bDy_sumOf_4, 10) := rfl
theorem fDy_sumOf_10 : tbf tDy_sumOf 10 = some (bDy_sumOf_10, 22) := rfl
theorem fDy_sumOf_22 : tbf tDy_sumOf 22 = some (bDy_sumOf_22, 24) := rfl
theorem kDy_sumOf_0 : Bok "HerbWaters$Days" prog_4_method_9_code (0, bDy_sumOf_0, 4) := ⟨by decide +kernel, (List.forall_mem_cons.mpr ⟨sC0, (List.forall_mem_cons.mpr ⟨sSI2, (List.forall_mem_cons.mpr ⟨sC0, (List.forall_mem_cons.mpr ⟨sSI3, (fun _ h => absurd h List.not_mem_nil)⟩)⟩)⟩)⟩)⟩
theorem kDy_sumOf_4 : Bok "HerbWaters$Days" prog_4_method_9_code (4, bDy_sumOf_4, 10) := ⟨by decide +kernel, (List.forall_mem_cons.mpr ⟨sLI3, (List.forall_mem_cons.mpr ⟨sLA1, (List.forall_mem_cons.mpr ⟨sALEN, (List.forall_mem_cons.mpr ⟨sICge, (fun _ h => absurd h List.not_mem_nil)⟩)⟩)⟩)⟩)⟩
theorem kDy_sumOf_10 : Bok "HerbWaters$Days" prog_4_method_9_code (10, bDy_sumOf_10, 22) := ⟨by decide +kernel, (List.forall_mem_cons.mpr ⟨sLI2, (List.forall_mem_cons.mpr ⟨sLA1, (List.forall_mem_cons.mpr ⟨sLI3, (List.forall_mem_cons.mpr ⟨sIALD, (List.forall_mem_cons.mpr ⟨sADD, (List.forall_mem_cons.mpr ⟨sSI2, (List.forall_mem_cons.mpr ⟨sINC3, (List.forall_mem_cons.mpr ⟨sGO, (fun _ h => absurd h List.not_mem_nil)⟩)⟩)⟩)⟩)⟩)⟩)⟩)⟩)⟩
theorem kDy_sumOf_22 : Bok "HerbWaters$Days" prog_4_method_9_code (22, bDy_sumOf_22, 24) := ⟨by decide +kernel, (List.forall_mem_cons.mpr ⟨sLI2, (List.forall_mem_cons.mpr ⟨sRI, (fun _ h => absurd h List.not_mem_nil)⟩)⟩)⟩
theorem kDy_sumOf : ∀ q ∈ tDy_sumOf, Bok "HerbWaters$Days" prog_4_method_9_code q := (List.forall_mem_cons.mpr ⟨kDy_sumOf_0, (List.forall_mem_cons.mpr ⟨kDy_sumOf_4, (List.forall_mem_cons.mpr ⟨kDy_sumOf_10, (List.forall_mem_cons.mpr ⟨kDy_sumOf_22, (fun _ h => absurd h List.not_mem_nil)⟩)⟩)⟩)⟩)
theorem rDy_sumOf : mDy_sumOf.2.2.2 = some .int := rfl
def mDy_seen : Mt := (⟨"HerbWaters$Days", "seen", "()I"⟩, prog_4_method_10_code, 3, some .int)
theorem ok_Dy_seen : Mok mDy_seen := ⟨gtb_mem 1074 (by decide +kernel) rfl, gtb_mem 99 (by decide +kernel) rfl, by decide +kernel, by decide⟩
def bDy_seen_0 : List Ir := [iC0, iSI1, iC0, iSI2]
def bDy_seen_4 : List Ir := [iLI2, iC3, (iICge (30) 36)]
def bDy_seen_9 : List Ir := [iLI1, iLA0, (iGR 30 2 6), iC1, iLI2, iADD, iIALD, (iIFle (9) 27)]
def bDy_seen_21 : List Ir := [iC1, iLI2, iSHL, (iGO (4) 28)]
def bDy_seen_27 : List Ir := [iC0]
def bDy_seen_28 : List Ir := [iOR, iSI1, (iINC2 1), (iGO (-29) 4)]
def bDy_seen_36 : List Ir := [iLI1, iRI]
def tDy_seen : Tb := [(0, bDy_seen_0, 4), (4, bDy_seen_4, 9), (9, bDy_seen_9, 21), (21, bDy_seen_21, 27), (27, bDy_seen_27, 28), (28, bDy_seen_28, 36), (36, bDy_seen_36, 38)]
theorem fDy_seen_0 : tbf tDy_seen 0 = some (bDy_seen_0, 4) := rfl
theorem fDy_seen_4 : tbf tDy_seen 4 = some (bDy_seen_4, 9) := rfl
theorem fDy_seen_9 : tbf tDy_seen 9 = some (bDy_seen_9, 21) := rfl
theorem fDy_seen_21 : tbf tDy_seen 21 = some (bDy_seen_21, 27) := rfl
theorem fDy_seen_27 : tbf tDy_seen 27 = some (bDy_seen_27, 28) := rfl
theorem fDy_seen_28 : tbf tDy_seen 28 = some (bDy_seen_28, 36) := rfl
theorem fDy_seen_36 : tbf tDy_seen 36 = some (bDy_seen_36, 38) := rfl
theorem kDy_seen_0 : Bok "HerbWaters$Days" prog_4_method_10_code (0, bDy_seen_0, 4) := ⟨by decide +kernel, (List.forall_mem_cons.mpr ⟨sC0, (List.forall_mem_cons.mpr ⟨sSI1, (List.forall_mem_cons.mpr ⟨sC0, (List.forall_mem_cons.mpr ⟨sSI2, (fun _ h => absurd h List.not_mem_nil)⟩)⟩)⟩)⟩)⟩
theorem kDy_seen_4 : Bok "HerbWaters$Days" prog_4_method_10_code (4, bDy_seen_4, 9) := ⟨by decide +kernel, (List.forall_mem_cons.mpr ⟨sLI2, (List.forall_mem_cons.mpr ⟨sC3, (List.forall_mem_cons.mpr ⟨sICge, (fun _ h => absurd h List.not_mem_nil)⟩)⟩)⟩)⟩
theorem kDy_seen_9 : Bok "HerbWaters$Days" prog_4_method_10_code (9, bDy_seen_9, 21) := ⟨by decide +kernel, (List.forall_mem_cons.mpr ⟨sLI1, (List.forall_mem_cons.mpr ⟨sLA0, (List.forall_mem_cons.mpr ⟨lDy_g30, (List.forall_mem_cons.mpr ⟨sC1, (List.forall_mem_cons.mpr ⟨sLI2, (List.forall_mem_cons.mpr ⟨sADD, (List.forall_mem_cons.mpr ⟨sIALD, (List.forall_mem_cons.mpr ⟨sIFle, (fun _ h => absurd h List.not_mem_nil)⟩)⟩)⟩)⟩)⟩)⟩)⟩)⟩)⟩
theorem kDy_seen_21 : Bok "HerbWaters$Days" prog_4_method_10_code (21, bDy_seen_21, 27) := ⟨by decide +kernel, (List.forall_mem_cons.mpr ⟨sC1, (List.forall_mem_cons.mpr ⟨sLI2, (List.forall_mem_cons.mpr ⟨sSHL, (List.forall_mem_cons.mpr ⟨sGO, (fun _ h => absurd h List.not_mem_nil)⟩)⟩)⟩)⟩)⟩
theorem kDy_seen_27 : Bok "HerbWaters$Days" prog_4_method_10_code (27, bDy_seen_27, 28) := ⟨by decide +kernel, (List.forall_mem_cons.mpr ⟨sC0, (fun _ h => absurd h List.not_mem_nil)⟩)⟩
theorem kDy_seen_28 : Bok "HerbWaters$Days" prog_4_method_10_code (28, bDy_seen_28, 36) := ⟨by decide +kernel, (List.forall_mem_cons.mpr ⟨sOR, (List.forall_mem_cons.mpr ⟨sSI1, (List.forall_mem_cons.mpr ⟨sINC2, (List.forall_mem_cons.mpr ⟨sGO, (fun _ h => absurd h List.not_mem_nil)⟩)⟩)⟩)⟩)⟩
theorem kDy_seen_36 : Bok "HerbWaters$Days" prog_4_method_10_code (36, bDy_seen_36, 38) := ⟨by decide +kernel, (List.forall_mem_cons.mpr ⟨sLI1, (List.forall_mem_cons.mpr ⟨sRI, (fun _ h => absurd h List.not_mem_nil)⟩)⟩)⟩
theorem kDy_seen : ∀ q ∈ tDy_seen, Bok "HerbWaters$Days" prog_4_method_10_code q := (List.forall_mem_cons.mpr ⟨kDy_seen_0, (List.forall_mem_cons.mpr ⟨kDy_seen_4, (List.forall_mem_cons.mpr ⟨kDy_seen_9, (List.forall_mem_cons.mpr ⟨kDy_seen_21, (List.forall_mem_cons.mpr ⟨kDy_seen_27, (List.forall_mem_cons.mpr ⟨kDy_seen_28, (List.forall_mem_cons.mpr ⟨kDy_seen_36, (fun _ h => absurd h List.not_mem_nil)⟩)⟩)⟩)⟩)⟩)⟩)⟩)
theorem rDy_seen : mDy_seen.2.2.2 = some .int := rfl
def mDy_isPleased : Mt := (⟨"HerbWaters$Days", "isPleased", "(I)Z"⟩, prog_4_method_11_code, 2, some .boolean)
theorem ok_Dy_isPleased : Mok mDy_isPleased := ⟨gtb_mem 1021 (by decide +kernel) rfl, gtb_mem 99 (by decide +kernel) rfl, by decide +kernel, by decide⟩
def bDy_isPleased_0 : List Ir := [iLA0, (iGI 43 2 10), iLI1, iSHR, iC1, iAND, iC1, (iICne (7) 16)]
def bDy_isPleased_12 : List Ir := [iC1, (iGO (4) 17)]
def bDy_isPleased_16 : List Ir := [iC0]
def bDy_isPleased_17 : List Ir := [iRI]
def tDy_isPleased : Tb := [(0, bDy_isPleased_0, 12), (12, bDy_isPleased_12, 16), (16, bDy_isPleased_16, 17), (17, bDy_isPleased_17, 18)]
theorem fDy_isPleased_0 : tbf tDy_isPleased 0 = some (bDy_isPleased_0, 12) := rfl
theorem fDy_isPleased_12 : tbf tDy_isPleased 12 = some (bDy_isPleased_12, 16) := rfl
theorem fDy_isPleased_16 : tbf tDy_isPleased 16 = some (bDy_isPleased_16, 17) := rfl
theorem fDy_isPleased_17 : tbf tDy_isPleased 17 = some (bDy_isPleased_17, 18) := rfl
theorem kDy_isPleased_0 : Bok "HerbWaters$Days" prog_4_method_11_code (0, bDy_isPleased_0, 12) := ⟨by decide +kernel, (List.forall_mem_cons.mpr ⟨sLA0, (List.forall_mem_cons.mpr ⟨lDy_g43, (List.forall_mem_cons.mpr ⟨sLI1, (List.forall_mem_cons.mpr ⟨sSHR, (List.forall_mem_cons.mpr ⟨sC1, (List.forall_mem_cons.mpr ⟨sAND, (List.forall_mem_cons.mpr ⟨sC1, (List.forall_mem_cons.mpr ⟨sICne, (fun _ h => absurd h List.not_mem_nil)⟩)⟩)⟩)⟩)⟩)⟩)⟩)⟩)⟩
theorem kDy_isPleased_12 : Bok "HerbWaters$Days" prog_4_method_11_code (12, bDy_isPleased_12, 16) := ⟨by decide +kernel, (List.forall_mem_cons.mpr ⟨sC1, (List.forall_mem_cons.mpr ⟨sGO, (fun _ h => absurd h List.not_mem_nil)⟩)⟩)⟩
theorem kDy_isPleased_16 : Bok "HerbWaters$Days" prog_4_method_11_code (16, bDy_isPleased_16, 17) := ⟨by decide +kernel, (List.forall_mem_cons.mpr ⟨sC0, (fun _ h => absurd h List.not_mem_nil)⟩)⟩
theorem kDy_isPleased_17 : Bok "HerbWaters$Days" prog_4_method_11_code (17, bDy_isPleased_17, 18) := ⟨by decide +kernel, (List.forall_mem_cons.mpr ⟨sRI, (fun _ h => absurd h List.not_mem_nil)⟩)⟩
theorem kDy_isPleased : ∀ q ∈ tDy_isPleased, Bok "HerbWaters$Days" prog_4_method_11_code q := (List.forall_mem_cons.mpr ⟨kDy_isPleased_0, (List.forall_mem_cons.mpr ⟨kDy_isPleased_12, (List.forall_mem_cons.mpr ⟨kDy_isPleased_16, (List.forall_mem_cons.mpr ⟨kDy_isPleased_17, (fun _ h => absurd h List.not_mem_nil)⟩)⟩)⟩)⟩)
theorem rDy_isPleased : mDy_isPleased.2.2.2 = some .boolean := rfl
def mDy_isContrary : Mt := (⟨"HerbWaters$Days", "isContrary", "(I)Z"⟩, prog_4_method_12_code, 2, some .boolean)
theorem ok_Dy_isContrary : Mok mDy_isContrary := ⟨gtb_mem 1062 (by decide +kernel) rfl, gtb_mem 99 (by decide +kernel) rfl, by decide +kernel, by decide⟩
def bDy_isContrary_0 : List Ir := [iLA0, (iGI 46 2 11), iLI1, iSHR, iC1, iAND, iC1, (iICne (7) 16)]
def bDy_isContrary_12 : List Ir := [iC1, (iGO (4) 17)]
def bDy_isContrary_16 : List Ir := [iC0]
def bDy_isContrary_17 : List Ir := [iRI]
def tDy_isContrary : Tb := [(0, bDy_isContrary_0, 12), (12, bDy_isContrary_12, 16), (16, bDy_isContrary_16, 17), (17, bDy_isContrary_17, 18)]
theorem fDy_isContrary_0 : tbf tDy_isContrary 0 = some (bDy_isContrary_0, 12) := rfl
theorem fDy_isContrary_12 : tbf tDy_isContrary 12 = some (bDy_isContrary_12, 16) := rfl
theorem fDy_isContrary_16 : tbf tDy_isContrary 16 = some (bDy_isContrary_16, 17) := rfl
theorem fDy_isContrary_17 : tbf tDy_isContrary 17 = some (bDy_isContrary_17, 18) := rfl
theorem kDy_isContrary_0 : Bok "HerbWaters$Days" prog_4_method_12_code (0, bDy_isContrary_0, 12) := ⟨by decide +kernel, (List.forall_mem_cons.mpr ⟨sLA0, (List.forall_mem_cons.mpr ⟨lDy_g46, (List.forall_mem_cons.mpr ⟨sLI1, (List.forall_mem_cons.mpr ⟨sSHR, (List.forall_mem_cons.mpr ⟨sC1, (List.forall_mem_cons.mpr ⟨sAND, (List.forall_mem_cons.mpr ⟨sC1, (List.forall_mem_cons.mpr ⟨sICne, (fun _ h => absurd h List.not_mem_nil)⟩)⟩)⟩)⟩)⟩)⟩)⟩)⟩)⟩
theorem kDy_isContrary_12 : Bok "HerbWaters$Days" prog_4_method_12_code (12, bDy_isContrary_12, 16) := ⟨by decide +kernel, (List.forall_mem_cons.mpr ⟨sC1, (List.forall_mem_cons.mpr ⟨sGO, (fun _ h => absurd h List.not_mem_nil)⟩)⟩)⟩
theorem kDy_isContrary_16 : Bok "HerbWaters$Days" prog_4_method_12_code (16, bDy_isContrary_16, 17) := ⟨by decide +kernel, (List.forall_mem_cons.mpr ⟨sC0, (fun _ h => absurd h List.not_mem_nil)⟩)⟩
theorem kDy_isContrary_17 : Bok "HerbWaters$Days" prog_4_method_12_code (17, bDy_isContrary_17, 18) := ⟨by decide +kernel, (List.forall_mem_cons.mpr ⟨sRI, (fun _ h => absurd h List.not_mem_nil)⟩)⟩
theorem kDy_isContrary : ∀ q ∈ tDy_isContrary, Bok "HerbWaters$Days" prog_4_method_12_code q := (List.forall_mem_cons.mpr ⟨kDy_isContrary_0, (List.forall_mem_cons.mpr ⟨kDy_isContrary_12, (List.forall_mem_cons.mpr ⟨kDy_isContrary_16, (List.forall_mem_cons.mpr ⟨kDy_isContrary_17, (fun _ h => absurd h List.not_mem_nil)⟩)⟩)⟩)⟩)
theorem rDy_isContrary : mDy_isContrary.2.2.2 = some .boolean := rfl
