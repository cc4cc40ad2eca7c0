/-! code of the class; by program (wip/whole/gen_X.py) -/
theorem lAq_t214 : Snd "HerbWaters$Aqueduct" (iGS 214 0) := sGS (gtb_mem 1027 (by decide +kernel) rfl)
theorem lAq_g220 : Snd "HerbWaters$Aqueduct" (iGW 220 0) := sGW "HerbWaters" (List.mem_filter.mpr ⟨List.mem_of_getElem? (i := 2312) (by decide +kernel), rfl⟩)
theorem lAq_t223 : Snd "HerbWaters$Aqueduct" (iGS 223 1) := sGS (gtb_mem 1029 (by decide +kernel) rfl)
theorem lAq_t226 : Snd "HerbWaters$Aqueduct" (iGS 226 2) := sGS (gtb_mem 1031 (by decide +kernel) rfl)
theorem lAq_t229 : Snd "HerbWaters$Aqueduct" (iGS 229 3) := sGS (gtb_mem 1033 (by decide +kernel) rfl)
def bAq_lookInto_0 : List Ir := [iLA0, (iGR 34 0 5), (iGS 214 0), (iGW 220 0), iLI1, iIAST, iLA0, (iGR 34 0 5), (iGS 223 1), (iGW 220 0), iLI2, iIAST, iLA0, (iGR 34 0 5), (iGS 226 2), (iGW 220 0), iLI3, iIAST, iLA0, (iGR 34 0 5), (iGS 229 3), (iGW 220 0), iLI4, iIAST, iRV]
def tAq_lookInto : Tb := [(0, bAq_lookInto_0, 50)]
theorem fAq_lookInto_0 : tbf tAq_lookInto 0 = some (bAq_lookInto_0, 50) := rfl
theorem kAq_lookInto_0 : Bok "HerbWaters$Aqueduct" prog_2_method_17_code (0, bAq_lookInto_0, 50) := ⟨by decide +kernel, (List.forall_mem_cons.mpr ⟨sLA0, (List.forall_mem_cons.mpr ⟨lAq_g34, (List.forall_mem_cons.mpr ⟨lAq_t214, (List.forall_mem_cons.mpr ⟨lAq_g220, (List.forall_mem_cons.mpr ⟨sLI1, (List.forall_mem_cons.mpr ⟨sIAST, (List.forall_mem_cons.mpr ⟨sLA0, (List.forall_mem_cons.mpr ⟨lAq_g34, (List.forall_mem_cons.mpr ⟨lAq_t223, (List.forall_mem_cons.mpr ⟨lAq_g220, (List.forall_mem_cons.mpr ⟨sLI2, (List.forall_mem_cons.mpr ⟨sIAST, (List.forall_mem_cons.mpr ⟨sLA0, (List.forall_mem_cons.mpr ⟨lAq_g34, (List.forall_mem_cons.mpr ⟨lAq_t226, (List.forall_mem_cons.mpr ⟨lAq_g220, (List.forall_mem_cons.mpr ⟨sLI3, (List.forall_mem_cons.mpr ⟨sIAST, (List.forall_mem_cons.mpr ⟨sLA0, (List.forall_mem_cons.mpr ⟨lAq_g34, (List.forall_mem_cons.mpr ⟨lAq_t229, (List.forall_mem_cons.mpr ⟨lAq_g220, (List.forall_mem_cons.mpr ⟨sLI4, (List.forall_mem_cons.mpr ⟨sIAST, (List.forall_mem_cons.mpr ⟨sRV, (fun _ h => absurd h List.not_mem_nil)⟩)⟩)⟩)⟩)⟩)⟩)⟩)⟩)⟩)⟩)⟩)⟩)⟩)⟩)⟩)⟩)⟩)⟩)⟩)⟩)⟩)⟩)⟩)⟩)⟩)⟩
theorem kAq_lookInto : ∀ q ∈ tAq_lookInto, Bok "HerbWaters$Aqueduct" prog_2_method_17_code q := (List.forall_mem_cons.mpr ⟨kAq_lookInto_0, (fun _ h => absurd h List.not_mem_nil)⟩)
theorem rAq_lookInto : mAq_lookInto.2.2.2 = none := rfl
theorem lAq_t232 : Snd "HerbWaters$Aqueduct" (iGS 232 4) := sGS (gtb_mem 1041 (by decide +kernel) rfl)
theorem lAq_t235 : Snd "HerbWaters$Aqueduct" (iGS 235 5) := sGS (gtb_mem 1043 (by decide +kernel) rfl)
theorem lAq_t238 : Snd "HerbWaters$Aqueduct" (iGS 238 6) := sGS (gtb_mem 1045 (by decide +kernel) rfl)
def bAq_lookAround_0 : List Ir := [iLA0, (iGR 34 0 5), (iGS 232 4), (iGW 220 0), iLI2, iIAST, iLA0, (iGR 34 0 5), (iGS 235 5), (iGW 220 0), iLI3, iIAST, iLA0, (iGR 34 0 5), (iGS 238 6), (iGW 220 0), iLA0, (iGR 12 0 0), (iGR 140 9 1), iLI1, iIALD, iIAST, iRV]
def tAq_lookAround : Tb := [(0, bAq_lookAround_0, 45)]
theorem fAq_lookAround_0 : tbf tAq_lookAround 0 = some (bAq_lookAround_0, 45) := rfl
theorem kAq_lookAround_0 : Bok "HerbWaters$Aqueduct" prog_2_method_18_code (0, bAq_lookAround_0, 45) := ⟨by decide +kernel, (List.forall_mem_cons.mpr ⟨sLA0, (List.forall_mem_cons.mpr ⟨lAq_g34, (List.forall_mem_cons.mpr ⟨lAq_t232, (List.forall_mem_cons.mpr ⟨lAq_g220, (List.forall_mem_cons.mpr ⟨sLI2, (List.forall_mem_cons.mpr ⟨sIAST, (List.forall_mem_cons.mpr ⟨sLA0, (List.forall_mem_cons.mpr ⟨lAq_g34, (List.forall_mem_cons.mpr ⟨lAq_t235, (List.forall_mem_cons.mpr ⟨lAq_g220, (List.forall_mem_cons.mpr ⟨sLI3, (List.forall_mem_cons.mpr ⟨sIAST, (List.forall_mem_cons.mpr ⟨sLA0, (List.forall_mem_cons.mpr ⟨lAq_g34, (List.forall_mem_cons.mpr ⟨lAq_t238, (List.forall_mem_cons.mpr ⟨lAq_g220, (List.forall_mem_cons.mpr ⟨sLA0, (List.forall_mem_cons.mpr ⟨lAq_g12, (List.forall_mem_cons.mpr ⟨lAq_g140, (List.forall_mem_cons.mpr ⟨sLI1, (List.forall_mem_cons.mpr ⟨sIALD, (List.forall_mem_cons.mpr ⟨sIAST, (List.forall_mem_cons.mpr ⟨sRV, (fun _ h => absurd h List.not_mem_nil)⟩)⟩)⟩)⟩)⟩)⟩)⟩)⟩)⟩)⟩)⟩)⟩)⟩)⟩)⟩)⟩)⟩)⟩)⟩)⟩)⟩)⟩)⟩)⟩
theorem kAq_lookAround : ∀ q ∈ tAq_lookAround, Bok "HerbWaters$Aqueduct" prog_2_method_18_code q := (List.forall_mem_cons.mpr ⟨kAq_lookAround_0, (fun _ h => absurd h List.not_mem_nil)⟩)
theorem rAq_lookAround : mAq_lookAround.2.2.2 = none := rfl
def mAq_thinkOf : Mt := (⟨"HerbWaters$Aqueduct", "thinkOf", "(III[I)V"⟩, prog_2_method_19_code, 5, none)
theorem ok_Aq_thinkOf : Mok mAq_thinkOf := ⟨gtb_mem 1493 (by decide +kernel) rfl, gtb_mem 95 (by decide +kernel) rfl, by decide +kernel, by decide⟩
def bAq_thinkOf_0 : List Ir := [iLA0, iLI1, iLI2, iLI3, (iCV3 197 0 mAq_lookAround), iLA0, (iGR 20 0 1), iLI1, iAALD106, iLA0, (iGR 34 0 5), iLA0, (iGR 12 0 0), (iGR 201 9 4), iLI1, iIALD, iC1, (iICne (7) 34)]
def bAq_thinkOf_30 : List Ir := [iC1, (iGO (4) 35)]
def bAq_thinkOf_34 : List Ir := [iC0]
def bAq_thinkOf_35 : List Ir := [iLA4, (iCV3 204 5 mOp_think), iRV]
def tAq_thinkOf : Tb := [(0, bAq_thinkOf_0, 30), (30, bAq_thinkOf_30, 34), (34, bAq_thinkOf_34, 35), (35, bAq_thinkOf_35, 41)]
theorem fAq_thinkOf_0 : tbf tAq_thinkOf 0 = some (bAq_thinkOf_0, 30) := rfl
theorem fAq_thinkOf_30 : tbf tAq_thinkOf 30 = some (bAq_thinkOf_30, 34) := rfl
theorem fAq_thinkOf_34 : tbf tAq_thinkOf 34 = some (bAq_thinkOf_34, 35) := rfl
theorem fAq_thinkOf_35 : tbf tAq_thinkOf 35 = some (bAq_thinkOf_35, 41) := rfl
theorem kAq_thinkOf_0 : Bok "HerbWaters$Aqueduct" prog_2_method_19_code (0, bAq_thinkOf_0, 30) := ⟨by decide +kernel, (List.forall_mem_cons.mpr ⟨sLA0, (List.forall_mem_cons.mpr ⟨sLI1, (List.forall_mem_cons.mpr ⟨sLI2, (List.forall_mem_cons.mpr ⟨sLI3, (List.forall_mem_cons.mpr ⟨lAq_v197, (List.forall_mem_cons.mpr ⟨sLA0, (List.forall_mem_cons.mpr ⟨lAq_g20, (List.forall_mem_cons.mpr ⟨sLI1, (List.forall_mem_cons.mpr ⟨sAALD106, (List.forall_mem_cons.mpr ⟨sLA0, (List.forall_mem_cons.mpr ⟨lAq_g34, (List.forall_mem_cons.mpr ⟨sLA0, (List.forall_mem_cons.mpr ⟨lAq_g12, (List.forall_mem_cons.mpr ⟨lAq_g201, (List.forall_mem_cons.mpr ⟨sLI1, (List.forall_mem_cons.mpr ⟨sIALD, (List.forall_mem_cons.mpr ⟨sC1, (List.forall_mem_cons.mpr ⟨sICne, (fun _ h => absurd h List.not_mem_nil)⟩)⟩)⟩)⟩)⟩)⟩)⟩)⟩)⟩)⟩)⟩)⟩)⟩)⟩)⟩)⟩)⟩)⟩)⟩
theorem kAq_thinkOf_30 : Bok "HerbWaters$Aqueduct" prog_2_method_19_code (30, bAq_thinkOf_30, 34) := ⟨by decide +kernel, (List.forall_mem_cons.mpr ⟨sC1, (List.forall_mem_cons.mpr ⟨sGO, (fun _ h => absurd h List.not_mem_nil)⟩)⟩)⟩
theorem kAq_thinkOf_34 : Bok "HerbWaters$Aqueduct" prog_2_method_19_code (34, bAq_thinkOf_34, 35) := ⟨by decide +kernel, (List.forall_mem_cons.mpr ⟨sC0, (fun _ h => absurd h List.not_mem_nil)⟩)⟩
theorem kAq_thinkOf_35 : Bok "HerbWaters$Aqueduct" prog_2_method_19_code (35, bAq_thinkOf_35, 41) := ⟨by decide +kernel, (List.forall_mem_cons.mpr ⟨sLA4, (List.forall_mem_cons.mpr ⟨lAq_v204, (List.forall_mem_cons.mpr ⟨sRV, (fun _ h => absurd h List.not_mem_nil)⟩)⟩)⟩)⟩
theorem kAq_thinkOf : ∀ q ∈ tAq_thinkOf, Bok "HerbWaters$Aqueduct" prog_2_method_19_code q := (List.forall_mem_cons.mpr ⟨kAq_thinkOf_0, (List.forall_mem_cons.mpr ⟨kAq_thinkOf_30, (List.forall_mem_cons.mpr ⟨kAq_thinkOf_34, (List.forall_mem_cons.mpr ⟨kAq_thinkOf_35, (fun _ h => absurd h List.not_mem_nil)⟩)⟩)⟩)⟩)
theorem rAq_thinkOf : mAq_thinkOf.2.2.2 = none := rfl
theorem lAq_g241 : Snd "HerbWaters$Aqueduct" (iGR 241 2 3) := sGRN _ rfl "HerbWaters" (List.mem_filter.mpr ⟨List.mem_of_getElem? (i := 323) (by decide +kernel), rfl⟩)
def bAq_addFresh_0 : List Ir := [iC0, iSI2]
def bAq_addFresh_2 : List Ir := [iLI2, iLA1, (iGI 67 2 7), (iICge (84) 91)]
def bAq_addFresh_10 : List Ir := [iLA1, (iGR 194 2 2), iLI2, iC0, iIAST, iC0, iSI3]
def bAq_addFresh_19 : List Ir := [iLI3, iC3, (iICge (64) 85)]
def bAq_addFresh_24 : List Ir := [iLA0, (iGR 28 0 3), iLI2, iC3, iMUL, iLI3, iADD, iIALD, iSI4, iLA1, (iGR 105 2 0), iLA1, iLI2, iLI3, iLI2, (iCV3 123 2 mDy_cell), iDUP2, iIALD, iLI4, iADD, iIAST, iLA1, (iGR 241 2 3), iLI2, iC3, iMUL, iLI3, iADD, iDUP2, iIALD, iLI4, iADD, iIAST, iLA1, (iGR 194 2 2), iLI2, iDUP2, iIALD, iLI4, iADD, iIAST, (iINC3 1), (iGO (-63) 19)]
def bAq_addFresh_85 : List Ir := [(iINC2 1), (iGO (-86) 2)]
def bAq_addFresh_91 : List Ir := [iRV]
def tAq_addFresh : Tb := [(0, bAq_addFresh_0, 2), (2, bAq_addFresh_2, 10), (10, bAq_addFresh_10, 19), (19, bAq_addFresh_19, 24), (24, bAq_addFresh_24, 85), (85, bAq_addFresh_85, 91), (91, bAq_addFresh_91, 92)]
theorem fAq_addFresh_0 : tbf tAq_addFresh 0 = some (bAq_addFresh_0, 2) := rfl
theorem fAq_addFresh_2 : tbf tAq_addFresh 2 = some (bAq_addFresh_2, 10) := rfl
theorem fAq_addFresh_10 : tbf tAq_addFresh 10 = some (bAq_addFresh_10, 19) := rfl
theorem fAq_addFresh_19 : tbf tAq_addFresh 19 = some (bAq_addFresh_19, 24) := rfl
theorem fAq_addFresh_24 : tbf tAq_addFresh 24 = some (bAq_addFresh_24, 85) := rfl
theorem fAq_addFresh_85 : tbf tAq_addFresh 85 = some (bAq_addFresh_85, 91) := rfl
theorem fAq_addFresh_91 : tbf tAq_addFresh 91 = some (bAq_addFresh_91, 92) := rfl
theorem kAq_addFresh_0 : Bok "HerbWaters$Aqueduct" prog_2_method_20_code (0, bAq_addFresh_0, 2) := ⟨by decide +kernel, (List.forall_mem_cons.mpr ⟨sC0, (List.forall_mem_cons.mpr ⟨sSI2, (fun _ h => absurd h List.not_mem_nil)⟩)⟩)⟩
theorem kAq_addFresh_2 : Bok "HerbWaters$Aqueduct" prog_2_method_20_code (2, bAq_addFresh_2, 10) := ⟨by decide +kernel, (List.forall_mem_cons.mpr ⟨sLI2, (List.forall_mem_cons.mpr ⟨sLA1, (List.forall_mem_cons.mpr ⟨lAq_g67, (List.forall_mem_cons.mpr ⟨sICge, (fun _ h => absurd h List.not_mem_nil)⟩)⟩)⟩)⟩)⟩
theorem kAq_addFresh_10 : Bok "HerbWaters$Aqueduct" prog_2_method_20_code (10, bAq_addFresh_10, 19) := ⟨by decide +kernel, (List.forall_mem_cons.mpr ⟨sLA1, (List.forall_mem_cons.mpr ⟨lAq_g194, (List.forall_mem_cons.mpr ⟨sLI2, (List.forall_mem_cons.mpr ⟨sC0, (List.forall_mem_cons.mpr ⟨sIAST, (List.forall_mem_cons.mpr ⟨sC0, (List.forall_mem_cons.mpr ⟨sSI3, (fun _ h => absurd h List.not_mem_nil)⟩)⟩)⟩)⟩)⟩)⟩)⟩)⟩
theorem kAq_addFresh_19 : Bok "HerbWaters$Aqueduct" prog_2_method_20_code (19, bAq_addFresh_19, 24) := ⟨by decide +kernel, (List.forall_mem_cons.mpr ⟨sLI3, (List.forall_mem_cons.mpr ⟨sC3, (List.forall_mem_cons.mpr ⟨sICge, (fun _ h => absurd h List.not_mem_nil)⟩)⟩)⟩)⟩
theorem kAq_addFresh_24 : Bok "HerbWaters$Aqueduct" prog_2_method_20_code (24, bAq_addFresh_24, 85) := ⟨by decide +kernel, (List.forall_mem_cons.mpr ⟨sLA0, (List.forall_mem_cons.mpr ⟨lAq_g28, (List.forall_mem_cons.mpr ⟨sLI2, (List.forall_mem_cons.mpr ⟨sC3, (List.forall_mem_cons.mpr ⟨sMUL, (List.forall_mem_cons.mpr ⟨sLI3, (List.forall_mem_cons.mpr ⟨sADD, (List.forall_mem_cons.mpr ⟨sIALD, (List.forall_mem_cons.mpr ⟨sSI4, (List.forall_mem_cons.mpr ⟨sLA1, (List.forall_mem_cons.mpr ⟨lAq_g105, (List.forall_mem_cons.mpr ⟨sLA1, (List.forall_mem_cons.mpr ⟨sLI2, (List.forall_mem_cons.mpr ⟨sLI3, (List.forall_mem_cons.mpr ⟨sLI2, (List.forall_mem_cons.mpr ⟨lAq_v123, (List.forall_mem_cons.mpr ⟨sDUP2, (List.forall_mem_cons.mpr ⟨sIALD, (List.forall_mem_cons.mpr ⟨sLI4, (List.forall_mem_cons.mpr ⟨sADD, (List.forall_mem_cons.mpr ⟨sIAST, (List.forall_mem_cons.mpr ⟨sLA1, (List.forall_mem_cons.mpr ⟨lAq_g241, (List.forall_mem_cons.mpr ⟨sLI2, (List.forall_mem_cons.mpr ⟨sC3, (List.forall_mem_cons.mpr ⟨sMUL, (List.forall_mem_cons.mpr ⟨sLI3, (List.forall_mem_cons.mpr ⟨sADD, (List.forall_mem_cons.mpr ⟨sDUP2, (List.forall_mem_cons.mpr ⟨sIALD, (List.forall_mem_cons.mpr ⟨sLI4, (List.forall_mem_cons.mpr ⟨sADD, (List.forall_mem_cons.mpr ⟨sIAST, (List.forall_mem_cons.mpr ⟨sLA1, (List.forall_mem_cons.mpr ⟨lAq_g194, (List.forall_mem_cons.mpr ⟨sLI2, (List.forall_mem_cons.mpr ⟨sDUP2, (List.forall_mem_cons.mpr ⟨sIALD, (List.forall_mem_cons.mpr ⟨sLI4, (List.forall_mem_cons.mpr ⟨sADD, (List.forall_mem_cons.mpr ⟨sIAST, (List.forall_mem_cons.mpr ⟨sINC3, (List.forall_mem_cons.mpr ⟨sGO, (fun _ h => absurd h List.not_mem_nil)⟩)⟩)⟩)⟩)⟩)⟩)⟩)⟩)⟩)⟩)⟩)⟩)⟩)⟩)⟩)⟩)⟩)⟩)⟩)⟩)⟩)⟩)⟩)⟩)⟩)⟩)⟩)⟩)⟩)⟩)⟩)⟩)⟩)⟩)⟩)⟩)⟩)⟩)⟩)⟩)⟩)⟩)⟩)⟩
theorem kAq_addFresh_85 : Bok "HerbWaters$Aqueduct" prog_2_method_20_code (85, bAq_addFresh_85, 91) := ⟨by decide +kernel, (List.forall_mem_cons.mpr ⟨sINC2, (List.forall_mem_cons.mpr ⟨sGO, (fun _ h => absurd h List.not_mem_nil)⟩)⟩)⟩
theorem kAq_addFresh_91 : Bok "HerbWaters$Aqueduct" prog_2_method_20_code (91, bAq_addFresh_91, 92) := ⟨by decide +kernel, (List.forall_mem_cons.mpr ⟨sRV, (fun _ h => absurd h List.not_mem_nil)⟩)⟩
theorem kAq_addFresh : ∀ q ∈ tAq_addFresh, Bok "HerbWaters$Aqueduct" prog_2_method_20_code q := (List.forall_mem_cons.mpr ⟨kAq_addFresh_0, (List.forall_mem_cons.mpr ⟨kAq_addFresh_2, (List.forall_mem_cons.mpr ⟨kAq_addFresh_10, (List.forall_mem_cons.mpr ⟨kAq_addFresh_19, (List.forall_mem_cons.mpr ⟨kAq_addFresh_24, (List.forall_mem_cons.mpr ⟨kAq_addFresh_85, (List.forall_mem_cons.mpr ⟨kAq_addFresh_91, (fun _ h => absurd h List.not_mem_nil)⟩)⟩)⟩)⟩)⟩)⟩)⟩)
theorem rAq_addFresh : mAq_addFresh.2.2.2 = none := rfl
def mFo_after : Mt := (⟨"HerbWaters$Foresight", "after", "(LHerbWaters$Days;I)LHerbWaters$Days;"⟩, prog_6_method_2_code, 3, some (.object "HerbWaters$Days"))
theorem ok_Fo_after : Mok mFo_after := ⟨gtb_mem 1504 (by decide +kernel) rfl, gtb_mem 98 (by decide +kernel) rfl, by decide +kernel, by decide⟩
theorem lFo_g12 : Snd "HerbWaters$Foresight" (iGR 12 4 1) := sGR _ rfl (gtb_mem 408 (by decide +kernel) rfl)
theorem lFo_v36 : Snd "HerbWaters$Foresight" (iCV1 36 2 mDy_copyFrom) := sCV1 _ rfl rfl ok_Dy_copyFrom (gtb_mem 572 (by decide +kernel) rfl) (gtb_mem 573 (by decide +kernel) rfl) (gtb_mem 662 (by decide +kernel) rfl)
def mFo_go : Mt := (⟨"HerbWaters$Foresight", "go", "(I)V"⟩, prog_6_method_3_code, 3, none)
theorem ok_Fo_go : Mok mFo_go := ⟨gtb_mem 666 (by decide +kernel) rfl, gtb_mem 98 (by decide +kernel) rfl, by decide +kernel, by decide⟩
theorem lFo_v40 : Snd "HerbWaters$Foresight" (iCV1 40 4 mFo_go) := sCV1 _ rfl rfl ok_Fo_go (gtb_mem 665 (by decide +kernel) rfl) (gtb_mem 1 (by decide +kernel) rfl) (gtb_mem 663 (by decide +kernel) rfl)
def bFo_after_0 : List Ir := [iLA0, (iGR 12 4 1), iLA1, (iCV1 36 2 mDy_copyFrom), iLA0, iLI2, (iCV1 40 4 mFo_go), iLA0, (iGR 12 4 1), iRA]
def tFo_after : Tb := [(0, bFo_after_0, 18)]
theorem fFo_after_0 : tbf tFo_after 0 = some (bFo_after_0, 18) := rfl
theorem kFo_after_0 : Bok "HerbWaters$Foresight" prog_6_method_2_code (0, bFo_after_0, 18) := ⟨by decide +kernel, (List.forall_mem_cons.mpr ⟨sLA0, (List.forall_mem_cons.mpr ⟨lFo_g12, (List.forall_mem_cons.mpr ⟨sLA1, (List.forall_mem_cons.mpr ⟨lFo_v36, (List.forall_mem_cons.mpr ⟨sLA0, (List.forall_mem_cons.mpr ⟨sLI2, (List.forall_mem_cons.mpr ⟨lFo_v40, (List.forall_mem_cons.mpr ⟨sLA0, (List.forall_mem_cons.mpr ⟨lFo_g12, (List.forall_mem_cons.mpr ⟨sRA, (fun _ h => absurd h List.not_mem_nil)⟩)⟩)⟩)⟩)⟩)⟩)⟩)⟩)⟩)⟩)⟩
theorem kFo_after : ∀ q ∈ tFo_after, Bok "HerbWaters$Foresight" prog_6_method_2_code q := (List.forall_mem_cons.mpr ⟨kFo_after_0, (fun _ h => absurd h List.not_mem_nil)⟩)
theorem rFo_after : mFo_after.2.2.2 = some (.object "HerbWaters$Days") := rfl
theorem lFo_g32 : Snd "HerbWaters$Foresight" (iGR 32 4 0) := sGR _ rfl (gtb_mem 407 (by decide +kernel) rfl)
theorem lFo_v44 : Snd "HerbWaters$Foresight" (iCV1 44 0 mAq_goDay) := sCV1 _ rfl rfl ok_Aq_goDay (gtb_mem 668 (by decide +kernel) rfl) (gtb_mem 669 (by decide +kernel) rfl) (gtb_mem 667 (by decide +kernel) rfl)
def bFo_go_0 : List Ir := [iC0, iSI2]
def bFo_go_2 : List Ir := [iLI2, iLI1, (iICge (20) 24)]
def bFo_go_7 : List Ir := [iLA0, (iGR 32 4 0), iLA0, (iGR 12 4 1), (iCV1 44 0 mAq_goDay), (iINC2 1), (iGO (-19) 2)]
def bFo_go_24 : List Ir := [iRV]
def tFo_go : Tb := [(0, bFo_go_0, 2), (2, bFo_go_2, 7), (7, bFo_go_7, 24), (24, bFo_go_24, 25)]
theorem fFo_go_0 : tbf tFo_go 0 = some (bFo_go_0, 2) := rfl
theorem fFo_go_2 : tbf tFo_go 2 = some (bFo_go_2, 7) := rfl
theorem fFo_go_7 : tbf tFo_go 7 = some (bFo_go_7, 24) := rfl
theorem fFo_go_24 : tbf tFo_go 24 = some (bFo_go_24, 25) := rfl
theorem kFo_go_0 : Bok "HerbWaters$Foresight" prog_6_method_3_code (0, bFo_go_0, 2) := ⟨by decide +kernel, (List.forall_mem_cons.mpr ⟨sC0, (List.forall_mem_cons.mpr ⟨sSI2, (fun _ h => absurd h List.not_mem_nil)⟩)⟩)⟩
theorem kFo_go_2 : Bok "HerbWaters$Foresight" prog_6_method_3_code (2, bFo_go_2, 7) := ⟨by decide +kernel, (List.forall_mem_cons.mpr ⟨sLI2, (List.forall_mem_cons.mpr ⟨sLI1, (List.forall_mem_cons.mpr ⟨sICge, (fun _ h => absurd h List.not_mem_nil)⟩)⟩)⟩)⟩
theorem kFo_go_7 : Bok "HerbWaters$Foresight" prog_6_method_3_code (7, bFo_go_7, 24) := ⟨by decide +kernel, (List.forall_mem_cons.mpr ⟨sLA0, (List.forall_mem_cons.mpr ⟨lFo_g32, (List.forall_mem_cons.mpr ⟨sLA0, (List.forall_mem_cons.mpr ⟨lFo_g12, (List.forall_mem_cons.mpr ⟨lFo_v44, (List.forall_mem_cons.mpr ⟨sINC2, (List.forall_mem_cons.mpr ⟨sGO, (fun _ h => absurd h List.not_mem_nil)⟩)⟩)⟩)⟩)⟩)⟩)⟩)⟩
theorem kFo_go_24 : Bok "HerbWaters$Foresight" prog_6_method_3_code (24, bFo_go_24, 25) := ⟨by decide +kernel, (List.forall_mem_cons.mpr ⟨sRV, (fun _ h => absurd h List.not_mem_nil)⟩)⟩
theorem kFo_go : ∀ q ∈ tFo_go, Bok "HerbWaters$Foresight" prog_6_method_3_code q := (List.forall_mem_cons.mpr ⟨kFo_go_0, (List.forall_mem_cons.mpr ⟨kFo_go_2, (List.forall_mem_cons.mpr ⟨kFo_go_7, (List.forall_mem_cons.mpr ⟨kFo_go_24, (fun _ h => absurd h List.not_mem_nil)⟩)⟩)⟩)⟩)
theorem rFo_go : mFo_go.2.2.2 = none := rfl
def mFo_firstSeen : Mt := (⟨"HerbWaters$Foresight", "firstSeen", "(LHerbWaters$Days;I)I"⟩, prog_6_method_4_code, 4, some .int)
theorem ok_Fo_firstSeen : Mok mFo_firstSeen := ⟨gtb_mem 1522 (by decide +kernel) rfl, gtb_mem 98 (by decide +kernel) rfl, by decide +kernel, by decide⟩
theorem lFo_v49 : Snd "HerbWaters$Foresight" (iCV0 49 2 mDy_seen) := sCV0 _ rfl rfl ok_Dy_seen (gtb_mem 1072 (by decide +kernel) rfl) (gtb_mem 1073 (by decide +kernel) rfl) (gtb_mem 1071 (by decide +kernel) rfl)
def bFo_firstSeen_0 : List Ir := [iLA0, (iGR 12 4 1), iLA1, (iCV1 36 2 mDy_copyFrom), iC1, iSI3]
def bFo_firstSeen_10 : List Ir := [iLI3, (iBP 99), (iICgt (33) 46)]
def bFo_firstSeen_16 : List Ir := [iLA0, (iGR 32 4 0), iLA0, (iGR 12 4 1), (iCV1 44 0 mAq_goDay), iLA0, (iGR 12 4 1), (iCV0 49 2 mDy_seen), iLI2, (iICne (5) 40)]
def bFo_firstSeen_38 : List Ir := [iLI3, iRI]
def bFo_firstSeen_40 : List Ir := [(iINC3 1), (iGO (-33) 10)]
def bFo_firstSeen_46 : List Ir := [iCm1, iRI]
def tFo_firstSeen : Tb := [(0, bFo_firstSeen_0, 10), (10, bFo_firstSeen_10, 16), (16, bFo_firstSeen_16, 38), (38, bFo_firstSeen_38, 40), (40, bFo_firstSeen_40, 46), (46, bFo_firstSeen_46, 48)]
theorem fFo_firstSeen_0 : tbf tFo_firstSeen 0 = some (bFo_firstSeen_0, 10) := rfl
theorem fFo_firstSeen_10 : tbf tFo_firstSeen 10 = some (bFo_firstSeen_10, 16) := rfl
theorem fFo_firstSeen_16 : tbf tFo_firstSeen 16 = some (bFo_firstSeen_16, 38) := rfl
theorem fFo_firstSeen_38 : tbf tFo_firstSeen 38 = some (bFo_firstSeen_38, 40) := rfl
theorem fFo_firstSeen_40 : tbf tFo_firstSeen 40 = some (bFo_firstSeen_40, 46) := rfl
theorem fFo_firstSeen_46 : tbf tFo_firstSeen 46 = some (bFo_firstSeen_46, 48) := rfl
theorem kFo_firstSeen_0 : Bok "HerbWaters$Foresight" prog_6_method_4_code (0, bFo_firstSeen_0, 10) := ⟨by decide +kernel, (List.forall_mem_cons.mpr ⟨sLA0, (List.forall_mem_cons.mpr ⟨lFo_g12, (List.forall_mem_cons.mpr ⟨sLA1, (List.forall_mem_cons.mpr ⟨lFo_v36, (List.forall_mem_cons.mpr ⟨sC1, (List.forall_mem_cons.mpr ⟨sSI3, (fun _ h => absurd h List.not_mem_nil)⟩)⟩)⟩)⟩)⟩)⟩)⟩
theorem kFo_firstSeen_10 : Bok "HerbWaters$Foresight" prog_6_method_4_code (10, bFo_firstSeen_10, 16) := ⟨by decide +kernel, (List.forall_mem_cons.mpr ⟨sLI3, (List.forall_mem_cons.mpr ⟨sBP, (List.forall_mem_cons.mpr ⟨sICgt, (fun _ h => absurd h List.not_mem_nil)⟩)⟩)⟩)⟩
theorem kFo_firstSeen_16 : Bok "HerbWaters$Foresight" prog_6_method_4_code (16, bFo_firstSeen_16, 38) := ⟨by decide +kernel, (List.forall_mem_cons.mpr ⟨sLA0, (List.forall_mem_cons.mpr ⟨lFo_g32, (List.forall_mem_cons.mpr ⟨sLA0, (List.forall_mem_cons.mpr ⟨lFo_g12, (List.forall_mem_cons.mpr ⟨lFo_v44, (List.forall_mem_cons.mpr ⟨sLA0, (List.forall_mem_cons.mpr ⟨lFo_g12, (List.forall_mem_cons.mpr ⟨lFo_v49, (List.forall_mem_cons.mpr ⟨sLI2, (List.forall_mem_cons.mpr ⟨sICne, (fun _ h => absurd h List.not_mem_nil)⟩)⟩)⟩)⟩)⟩)⟩)⟩)⟩)⟩)⟩)⟩
theorem kFo_firstSeen_38 : Bok "HerbWaters$Foresight" prog_6_method_4_code (38, bFo_firstSeen_38, 40) := ⟨by decide +kernel, (List.forall_mem_cons.mpr ⟨sLI3, (List.forall_mem_cons.mpr ⟨sRI, (fun _ h => absurd h List.not_mem_nil)⟩)⟩)⟩
theorem kFo_firstSeen_40 : Bok "HerbWaters$Foresight" prog_6_method_4_code (40, bFo_firstSeen_40, 46) := ⟨by decide +kernel, (List.forall_mem_cons.mpr ⟨sINC3, (List.forall_mem_cons.mpr ⟨sGO, (fun _ h => absurd h List.not_mem_nil)⟩)⟩)⟩
theorem kFo_firstSeen_46 : Bok "HerbWaters$Foresight" prog_6_method_4_code (46, bFo_firstSeen_46, 48) := ⟨by decide +kernel, (List.forall_mem_cons.mpr ⟨sCm1, (List.forall_mem_cons.mpr ⟨sRI, (fun _ h => absurd h List.not_mem_nil)⟩)⟩)⟩
theorem kFo_firstSeen : ∀ q ∈ tFo_firstSeen, Bok "HerbWaters$Foresight" prog_6_method_4_code q := (List.forall_mem_cons.mpr ⟨kFo_firstSeen_0, (List.forall_mem_cons.mpr ⟨kFo_firstSeen_10, (List.forall_mem_cons.mpr ⟨kFo_firstSeen_16, (List.forall_mem_cons.mpr ⟨kFo_firstSeen_38, (List.forall_mem_cons.mpr ⟨kFo_firstSeen_40, (List.forall_mem_cons.mpr ⟨kFo_firstSeen_46, (fun _ h => absurd h List.not_mem_nil)⟩)⟩)⟩)⟩)⟩)⟩)
theorem rFo_firstSeen : mFo_firstSeen.2.2.2 = some .int := rfl
def mFo_leastPleased : Mt := (⟨"HerbWaters$Foresight", "leastPleased", "(LHerbWaters$Days;I)I"⟩, prog_6_method_5_code, 8, some .int)
theorem ok_Fo_leastPleased : Mok mFo_leastPleased := ⟨gtb_mem 643 (by decide +kernel) rfl, gtb_mem 98 (by decide +kernel) rfl, by decide +kernel, by decide⟩
theorem lFo_g53 : Snd "HerbWaters$Foresight" (iGI 53 2 10) := sGIN _ rfl "HerbWaters" (List.mem_filter.mpr ⟨List.mem_of_getElem? (i := 348) (by decide +kernel), rfl⟩)
theorem lFo_v56 : Snd "HerbWaters$Foresight" (iCV1 56 0 mAq_puttersOf) := sCV1 _ rfl rfl ok_Aq_puttersOf (gtb_mem 645 (by decide +kernel) rfl) (gtb_mem 646 (by decide +kernel) rfl) (gtb_mem 644 (by decide +kernel) rfl)
theorem lFo_g60 : Snd "HerbWaters$Foresight" (iGR 60 0 0) := sGRN _ rfl "HerbWaters" (List.mem_filter.mpr ⟨List.mem_of_getElem? (i := 280) (by decide +kernel), rfl⟩)
theorem lFo_v64 : Snd "HerbWaters$Foresight" (iCV0 64 9 mTn_allBits) := sCV0 _ rfl rfl ok_Tn_allBits (gtb_mem 649 (by decide +kernel) rfl) (gtb_mem 650 (by decide +kernel) rfl) (gtb_mem 648 (by decide +kernel) rfl)
theorem lFo_g69 : Snd "HerbWaters$Foresight" (iGI 69 2 7) := sGIN _ rfl "HerbWaters" (List.mem_filter.mpr ⟨List.mem_of_getElem? (i := 336) (by decide +kernel), rfl⟩)
theorem lFo_s72 : Snd "HerbWaters$Foresight" (iCS1 72 mJi_bitCount) := sCS1 ok_Ji_bitCount (gtb_mem 653 (by decide +kernel) rfl) (gtb_mem 652 (by decide +kernel) rfl)
def mFo_isClearBy : Mt := (⟨"HerbWaters$Foresight", "isClearBy", "(LHerbWaters$Days;II)Z"⟩, prog_6_method_6_code, 4, some .boolean)
theorem ok_Fo_isClearBy : Mok mFo_isClearBy := ⟨gtb_mem 661 (by decide +kernel) rfl, gtb_mem 98 (by decide +kernel) rfl, by decide +kernel, by decide⟩
theorem lFo_v77 : Snd "HerbWaters$Foresight" (iCV3 77 4 mFo_isClearBy) := sCV3 _ rfl rfl ok_Fo_isClearBy (gtb_mem 660 (by decide +kernel) rfl) (gtb_mem 0 (by decide +kernel) rfl) (gtb_mem 658 (by decide +kernel) rfl)
def bFo_leastPleased_0 : List Ir := [iLA1, (iGI 53 2 10), iLA0, (iGR 32 4 0), (iBP 7), (iCV1 56 0 mAq_puttersOf), iOR, iSI3, iLA0, (iGR 32 4 0), (iGR 60 0 0), (iCV0 64 9 mTn_allBits), iSI4, iC0, iSI5]
def bFo_leastPleased_30 : List Ir := [iLI5, iLA1, (iGI 69 2 7), (iICgt (83) 119)]
def bFo_leastPleased_39 : List Ir := [iC0, iSI6]
def bFo_leastPleased_42 : List Ir := [iLI6, iLI4, (iICgt (67) 113)]
def bFo_leastPleased_49 : List Ir := [iLI6, (iCS1 72 mJi_bitCount), iLI5, (iICne (29) 85)]
def bFo_leastPleased_59 : List Ir := [iLI6, iLA1, (iGI 53 2 10), iAND, iLA1, (iGI 53 2 10), (iICne (15) 85)]
def bFo_leastPleased_73 : List Ir := [iLI6, iLI3, iOR, iLI3, (iICne (7) 85)]
def bFo_leastPleased_81 : List Ir := [iC1, (iGO (4) 86)]
def bFo_leastPleased_85 : List Ir := [iC0]
def bFo_leastPleased_86 : List Ir := [iSI7, iLI7, (iIFeq (17) 107)]
def bFo_leastPleased_93 : List Ir := [iLA0, iLA1, iLI6, iLI2, (iCV3 77 4 mFo_isClearBy), (iIFeq (6) 107)]
def bFo_leastPleased_104 : List Ir := [iLI6, iRI]
def bFo_leastPleased_107 : List Ir := [(iINC6 1), (iGO (-68) 42)]
def bFo_leastPleased_113 : List Ir := [(iINC5 1), (iGO (-86) 30)]
def bFo_leastPleased_119 : List Ir := [iCm1, iRI]
def tFo_leastPleased : Tb := [(0, bFo_leastPleased_0, 30), (30, bFo_leastPleased_30, 39), (39, bFo_leastPleased_39, 42), (42, bFo_leastPleased_42, 49), (49, bFo_leastPleased_49, 59), (59, bFo_leastPleased_59, 73), (73, bFo_leastPleased_73, 81), (81, bFo_leastPleased_81, 85), (85, bFo_leastPleased_85, 86), (86, bFo_leastPleased_86, 93), (93, bFo_leastPleased_93, 104), (104, bFo_leastPleased_104, 107), (107, bFo_leastPleased_107, 113), (113, bFo_leastPleased_113, 119), (119, bFo_leastPleased_119, 121)]
theorem fFo_leastPleased_0 : tbf tFo_leastPleased 0 = some (bFo_leastPleased_0, 30) := rfl
theorem fFo_leastPleased_30 : tbf tFo_leastPleased 30 = some (bFo_leastPleased_30, 39) := rfl
theorem fFo_leastPleased_39 : tbf tFo_leastPleased 39 = some (bFo_leastPleased_39, 42) := rfl
theorem fFo_leastPleased_42 : tbf tFo_leastPleased 42 = some (bFo_leastPleased_42, 49) := rfl
theorem fFo_leastPleased_49 : tbf tFo_leastPleased 49 = some (bFo_leastPleased_49, 59) := rfl
theorem fFo_leastPleased_59 : tbf tFo_leastPleased 59 = some (bFo_leastPleased_59, 73) := rfl
theorem fFo_leastPleased_73 : tbf tFo_leastPleased 73 = some (bFo_leastPleased_73, 81) := rfl
theorem fFo_leastPleased_81 : tbf tFo_leastPleased 81 = some (bFo_leastPleased_81, 85) := rfl
theorem fFo_leastPleased_85 : tbf tFo_leastPleased 85 = some (bFo_leastPleased_85, 86) := rfl
theorem fFo_leastPleased_86 : tbf tFo_leastPleased 86 = some (bFo_leastPleased_86, 93) := rfl
theorem fFo_leastPleased_93 : tbf tFo_leastPleased 93 = some (bFo_leastPleased_93, 104) := rfl
theorem fFo_leastPleased_104 : tbf tFo_leastPleased 104 = some (bFo_leastPleased_104, 107) := rfl
theorem fFo_leastPleased_107 : tbf tFo_leastPleased 107 = some (bFo_leastPleased_107, 113) := rfl
theorem fFo_leastPleased_113 : tbf tFo_leastPleased 113 = some (bFo_leastPleased_113, 119) := rfl
theorem fFo_leastPleased_119 : tbf tFo_leastPleased 119 = some (bFo_leastPleased_119, 121) := rfl
theorem kFo_leastPleased_0 : Bok "HerbWaters$Foresight" prog_6_method_5_code (0, bFo_leastPleased_0, 30) := ⟨by decide +kernel, (List.forall_mem_cons.mpr ⟨sLA1, (List.forall_mem_cons.mpr ⟨lFo_g53, (List.forall_mem_cons.mpr ⟨sLA0, (List.forall_mem_cons.mpr ⟨lFo_g32, (List.forall_mem_cons.mpr ⟨sBP, (List.forall_mem_cons.mpr ⟨lFo_v56, (List.forall_mem_cons.mpr ⟨sOR, (List.forall_mem_cons.mpr ⟨sSI3, (List.forall_mem_cons.mpr ⟨sLA0, (List.forall_mem_cons.mpr ⟨lFo_g32, (List.forall_mem_cons.mpr ⟨lFo_g60, (List.forall_mem_cons.mpr ⟨lFo_v64, (List.forall_mem_cons.mpr ⟨sSI4, (List.forall_mem_cons.mpr ⟨sC0, (List.forall_mem_cons.mpr ⟨sSI5, (fun _ h => absurd h List.not_mem_nil)⟩)⟩)⟩)⟩)⟩)⟩)⟩)⟩)⟩)⟩)⟩)⟩)⟩)⟩)⟩)⟩
theorem kFo_leastPleased_30 : Bok "HerbWaters$Foresight" prog_6_method_5_code (30, bFo_leastPleased_30, 39) := ⟨by decide +kernel, (List.forall_mem_cons.mpr ⟨sLI5, (List.forall_mem_cons.mpr ⟨sLA1, (List.forall_mem_cons.mpr ⟨lFo_g69, (List.forall_mem_cons.mpr ⟨sICgt, (fun _ h => absurd h List.not_mem_nil)⟩)⟩)⟩)⟩)⟩
theorem kFo_leastPleased_39 : Bok "HerbWaters$Foresight" prog_6_method_5_code (39, bFo_leastPleased_39, 42) := ⟨by decide +kernel, (List.forall_mem_cons.mpr ⟨sC0, (List.forall_mem_cons.mpr ⟨sSI6, (fun _ h => absurd h List.not_mem_nil)⟩)⟩)⟩
theorem kFo_leastPleased_42 : Bok "HerbWaters$Foresight" prog_6_method_5_code (42, bFo_leastPleased_42, 49) := ⟨by decide +kernel, (List.forall_mem_cons.mpr ⟨sLI6, (List.forall_mem_cons.mpr ⟨sLI4, (List.forall_mem_cons.mpr ⟨sICgt, (fun _ h => absurd h List.not_mem_nil)⟩)⟩)⟩)⟩
theorem kFo_leastPleased_49 : Bok "HerbWaters$Foresight" prog_6_method_5_code (49, bFo_leastPleased_49, 59) := ⟨by decide +kernel, (List.forall_mem_cons.mpr ⟨sLI6, (List.forall_mem_cons.mpr ⟨lFo_s72, (List.forall_mem_cons.mpr ⟨sLI5, (List.forall_mem_cons.mpr ⟨sICne, (fun _ h => absurd h List.not_mem_nil)⟩)⟩)⟩)⟩)⟩
theorem kFo_leastPleased_59 : Bok "HerbWaters$Foresight" prog_6_method_5_code (59, bFo_leastPleased_59, 73) := ⟨by decide +kernel, (List.forall_mem_cons.mpr ⟨sLI6, (List.forall_mem_cons.mpr ⟨sLA1, (List.forall_mem_cons.mpr ⟨lFo_g53, (List.forall_mem_cons.mpr ⟨sAND, (List.forall_mem_cons.mpr ⟨sLA1, (List.forall_mem_cons.mpr ⟨lFo_g53, (List.forall_mem_cons.mpr ⟨sICne, (fun _ h => absurd h List.not_mem_nil)⟩)⟩)⟩)⟩)⟩)⟩)⟩)⟩
theorem kFo_leastPleased_73 : Bok "HerbWaters$Foresight" prog_6_method_5_code (73, bFo_leastPleased_73, 81) := ⟨by decide +kernel, (List.forall_mem_cons.mpr ⟨sLI6, (List.forall_mem_cons.mpr ⟨sLI3, (List.forall_mem_cons.mpr ⟨sOR, (List.forall_mem_cons.mpr ⟨sLI3, (List.forall_mem_cons.mpr ⟨sICne, (fun _ h => absurd h List.not_mem_nil)⟩)⟩)⟩)⟩)⟩)⟩
theorem kFo_leastPleased_81 : Bok "HerbWaters$Foresight" prog_6_method_5_code (81, bFo_leastPleased_81, 85) := ⟨by decide +kernel, (List.forall_mem_cons.mpr ⟨sC1, (List.forall_mem_cons.mpr ⟨sGO, (fun _ h => absurd h List.not_mem_nil)⟩)⟩)⟩
theorem kFo_leastPleased_85 : Bok "HerbWaters$Foresight" prog_6_method_5_code (85, bFo_leastPleased_85, 86) := ⟨by decide +kernel, (List.forall_mem_cons.mpr ⟨sC0, (fun _ h => absurd h List.not_mem_nil)⟩)⟩
theorem kFo_leastPleased_86 : Bok "HerbWaters$Foresight" prog_6_method_5_code (86, bFo_leastPleased_86, 93) := ⟨by decide +kernel, (List.forall_mem_cons.mpr ⟨sSI7, (List.forall_mem_cons.mpr ⟨sLI7, (List.forall_mem_cons.mpr ⟨sIFeq, (fun _ h => absurd h List.not_mem_nil)⟩)⟩)⟩)⟩
theorem kFo_leastPleased_93 : Bok "HerbWaters$Foresight" prog_6_method_5_code (93, bFo_leastPleased_93, 104) := ⟨by decide +kernel, (List.forall_mem_cons.mpr ⟨sLA0, (List.forall_mem_cons.mpr ⟨sLA1, (List.forall_mem_cons.mpr ⟨sLI6, (List.forall_mem_cons.mpr ⟨sLI2, (List.forall_mem_cons.mpr ⟨lFo_v77, (List.forall_mem_cons.mpr ⟨sIFeq, (fun _ h => absurd h List.not_mem_nil)⟩)⟩)⟩)⟩)⟩)⟩)⟩
theorem kFo_leastPleased_104 : Bok "HerbWaters$Foresight" prog_6_method_5_code (104, bFo_leastPleased_104, 107) := ⟨by decide +kernel, (List.forall_mem_cons.mpr ⟨sLI6, (List.forall_mem_cons.mpr ⟨sRI, (fun _ h => absurd h List.not_mem_nil)⟩)⟩)⟩
theorem kFo_leastPleased_107 : Bok "HerbWaters$Foresight" prog_6_method_5_code (107, bFo_leastPleased_107, 113) := ⟨by decide +kernel, (List.forall_mem_cons.mpr ⟨sINC6, (List.forall_mem_cons.mpr ⟨sGO, (fun _ h => absurd h List.not_mem_nil)⟩)⟩)⟩
theorem kFo_leastPleased_113 : Bok "HerbWaters$Foresight" prog_6_method_5_code (113, bFo_leastPleased_113, 119) := ⟨by decide +kernel, (List.forall_mem_cons.mpr ⟨sINC5, (List.forall_mem_cons.mpr ⟨sGO, (fun _ h => absurd h List.not_mem_nil)⟩)⟩)⟩
theorem kFo_leastPleased_119 : Bok "HerbWaters$Foresight" prog_6_method_5_code (119, bFo_leastPleased_119, 121) := ⟨by decide +kernel, (List.forall_mem_cons.mpr ⟨sCm1, (List.forall_mem_cons.mpr ⟨sRI, (fun _ h => absurd h List.not_mem_nil)⟩)⟩)⟩
theorem kFo_leastPleased : ∀ q ∈ tFo_leastPleased, Bok "HerbWaters$Foresight" prog_6_method_5_code q := (List.forall_mem_cons.mpr ⟨kFo_leastPleased_0, (List.forall_mem_cons.mpr ⟨kFo_leastPleased_30, (List.forall_mem_cons.mpr ⟨kFo_leastPleased_39, (List.forall_mem_cons.mpr ⟨kFo_leastPleased_42, (List.forall_mem_cons.mpr ⟨kFo_leastPleased_49, (List.forall_mem_cons.mpr ⟨kFo_leastPleased_59, (List.forall_mem_cons.mpr ⟨kFo_leastPleased_73, (List.forall_mem_cons.mpr ⟨kFo_leastPleased_81, (List.forall_mem_cons.mpr ⟨kFo_leastPleased_85, (List.forall_mem_cons.mpr ⟨kFo_leastPleased_86, (List.forall_mem_cons.mpr ⟨kFo_leastPleased_93, (List.forall_mem_cons.mpr ⟨kFo_leastPleased_104, (List.forall_mem_cons.mpr ⟨kFo_leastPleased_107, (List.forall_mem_cons.mpr ⟨kFo_leastPleased_113, (List.forall_mem_cons.mpr ⟨kFo_leastPleased_119, (fun _ h => absurd h List.not_mem_nil)⟩)⟩)⟩)⟩)⟩)⟩)⟩)⟩)⟩)⟩)⟩)⟩)⟩)⟩)⟩)
theorem rFo_leastPleased : mFo_leastPleased.2.2.2 = some .int := rfl
theorem lFo_p53 : Snd "HerbWaters$Foresight" (iPI 53 2 10) := sPIN _ rfl rfl "HerbWaters" (List.mem_filter.mpr ⟨List.mem_of_getElem? (i := 348) (by decide +kernel), rfl⟩)
def bFo_isClearBy_0 : List Ir := [iLA0, (iGR 12 4 1), iLA1, (iCV1 36 2 mDy_copyFrom), iLA0, (iGR 12 4 1), iLI2, (iPI 53 2 10), iLA0, iLI3, (iCV1 40 4 mFo_go), iLA0, (iGR 12 4 1), (iCV0 49 2 mDy_seen), (iIFne (7) 35)]
def bFo_isClearBy_31 : List Ir := [iC1, (iGO (4) 36)]
def bFo_isClearBy_35 : List Ir := [iC0]
def bFo_isClearBy_36 : List Ir := [iRI]
def tFo_isClearBy : Tb := [(0, bFo_isClearBy_0, 31), (31, bFo_isClearBy_31, 35), (35, bFo_isClearBy_35, 36), (36, bFo_isClearBy_36, 37)]
theorem fFo_isClearBy_0 : tbf tFo_isClearBy 0 = some (bFo_isClearBy_0, 31) := rfl
theorem fFo_isClearBy_31 : tbf tFo_isClearBy 31 = some (bFo_isClearBy_31, 35) := rfl
theorem fFo_isClearBy_35 : tbf tFo_isClearBy 35 = some (bFo_isClearBy_35, 36) := rfl
theorem fFo_isClearBy_36 : tbf tFo_isClearBy 36 = some (bFo_isClearBy_36, 37) := rfl
theorem kFo_isClearBy_0 : Bok "HerbWaters$Foresight" prog_6_method_6_code (0, bFo_isClearBy_0, 31) := ⟨by decide +kernel, (List.forall_mem_cons.mpr ⟨sLA0, (List.forall_mem_cons.mpr ⟨lFo_g12, (List.forall_mem_cons.mpr ⟨sLA1, (List.forall_mem_cons.mpr ⟨lFo_v36, (List.forall_mem_cons.mpr ⟨sLA0, (List.forall_mem_cons.mpr ⟨lFo_g12, (List.forall_mem_cons.mpr ⟨sLI2, (List.forall_mem_cons.mpr ⟨lFo_p53, (List.forall_mem_cons.mpr ⟨sLA0, (List.forall_mem_cons.mpr ⟨sLI3, (List.forall_mem_cons.mpr ⟨lFo_v40, (List.forall_mem_cons.mpr ⟨sLA0, (List.forall_mem_cons.mpr ⟨lFo_g12, (List.forall_mem_cons.mpr ⟨lFo_v49, (List.forall_mem_cons.mpr ⟨sIFne, (fun _ h => absurd h List.not_mem_nil)⟩)⟩)⟩)⟩)⟩)⟩)⟩)⟩)⟩)⟩)⟩)⟩)⟩)⟩)⟩)⟩
theorem kFo_isClearBy_31 : Bok "HerbWaters$Foresight" prog_6_method_6_code (31, bFo_isClearBy_31, 35) := ⟨by decide +kernel, (List.forall_mem_cons.mpr ⟨sC1, (List.forall_mem_cons.mpr ⟨sGO, (fun _ h => absurd h List.not_mem_nil)⟩)⟩)⟩
theorem kFo_isClearBy_35 : Bok "HerbWaters$Foresight" prog_6_method_6_code (35, bFo_isClearBy_35, 36) := ⟨by decide +kernel, (List.forall_mem_cons.mpr ⟨sC0, (fun _ h => absurd h List.not_mem_nil)⟩)⟩
theorem kFo_isClearBy_36 : Bok "HerbWaters$Foresight" prog_6_method_6_code (36, bFo_isClearBy_36, 37) := ⟨by decide +kernel, (List.forall_mem_cons.mpr ⟨sRI, (fun _ h => absurd h List.not_mem_nil)⟩)⟩
theorem kFo_isClearBy : ∀ q ∈ tFo_isClearBy, Bok "HerbWaters$Foresight" prog_6_method_6_code q := (List.forall_mem_cons.mpr ⟨kFo_isClearBy_0, (List.forall_mem_cons.mpr ⟨kFo_isClearBy_31, (List.forall_mem_cons.mpr ⟨kFo_isClearBy_35, (List.forall_mem_cons.mpr ⟨kFo_isClearBy_36, (fun _ h => absurd h List.not_mem_nil)⟩)⟩)⟩)⟩)
theorem rFo_isClearBy : mFo_isClearBy.2.2.2 = some .boolean := rfl
def mFo_leastFilter : Mt := (⟨"HerbWaters$Foresight", "leastFilter", "(LHerbWaters$Days;III)I"⟩, prog_6_method_7_code, 6, some .int)
theorem ok_Fo_leastFilter : Mok mFo_leastFilter := ⟨gtb_mem 1559 (by decide +kernel) rfl, gtb_mem 98 (by decide +kernel) rfl, by decide +kernel, by decide⟩
theorem lFo_p81 : Snd "HerbWaters$Foresight" (iPI 81 2 14) := sPIN _ rfl rfl "HerbWaters" (List.mem_filter.mpr ⟨List.mem_of_getElem? (i := 361) (by decide +kernel), rfl⟩)
theorem lFo_p84 : Snd "HerbWaters$Foresight" (iPI 84 2 15) := sPIN _ rfl rfl "HerbWaters" (List.mem_filter.mpr ⟨List.mem_of_getElem? (i := 364) (by decide +kernel), rfl⟩)
theorem lFo_g87 : Snd "HerbWaters$Foresight" (iGR 87 2 6) := sGRN _ rfl "HerbWaters" (List.mem_filter.mpr ⟨List.mem_of_getElem? (i := 332) (by decide +kernel), rfl⟩)
def bFo_leastFilter_0 : List Ir := [iC0, iSI5]
def bFo_leastFilter_3 : List Ir := [iLI5, (iBP 99), (iICgt (61) 68)]
def bFo_leastFilter_10 : List Ir := [iLA0, (iGR 12 4 1), iLA1, (iCV1 36 2 mDy_copyFrom), iLA0, (iGR 12 4 1), iLI2, iC3, iMUL, iLI3, iADD, (iPI 81 2 14), iLA0, (iGR 12 4 1), iLI5, (iPI 84 2 15), iLA0, iLI4, (iCV1 40 4 mFo_go), iLA0, (iGR 12 4 1), (iGR 87 2 6), iC1, iLI3, iADD, iIALD, (iIFne (6) 62)]
def bFo_leastFilter_59 : List Ir := [iLI5, iRI]
def bFo_leastFilter_62 : List Ir := [(iINC5 1), (iGO (-62) 3)]
def bFo_leastFilter_68 : List Ir := [iCm1, iRI]
def tFo_leastFilter : Tb := [(0, bFo_leastFilter_0, 3), (3, bFo_leastFilter_3, 10), (10, bFo_leastFilter_10, 59), (59, bFo_leastFilter_59, 62), (62, bFo_leastFilter_62, 68), (68, bFo_leastFilter_68, 70)]
theorem fFo_leastFilter_0 : tbf tFo_leastFilter 0 = some (bFo_leastFilter_0, 3) := rfl
theorem fFo_leastFilter_3 : tbf tFo_leastFilter 3 = some (bFo_leastFilter_3, 10) := rfl
theorem fFo_leastFilter_10 : tbf tFo_leastFilter 10 = some (bFo_leastFilter_10, 59) := rfl
theorem fFo_leastFilter_59 : tbf tFo_leastFilter 59 = some (bFo_leastFilter_59, 62) := rfl
theorem fFo_leastFilter_62 : tbf tFo_leastFilter 62 = some (bFo_leastFilter_62, 68) := rfl
theorem fFo_leastFilter_68 : tbf tFo_leastFilter 68 = some (bFo_leastFilter_68, 70) := rfl
theorem kFo_leastFilter_0 : Bok "HerbWaters$Foresight" prog_6_method_7_code (0, bFo_leastFilter_0, 3) := ⟨by decide +kernel, (List.forall_mem_cons.mpr ⟨sC0, (List.forall_mem_cons.mpr ⟨sSI5, (fun _ h => absurd h List.not_mem_nil)⟩)⟩)⟩
theorem kFo_leastFilter_3 : Bok "HerbWaters$Foresight" prog_6_method_7_code (3, bFo_leastFilter_3, 10) := ⟨by decide +kernel, (List.forall_mem_cons.mpr ⟨sLI5, (List.forall_mem_cons.mpr ⟨sBP, (List.forall_mem_cons.mpr ⟨sICgt, (fun _ h => absurd h List.not_mem_nil)⟩)⟩)⟩)⟩
theorem kFo_leastFilter_10 : Bok "HerbWaters$Foresight" prog_6_method_7_code (10, bFo_leastFilter_10, 59) := ⟨by decide +kernel, (List.forall_mem_cons.mpr ⟨sLA0, (List.forall_mem_cons.mpr ⟨lFo_g12, (List.forall_mem_cons.mpr ⟨sLA1, (List.forall_mem_cons.mpr ⟨lFo_v36, (List.forall_mem_cons.mpr ⟨sLA0, (List.forall_mem_cons.mpr ⟨lFo_g12, (List.forall_mem_cons.mpr ⟨sLI2, (List.forall_mem_cons.mpr ⟨sC3, (List.forall_mem_cons.mpr ⟨sMUL, (List.forall_mem_cons.mpr ⟨sLI3, (List.forall_mem_cons.mpr ⟨sADD, (List.forall_mem_cons.mpr ⟨lFo_p81, (List.forall_mem_cons.mpr ⟨sLA0, (List.forall_mem_cons.mpr ⟨lFo_g12, (List.forall_mem_cons.mpr ⟨sLI5, (List.forall_mem_cons.mpr ⟨lFo_p84, (List.forall_mem_cons.mpr ⟨sLA0, (List.forall_mem_cons.mpr ⟨sLI4, (List.forall_mem_cons.mpr ⟨lFo_v40, (List.forall_mem_cons.mpr ⟨sLA0, (List.forall_mem_cons.mpr ⟨lFo_g12, (List.forall_mem_cons.mpr ⟨lFo_g87, (List.forall_mem_cons.mpr ⟨sC1, (List.forall_mem_cons.mpr ⟨sLI3, (List.forall_mem_cons.mpr ⟨sADD, (List.forall_mem_cons.mpr ⟨sIALD, (List.forall_mem_cons.mpr ⟨sIFne, (fun _ h => absurd h List.not_mem_nil)⟩)⟩)⟩)⟩)⟩)⟩)⟩)⟩)⟩)⟩)⟩)⟩)⟩)⟩)⟩)⟩)⟩)⟩)⟩)⟩)⟩)⟩)⟩)⟩)⟩)⟩)⟩)⟩
theorem kFo_leastFilter_59 : Bok "HerbWaters$Foresight" prog_6_method_7_code (59, bFo_leastFilter_59, 62) := ⟨by decide +kernel, (List.forall_mem_cons.mpr ⟨sLI5, (List.forall_mem_cons.mpr ⟨sRI, (fun _ h => absurd h List.not_mem_nil)⟩)⟩)⟩
theorem kFo_leastFilter_62 : Bok "HerbWaters$Foresight" prog_6_method_7_code (62, bFo_leastFilter_62, 68) := ⟨by decide +kernel, (List.forall_mem_cons.mpr ⟨sINC5, (List.forall_mem_cons.mpr ⟨sGO, (fun _ h => absurd h List.not_mem_nil)⟩)⟩)⟩
theorem kFo_leastFilter_68 : Bok "HerbWaters$Foresight" prog_6_method_7_code (68, bFo_leastFilter_68, 70) := ⟨by decide +kernel, (List.forall_mem_cons.mpr ⟨sCm1, (List.forall_mem_cons.mpr ⟨sRI, (fun _ h => absurd h List.not_mem_nil)⟩)⟩)⟩
theorem kFo_leastFilter : ∀ q ∈ tFo_leastFilter, Bok "HerbWaters$Foresight" prog_6_method_7_code q := (List.forall_mem_cons.mpr ⟨kFo_leastFilter_0, (List.forall_mem_cons.mpr ⟨kFo_leastFilter_3, (List.forall_mem_cons.mpr ⟨kFo_leastFilter_10, (List.forall_mem_cons.mpr ⟨kFo_leastFilter_59, (List.forall_mem_cons.mpr ⟨kFo_leastFilter_62, (List.forall_mem_cons.mpr ⟨kFo_leastFilter_68, (fun _ h => absurd h List.not_mem_nil)⟩)⟩)⟩)⟩)⟩)⟩)
theorem rFo_leastFilter : mFo_leastFilter.2.2.2 = some .int := rfl
def mFo_lossWith : Mt := (⟨"HerbWaters$Foresight", "lossWith", "(LHerbWaters$Days;IIIII)I"⟩, prog_6_method_8_code, 9, some .int)
theorem ok_Fo_lossWith : Mok mFo_lossWith := ⟨gtb_mem 1654 (by decide +kernel) rfl, gtb_mem 98 (by decide +kernel) rfl, by decide +kernel, by decide⟩
theorem lFo_g90 : Snd "HerbWaters$Foresight" (iGR 90 2 5) := sGRN _ rfl "HerbWaters" (List.mem_filter.mpr ⟨List.mem_of_getElem? (i := 328) (by decide +kernel), rfl⟩)
theorem lFo_v93 : Snd "HerbWaters$Foresight" (iCV1 93 2 mDy_herbsIn) := sCV1 _ rfl rfl ok_Dy_herbsIn (gtb_mem 1472 (by decide +kernel) rfl) (gtb_mem 1473 (by decide +kernel) rfl) (gtb_mem 1655 (by decide +kernel) rfl)
def bFo_lossWith_0 : List Ir := [iLA0, (iGR 12 4 1), iLA1, (iCV1 36 2 mDy_copyFrom), iLA0, (iGR 12 4 1), (iGR 90 2 5), iLI2, iLI3, iIAST, iLI5, iLI3, iMUL, iLI4, iMUL, iSI7, iC0, iSI8]
def bFo_lossWith_30 : List Ir := [iLI8, iLI4, (iICge (40) 74)]
def bFo_lossWith_37 : List Ir := [iLI7, iLI6, (iICge (33) 74)]
def bFo_lossWith_44 : List Ir := [iLA0, (iGR 32 4 0), iLA0, (iGR 12 4 1), (iCV1 44 0 mAq_goDay), iLI7, iLA0, (iGR 12 4 1), iLI2, (iCV1 93 2 mDy_herbsIn), iADD, iSI7, (iINC8 1), (iGO (-41) 30)]
def bFo_lossWith_74 : List Ir := [iLI7, iRI]
def tFo_lossWith : Tb := [(0, bFo_lossWith_0, 30), (30, bFo_lossWith_30, 37), (37, bFo_lossWith_37, 44), (44, bFo_lossWith_44, 74), (74, bFo_lossWith_74, 77)]
theorem fFo_lossWith_0 : tbf tFo_lossWith 0 = some (bFo_lossWith_0, 30) := rfl
theorem fFo_lossWith_30 : tbf tFo_lossWith 30 = some (bFo_lossWith_30, 37) := rfl
theorem fFo_lossWith_37 : tbf tFo_lossWith 37 = some (bFo_lossWith_37, 44) := rfl
theorem fFo_lossWith_44 : tbf tFo_lossWith 44 = some (bFo_lossWith_44, 74) := rfl
theorem fFo_lossWith_74 : tbf tFo_lossWith 74 = some (bFo_lossWith_74, 77) := rfl
theorem kFo_lossWith_0 : Bok "HerbWaters$Foresight" prog_6_method_8_code (0, bFo_lossWith_0, 30) := ⟨by decide +kernel, (List.forall_mem_cons.mpr ⟨sLA0, (List.forall_mem_cons.mpr ⟨lFo_g12, (List.forall_mem_cons.mpr ⟨sLA1, (List.forall_mem_cons.mpr ⟨lFo_v36, (List.forall_mem_cons.mpr ⟨sLA0, (List.forall_mem_cons.mpr ⟨lFo_g12, (List.forall_mem_cons.mpr ⟨lFo_g90, (List.forall_mem_cons.mpr ⟨sLI2, (List.forall_mem_cons.mpr ⟨sLI3, (List.forall_mem_cons.mpr ⟨sIAST, (List.forall_mem_cons.mpr ⟨sLI5, (List.forall_mem_cons.mpr ⟨sLI3, (List.forall_mem_cons.mpr ⟨sMUL, (List.forall_mem_cons.mpr ⟨sLI4, (List.forall_mem_cons.mpr ⟨sMUL, (List.forall_mem_cons.mpr ⟨sSI7, (List.forall_mem_cons.mpr ⟨sC0, (List.forall_mem_cons.mpr ⟨sSI8, (fun _ h => absurd h List.not_mem_nil)⟩)⟩)⟩)⟩)⟩)⟩)⟩)⟩)⟩)⟩)⟩)⟩)⟩)⟩)⟩)⟩)⟩)⟩)⟩
theorem kFo_lossWith_30 : Bok "HerbWaters$Foresight" prog_6_method_8_code (30, bFo_lossWith_30, 37) := ⟨by decide +kernel, (List.forall_mem_cons.mpr ⟨sLI8, (List.forall_mem_cons.mpr ⟨sLI4, (List.forall_mem_cons.mpr ⟨sICge, (fun _ h => absurd h List.not_mem_nil)⟩)⟩)⟩)⟩
theorem kFo_lossWith_37 : Bok "HerbWaters$Foresight" prog_6_method_8_code (37, bFo_lossWith_37, 44) := ⟨by decide +kernel, (List.forall_mem_cons.mpr ⟨sLI7, (List.forall_mem_cons.mpr ⟨sLI6, (List.forall_mem_cons.mpr ⟨sICge, (fun _ h => absurd h List.not_mem_nil)⟩)⟩)⟩)⟩
theorem kFo_lossWith_44 : Bok "HerbWaters$Foresight" prog_6_method_8_code (44, bFo_lossWith_44, 74) := ⟨by decide +kernel, (List.forall_mem_cons.mpr ⟨sLA0, (List.forall_mem_cons.mpr ⟨lFo_g32, (List.forall_mem_cons.mpr ⟨sLA0, (List.forall_mem_cons.mpr ⟨lFo_g12, (List.forall_mem_cons.mpr ⟨lFo_v44, (List.forall_mem_cons.mpr ⟨sLI7, (List.forall_mem_cons.mpr ⟨sLA0, (List.forall_mem_cons.mpr ⟨lFo_g12, (List.forall_mem_cons.mpr ⟨sLI2, (List.forall_mem_cons.mpr ⟨lFo_v93, (List.forall_mem_cons.mpr ⟨sADD, (List.forall_mem_cons.mpr ⟨sSI7, (List.forall_mem_cons.mpr ⟨sINC8, (List.forall_mem_cons.mpr ⟨sGO, (fun _ h => absurd h List.not_mem_nil)⟩)⟩)⟩)⟩)⟩)⟩)⟩)⟩)⟩)⟩)⟩)⟩)⟩)⟩)⟩
theorem kFo_lossWith_74 : Bok "HerbWaters$Foresight" prog_6_method_8_code (74, bFo_lossWith_74, 77) := ⟨by decide +kernel, (List.forall_mem_cons.mpr ⟨sLI7, (List.forall_mem_cons.mpr ⟨sRI, (fun _ h => absurd h List.not_mem_nil)⟩)⟩)⟩
theorem kFo_lossWith : ∀ q ∈ tFo_lossWith, Bok "HerbWaters$Foresight" prog_6_method_8_code q := (List.forall_mem_cons.mpr ⟨kFo_lossWith_0, (List.forall_mem_cons.mpr ⟨kFo_lossWith_30, (List.forall_mem_cons.mpr ⟨kFo_lossWith_37, (List.forall_mem_cons.mpr ⟨kFo_lossWith_44, (List.forall_mem_cons.mpr ⟨kFo_lossWith_74, (fun _ h => absurd h List.not_mem_nil)⟩)⟩)⟩)⟩)⟩)
theorem rFo_lossWith : mFo_lossWith.2.2.2 = some .int := rfl
def mFo_wishOf : Mt := (⟨"HerbWaters$Foresight", "wishOf", "(LHerbWaters$Days;III)I"⟩, prog_6_method_9_code, 9, some .int)
theorem ok_Fo_wishOf : Mok mFo_wishOf := ⟨gtb_mem 1659 (by decide +kernel) rfl, gtb_mem 98 (by decide +kernel) rfl, by decide +kernel, by decide⟩
theorem lFo_k96 : Snd "HerbWaters$Foresight" (iLDC 96 2147483647) := sLDC (gtb_mem 1660 (by decide +kernel) rfl)
theorem lFo_v97 : Snd "HerbWaters$Foresight" (iCV6 97 4 mFo_lossWith) := sCV6 _ rfl rfl ok_Fo_lossWith (gtb_mem 1652 (by decide +kernel) rfl) (gtb_mem 1653 (by decide +kernel) rfl) (gtb_mem 1661 (by decide +kernel) rfl)
def bFo_wishOf_0 : List Ir := [iC0, iSI5, (iLDC 96 2147483647), iSI6, iC0, iSI7]
def bFo_wishOf_10 : List Ir := [iLI7, iC3, (iICgt (39) 52)]
def bFo_wishOf_16 : List Ir := [iLA0, iLA1, iLI2, iLI7, iLI3, iLI4, iLI6, (iCV6 97 4 mFo_lossWith), iSI8, iLI8, iLI6, (iICge (11) 46)]
def bFo_wishOf_38 : List Ir := [iLI8, iSI6, iLI7, iSI5]
def bFo_wishOf_46 : List Ir := [(iINC7 1), (iGO (-39) 10)]
def bFo_wishOf_52 : List Ir := [iLI5, iRI]
def tFo_wishOf : Tb := [(0, bFo_wishOf_0, 10), (10, bFo_wishOf_10, 16), (16, bFo_wishOf_16, 38), (38, bFo_wishOf_38, 46), (46, bFo_wishOf_46, 52), (52, bFo_wishOf_52, 55)]
theorem fFo_wishOf_0 : tbf tFo_wishOf 0 = some (bFo_wishOf_0, 10) := rfl
theorem fFo_wishOf_10 : tbf tFo_wishOf 10 = some (bFo_wishOf_10, 16) := rfl
theorem fFo_wishOf_16 : tbf tFo_wishOf 16 = some (bFo_wishOf_16, 38) := rfl
theorem fFo_wishOf_38 : tbf tFo_wishOf 38 = some (bFo_wishOf_38, 46) := rfl
theorem fFo_wishOf_46 : tbf tFo_wishOf 46 = some (bFo_wishOf_46, 52) := rfl
theorem fFo_wishOf_52 : tbf tFo_wishOf 52 = some (bFo_wishOf_52, 55) := rfl
theorem kFo_wishOf_0 : Bok "HerbWaters$Foresight" prog_6_method_9_code (0, bFo_wishOf_0, 10) := ⟨by decide +kernel, (List.forall_mem_cons.mpr ⟨sC0, (List.forall_mem_cons.mpr ⟨sSI5, (List.forall_mem_cons.mpr ⟨lFo_k96, (List.forall_mem_cons.mpr ⟨sSI6, (List.forall_mem_cons.mpr ⟨sC0, (List.forall_mem_cons.mpr ⟨sSI7, (fun _ h => absurd h List.not_mem_nil)⟩)⟩)⟩)⟩)⟩)⟩)⟩
theorem kFo_wishOf_10 : Bok "HerbWaters$Foresight" prog_6_method_9_code (10, bFo_wishOf_10, 16) := ⟨by decide +kernel, (List.forall_mem_cons.mpr ⟨sLI7, (List.forall_mem_cons.mpr ⟨sC3, (List.forall_mem_cons.mpr ⟨sICgt, (fun _ h => absurd h List.not_mem_nil)⟩)⟩)⟩)⟩
theorem kFo_wishOf_16 : Bok "HerbWaters$Foresight" prog_6_method_9_code (16, bFo_wishOf_16, 38) := ⟨by decide +kernel, (List.forall_mem_cons.mpr ⟨sLA0, (List.forall_mem_cons.mpr ⟨sLA1, (List.forall_mem_cons.mpr ⟨sLI2, (List.forall_mem_cons.mpr ⟨sLI7, (List.forall_mem_cons.mpr ⟨sLI3, (List.forall_mem_cons.mpr ⟨sLI4, (List.forall_mem_cons.mpr ⟨sLI6, (List.forall_mem_cons.mpr ⟨lFo_v97, (List.forall_mem_cons.mpr ⟨sSI8, (List.forall_mem_cons.mpr ⟨sLI8, (List.forall_mem_cons.mpr ⟨sLI6, (List.forall_mem_cons.mpr ⟨sICge, (fun _ h => absurd h List.not_mem_nil)⟩)⟩)⟩)⟩)⟩)⟩)⟩)⟩)⟩)⟩)⟩)⟩)⟩
theorem kFo_wishOf_38 : Bok "HerbWaters$Foresight" prog_6_method_9_code (38, bFo_wishOf_38, 46) := ⟨by decide +kernel, (List.forall_mem_cons.mpr ⟨sLI8, (List.forall_mem_cons.mpr ⟨sSI6, (List.forall_mem_cons.mpr ⟨sLI7, (List.forall_mem_cons.mpr ⟨sSI5, (fun _ h => absurd h List.not_mem_nil)⟩)⟩)⟩)⟩)⟩
theorem kFo_wishOf_46 : Bok "HerbWaters$Foresight" prog_6_method_9_code (46, bFo_wishOf_46, 52) := ⟨by decide +kernel, (List.forall_mem_cons.mpr ⟨sINC7, (List.forall_mem_cons.mpr ⟨sGO, (fun _ h => absurd h List.not_mem_nil)⟩)⟩)⟩
theorem kFo_wishOf_52 : Bok "HerbWaters$Foresight" prog_6_method_9_code (52, bFo_wishOf_52, 55) := ⟨by decide +kernel, (List.forall_mem_cons.mpr ⟨sLI5, (List.forall_mem_cons.mpr ⟨sRI, (fun _ h => absurd h List.not_mem_nil)⟩)⟩)⟩
theorem kFo_wishOf : ∀ q ∈ tFo_wishOf, Bok "HerbWaters$Foresight" prog_6_method_9_code q := (List.forall_mem_cons.mpr ⟨kFo_wishOf_0, (List.forall_mem_cons.mpr ⟨kFo_wishOf_10, (List.forall_mem_cons.mpr ⟨kFo_wishOf_16, (List.forall_mem_cons.mpr ⟨kFo_wishOf_38, (List.forall_mem_cons.mpr ⟨kFo_wishOf_46, (List.forall_mem_cons.mpr ⟨kFo_wishOf_52, (fun _ h => absurd h List.not_mem_nil)⟩)⟩)⟩)⟩)⟩)⟩)
theorem rFo_wishOf : mFo_wishOf.2.2.2 = some .int := rfl
def mFo_settle : Mt := (⟨"HerbWaters$Foresight", "settle", "(LHerbWaters$Days;II)I"⟩, prog_6_method_10_code, 7, some .int)
theorem ok_Fo_settle : Mok mFo_settle := ⟨gtb_mem 1672 (by decide +kernel) rfl, gtb_mem 98 (by decide +kernel) rfl, by decide +kernel, by decide⟩
theorem lFo_g18 : Snd "HerbWaters$Foresight" (iGR 18 4 2) := sGR _ rfl (gtb_mem 410 (by decide +kernel) rfl)
def mFo_gradesOf : Mt := (⟨"HerbWaters$Foresight", "gradesOf", "(LHerbWaters$Days;)I"⟩, prog_6_method_11_code, 3, some .int)
theorem ok_Fo_gradesOf : Mok mFo_gradesOf := ⟨gtb_mem 1675 (by decide +kernel) rfl, gtb_mem 98 (by decide +kernel) rfl, by decide +kernel, by decide⟩
theorem lFo_s101 : Snd "HerbWaters$Foresight" (iCS1 101 mFo_gradesOf) := sCS1 ok_Fo_gradesOf (gtb_mem 1674 (by decide +kernel) rfl) (gtb_mem 1673 (by decide +kernel) rfl)
theorem lFo_v105 : Snd "HerbWaters$Foresight" (iCV4 105 4 mFo_wishOf) := sCV4 _ rfl rfl ok_Fo_wishOf (gtb_mem 1657 (by decide +kernel) rfl) (gtb_mem 1658 (by decide +kernel) rfl) (gtb_mem 1676 (by decide +kernel) rfl)
def bFo_settle_0 : List Ir := [iLA0, (iGR 18 4 2), iC0, iLA1, (iCS1 101 mFo_gradesOf), iIAST, iC1, iSI4]
def bFo_settle_13 : List Ir := [iLI4, (iBP 20), (iICgt (104) 121)]
def bFo_settle_20 : List Ir := [iC0, iSI5]
def bFo_settle_23 : List Ir := [iLI5, iLA1, (iGI 69 2 7), (iICge (25) 54)]
def bFo_settle_32 : List Ir := [iLA1, (iGR 90 2 5), iLI5, iLA0, iLA1, iLI5, iLI2, iLI3, (iCV4 105 4 mFo_wishOf), iIAST, (iINC5 1), (iGO (-28) 23)]
def bFo_settle_54 : List Ir := [iLA1, (iCS1 101 mFo_gradesOf), iSI5, iLI5, iLA0, (iGR 18 4 2), iLI4, iC1, iSUB, iIALD, (iICne (5) 76)]
def bFo_settle_74 : List Ir := [iC1, iRI]
def bFo_settle_76 : List Ir := [iC0, iSI6]
def bFo_settle_79 : List Ir := [iLI6, iLI4, (iICge (23) 106)]
def bFo_settle_86 : List Ir := [iLA0, (iGR 18 4 2), iLI6, iIALD, iLI5, (iICne (5) 100)]
def bFo_settle_98 : List Ir := [iC0, iRI]
def bFo_settle_100 : List Ir := [(iINC6 1), (iGO (-24) 79)]
def bFo_settle_106 : List Ir := [iLA0, (iGR 18 4 2), iLI4, iLI5, iIAST, (iINC4 1), (iGO (-105) 13)]
def bFo_settle_121 : List Ir := [iC0, iRI]
def tFo_settle : Tb := [(0, bFo_settle_0, 13), (13, bFo_settle_13, 20), (20, bFo_settle_20, 23), (23, bFo_settle_23, 32), (32, bFo_settle_32, 54), (54, bFo_settle_54, 74), (74, bFo_settle_74, 76), (76, bFo_settle_76, 79), (79, bFo_settle_79, 86), (86, bFo_settle_86, 98), (98, bFo_settle_98, 100), (100, bFo_settle_100, 106), (106, bFo_settle_106, 121), (121, bFo_settle_121, 123)]
theorem fFo_settle_0 : tbf tFo_settle 0 = some (bFo_settle_0, 13) := rfl
theorem fFo_settle_13 : tbf tFo_settle 13 = some (bFo_settle_13, 20) := rfl
theorem fFo_settle_20 : tbf tFo_settle 20 = some (bFo_settle_20, 23) := rfl
theorem fFo_settle_23 : tbf tFo_settle 23 = some (bFo_settle_23, 32) := rfl
theorem fFo_settle_32 : tbf tFo_settle 32 = some (bFo_settle_32, 54) := rfl
theorem fFo_settle_54 : tbf tFo_settle 54 = some (bFo_settle_54, 74) := rfl
theorem fFo_settle_74 : tbf tFo_settle 74 = some (bFo_settle_74, 76) := rfl
theorem fFo_settle_76 : tbf tFo_settle 76 = some (bFo_settle_76, 79) := rfl
theorem fFo_settle_79 : tbf tFo_settle 79 = some (bFo_settle_79, 86) := rfl
theorem fFo_settle_86 : tbf tFo_settle 86 = some (bFo_settle_86, 98) := rfl
theorem fFo_settle_98 : tbf tFo_settle 98 = some (bFo_settle_98, 100) := rfl
theorem fFo_settle_100 : tbf tFo_settle 100 = some (bFo_settle_100, 106) := rfl
theorem fFo_settle_106 : tbf tFo_settle 106 = some (bFo_settle_106, 121) := rfl
theorem fFo_settle_121 : tbf tFo_settle 121 = some (bFo_settle_121, 123) := rfl
theorem kFo_settle_0 : Bok "HerbWaters$Foresight" prog_6_method_10_code (0, bFo_settle_0, 13) := ⟨by decide +kernel, (List.forall_mem_cons.mpr ⟨sLA0, (List.forall_mem_cons.mpr ⟨lFo_g18, (List.forall_mem_cons.mpr ⟨sC0, (List.forall_mem_cons.mpr ⟨sLA1, (List.forall_mem_cons.mpr ⟨lFo_s101, (List.forall_mem_cons.mpr ⟨sIAST, (List.forall_mem_cons.mpr ⟨sC1, (List.forall_mem_cons.mpr ⟨sSI4, (fun _ h => absurd h List.not_mem_nil)⟩)⟩)⟩)⟩)⟩)⟩)⟩)⟩)⟩
theorem kFo_settle_13 : Bok "HerbWaters$Foresight" prog_6_method_10_code (13, bFo_settle_13, 20) := ⟨by decide +kernel, (List.forall_mem_cons.mpr ⟨sLI4, (List.forall_mem_cons.mpr ⟨sBP, (List.forall_mem_cons.mpr ⟨sICgt, (fun _ h => absurd h List.not_mem_nil)⟩)⟩)⟩)⟩
theorem kFo_settle_20 : Bok "HerbWaters$Foresight" prog_6_method_10_code (20, bFo_settle_20, 23) := ⟨by decide +kernel, (List.forall_mem_cons.mpr ⟨sC0, (List.forall_mem_cons.mpr ⟨sSI5, (fun _ h => absurd h List.not_mem_nil)⟩)⟩)⟩
theorem kFo_settle_23 : Bok "HerbWaters$Foresight" prog_6_method_10_code (23, bFo_settle_23, 32) := ⟨by decide +kernel, (List.forall_mem_cons.mpr ⟨sLI5, (List.forall_mem_cons.mpr ⟨sLA1, (List.forall_mem_cons.mpr ⟨lFo_g69, (List.forall_mem_cons.mpr ⟨sICge, (fun _ h => absurd h List.not_mem_nil)⟩)⟩)⟩)⟩)⟩
theorem kFo_settle_32 : Bok "HerbWaters$Foresight" prog_6_method_10_code (32, bFo_settle_32, 54) := ⟨by decide +kernel, (List.forall_mem_cons.mpr ⟨sLA1, (List.forall_mem_cons.mpr ⟨lFo_g90, (List.forall_mem_cons.mpr ⟨sLI5, (List.forall_mem_cons.mpr ⟨sLA0, (List.forall_mem_cons.mpr ⟨sLA1, (List.forall_mem_cons.mpr ⟨sLI5, (List.forall_mem_cons.mpr ⟨sLI2, (List.forall_mem_cons.mpr ⟨sLI3, (List.forall_mem_cons.mpr ⟨lFo_v105, (List.forall_mem_cons.mpr ⟨sIAST, (List.forall_mem_cons.mpr ⟨sINC5, (List.forall_mem_cons.mpr ⟨sGO, (fun _ h => absurd h List.not_mem_nil)⟩)⟩)⟩)⟩)⟩)⟩)⟩)⟩)⟩)⟩)⟩)⟩)⟩
theorem kFo_settle_54 : Bok "HerbWaters$Foresight" prog_6_method_10_code (54, bFo_settle_54, 74) := ⟨by decide +kernel, (List.forall_mem_cons.mpr ⟨sLA1, (List.forall_mem_cons.mpr ⟨lFo_s101, (List.forall_mem_cons.mpr ⟨sSI5, (List.forall_mem_cons.mpr ⟨sLI5, (List.forall_mem_cons.mpr ⟨sLA0, (List.forall_mem_cons.mpr ⟨lFo_g18, (List.forall_mem_cons.mpr ⟨sLI4, (List.forall_mem_cons.mpr ⟨sC1, (List.forall_mem_cons.mpr ⟨sSUB, (List.forall_mem_cons.mpr ⟨sIALD, (List.forall_mem_cons.mpr ⟨sICne, (fun _ h => absurd h List.not_mem_nil)⟩)⟩)⟩)⟩)⟩)⟩)⟩)⟩)⟩)⟩)⟩)⟩
theorem kFo_settle_74 : Bok "HerbWaters$Foresight" prog_6_method_10_code (74, bFo_settle_74, 76) := ⟨by decide +kernel, (List.forall_mem_cons.mpr ⟨sC1, (List.forall_mem_cons.mpr ⟨sRI, (fun _ h => absurd h List.not_mem_nil)⟩)⟩)⟩
theorem kFo_settle_76 : Bok "HerbWaters$Foresight" prog_6_method_10_code (76, bFo_settle_76, 79) := ⟨by decide +kernel, (List.forall_mem_cons.mpr ⟨sC0, (List.forall_mem_cons.mpr ⟨sSI6, (fun _ h => absurd h List.not_mem_nil)⟩)⟩)⟩
theorem kFo_settle_79 : Bok "HerbWaters$Foresight" prog_6_method_10_code (79, bFo_settle_79, 86) := ⟨by decide +kernel, (List.forall_mem_cons.mpr ⟨sLI6, (List.forall_mem_cons.mpr ⟨sLI4, (List.forall_mem_cons.mpr ⟨sICge, (fun _ h => absurd h List.not_mem_nil)⟩)⟩)⟩)⟩
theorem kFo_settle_86 : Bok "HerbWaters$Foresight" prog_6_method_10_code (86, bFo_settle_86, 98) := ⟨by decide +kernel, (List.forall_mem_cons.mpr ⟨sLA0, (List.forall_mem_cons.mpr ⟨lFo_g18, (List.forall_mem_cons.mpr ⟨sLI6, (List.forall_mem_cons.mpr ⟨sIALD, (List.forall_mem_cons.mpr ⟨sLI5, (List.forall_mem_cons.mpr ⟨sICne, (fun _ h => absurd h List.not_mem_nil)⟩)⟩)⟩)⟩)⟩)⟩)⟩
theorem kFo_settle_98 : Bok "HerbWaters$Foresight" prog_6_method_10_code (98, bFo_settle_98, 100) := ⟨by decide +kernel, (List.forall_mem_cons.mpr ⟨sC0, (List.forall_mem_cons.mpr ⟨sRI, (fun _ h => absurd h List.not_mem_nil)⟩)⟩)⟩
theorem kFo_settle_100 : Bok "HerbWaters$Foresight" prog_6_method_10_code (100, bFo_settle_100, 106) := ⟨by decide +kernel, (List.forall_mem_cons.mpr ⟨sINC6, (List.forall_mem_cons.mpr ⟨sGO, (fun _ h => absurd h List.not_mem_nil)⟩)⟩)⟩
theorem kFo_settle_106 : Bok "HerbWaters$Foresight" prog_6_method_10_code (106, bFo_settle_106, 121) := ⟨by decide +kernel, (List.forall_mem_cons.mpr ⟨sLA0, (List.forall_mem_cons.mpr ⟨lFo_g18, (List.forall_mem_cons.mpr ⟨sLI4, (List.forall_mem_cons.mpr ⟨sLI5, (List.forall_mem_cons.mpr ⟨sIAST, (List.forall_mem_cons.mpr ⟨sINC4, (List.forall_mem_cons.mpr ⟨sGO, (fun _ h => absurd h List.not_mem_nil)⟩)⟩)⟩)⟩)⟩)⟩)⟩)⟩
theorem kFo_settle_121 : Bok "HerbWaters$Foresight" prog_6_method_10_code (121, bFo_settle_121, 123) := ⟨by decide +kernel, (List.forall_mem_cons.mpr ⟨sC0, (List.forall_mem_cons.mpr ⟨sRI, (fun _ h => absurd h List.not_mem_nil)⟩)⟩)⟩
theorem kFo_settle : ∀ q ∈ tFo_settle, Bok "HerbWaters$Foresight" prog_6_method_10_code q := (List.forall_mem_cons.mpr ⟨kFo_settle_0, (List.forall_mem_cons.mpr ⟨kFo_settle_13, (List.forall_mem_cons.mpr ⟨kFo_settle_20, (List.forall_mem_cons.mpr ⟨kFo_settle_23, (List.forall_mem_cons.mpr ⟨kFo_settle_32, (List.forall_mem_cons.mpr ⟨kFo_settle_54, (List.forall_mem_cons.mpr ⟨kFo_settle_74, (List.forall_mem_cons.mpr ⟨kFo_settle_76, (List.forall_mem_cons.mpr ⟨kFo_settle_79, (List.forall_mem_cons.mpr ⟨kFo_settle_86, (List.forall_mem_cons.mpr ⟨kFo_settle_98, (List.forall_mem_cons.mpr ⟨kFo_settle_100, (List.forall_mem_cons.mpr ⟨kFo_settle_106, (List.forall_mem_cons.mpr ⟨kFo_settle_121, (fun _ h => absurd h List.not_mem_nil)⟩)⟩)⟩)⟩)⟩)⟩)⟩)⟩)⟩)⟩)⟩)⟩)⟩)⟩)
theorem rFo_settle : mFo_settle.2.2.2 = some .int := rfl
def bFo_gradesOf_0 : List Ir := [iC0, iSI1, iC0, iSI2]
def bFo_gradesOf_4 : List Ir := [iLI2, iLA0, (iGI 69 2 7), (iICge (20) 29)]
def bFo_gradesOf_12 : List Ir := [iLI1, iC4, iMUL, iLA0, (iGR 90 2 5), iLI2, iIALD, iADD, iSI1, (iINC2 1), (iGO (-22) 4)]
def bFo_gradesOf_29 : List Ir := [iLI1, iRI]
def tFo_gradesOf : Tb := [(0, bFo_gradesOf_0, 4), (4, bFo_gradesOf_4, 12), (12, bFo_gradesOf_12, 29), (29, bFo_gradesOf_29, 31)]
theorem fFo_gradesOf_0 : tbf tFo_gradesOf 0 = some (bFo_gradesOf_0, 4) := rfl
theorem fFo_gradesOf_4 : tbf tFo_gradesOf 4 = some (bFo_gradesOf_4, 12) := rfl
theorem fFo_gradesOf_12 : tbf tFo_gradesOf 12 = some (bFo_gradesOf_12, 29) := rfl
theorem fFo_gradesOf_29 : tbf tFo_gradesOf 29 = some (bFo_gradesOf_29, 31) := rfl
theorem kFo_gradesOf_0 : Bok "HerbWaters$Foresight" prog_6_method_11_code (0, bFo_gradesOf_0, 4) := ⟨by decide +kernel, (List.forall_mem_cons.mpr ⟨sC0, (List.forall_mem_cons.mpr ⟨sSI1, (List.forall_mem_cons.mpr ⟨sC0, (List.forall_mem_cons.mpr ⟨sSI2, (fun _ h => absurd h List.not_mem_nil)⟩)⟩)⟩)⟩)⟩
theorem kFo_gradesOf_4 : Bok "HerbWaters$Foresight" prog_6_method_11_code (4, bFo_gradesOf_4, 12) := ⟨by decide +kernel, (List.forall_mem_cons.mpr ⟨sLI2, (List.forall_mem_cons.mpr ⟨sLA0, (List.forall_mem_cons.mpr ⟨lFo_g69, (List.forall_mem_cons.mpr ⟨sICge, (fun _ h => absurd h List.not_mem_nil)⟩)⟩)⟩)⟩)⟩
theorem kFo_gradesOf_12 : Bok "HerbWaters$Foresight" prog_6_method_11_code (12, bFo_gradesOf_12, 29) := ⟨by decide +kernel, (List.forall_mem_cons.mpr ⟨sLI1, (List.forall_mem_cons.mpr ⟨sC4, (List.forall_mem_cons.mpr ⟨sMUL, (List.forall_mem_cons.mpr ⟨sLA0, (List.forall_mem_cons.mpr ⟨lFo_g90, (List.forall_mem_cons.mpr ⟨sLI2, (List.forall_mem_cons.mpr ⟨sIALD, (List.forall_mem_cons.mpr ⟨sADD, (List.forall_mem_cons.mpr ⟨sSI1, (List.forall_mem_cons.mpr ⟨sINC2, (List.forall_mem_cons.mpr ⟨sGO, (fun _ h => absurd h List.not_mem_nil)⟩)⟩)⟩)⟩)⟩)⟩)⟩)⟩)⟩)⟩)⟩)⟩
theorem kFo_gradesOf_29 : Bok "HerbWaters$Foresight" prog_6_method_11_code (29, bFo_gradesOf_29, 31) := ⟨by decide +kernel, (List.forall_mem_cons.mpr ⟨sLI1, (List.forall_mem_cons.mpr ⟨sRI, (fun _ h => absurd h List.not_mem_nil)⟩)⟩)⟩
theorem kFo_gradesOf : ∀ q ∈ tFo_gradesOf, Bok "HerbWaters$Foresight" prog_6_method_11_code q := (List.forall_mem_cons.mpr ⟨kFo_gradesOf_0, (List.forall_mem_cons.mpr ⟨kFo_gradesOf_4, (List.forall_mem_cons.mpr ⟨kFo_gradesOf_12, (List.forall_mem_cons.mpr ⟨kFo_gradesOf_29, (fun _ h => absurd h List.not_mem_nil)⟩)⟩)⟩)⟩)
theorem rFo_gradesOf : mFo_gradesOf.2.2.2 = some .int := rfl
def mFo_droughtWater : Mt := (⟨"HerbWaters$Foresight", "droughtWater", "(LHerbWaters$Days;III)I"⟩, prog_6_method_12_code, 7, some .int)
theorem ok_Fo_droughtWater : Mok mFo_droughtWater := ⟨gtb_mem 1691 (by decide +kernel) rfl, gtb_mem 98 (by decide +kernel) rfl, by decide +kernel, by decide⟩
theorem lFo_p109 : Snd "HerbWaters$Foresight" (iPI 109 2 16) := sPIN _ rfl rfl "HerbWaters" (List.mem_filter.mpr ⟨List.mem_of_getElem? (i := 367) (by decide +kernel), rfl⟩)
theorem lFo_p112 : Snd "HerbWaters$Foresight" (iPI 112 2 17) := sPIN _ rfl rfl "HerbWaters" (List.mem_filter.mpr ⟨List.mem_of_getElem? (i := 369) (by decide +kernel), rfl⟩)
def bFo_droughtWater_0 : List Ir := [iLA0, (iGR 12 4 1), iLA1, (iCV1 36 2 mDy_copyFrom), iLA0, (iGR 12 4 1), iLI2, (iPI 109 2 16), iLA0, (iGR 12 4 1), iLI3, (iPI 112 2 17), iC0, iSI5, iC0, iSI6]
def bFo_droughtWater_30 : List Ir := [iLI6, iLI4, (iICge (34) 68)]
def bFo_droughtWater_37 : List Ir := [iLA0, (iGR 32 4 0), iLA0, (iGR 12 4 1), (iCV1 44 0 mAq_goDay), iLI5, iLA0, (iGR 12 4 1), (iGR 87 2 6), iC0, iIALD, iADD, iSI5, (iINC6 1), (iGO (-35) 30)]
def bFo_droughtWater_68 : List Ir := [iLI5, iRI]
def tFo_droughtWater : Tb := [(0, bFo_droughtWater_0, 30), (30, bFo_droughtWater_30, 37), (37, bFo_droughtWater_37, 68), (68, bFo_droughtWater_68, 71)]
theorem fFo_droughtWater_0 : tbf tFo_droughtWater 0 = some (bFo_droughtWater_0, 30) := rfl
theorem fFo_droughtWater_30 : tbf tFo_droughtWater 30 = some (bFo_droughtWater_30, 37) := rfl
theorem fFo_droughtWater_37 : tbf tFo_droughtWater 37 = some (bFo_droughtWater_37, 68) := rfl
theorem fFo_droughtWater_68 : tbf tFo_droughtWater 68 = some (bFo_droughtWater_68, 71) := rfl
theorem kFo_droughtWater_0 : Bok "HerbWaters$Foresight" prog_6_method_12_code (0, bFo_droughtWater_0, 30) := ⟨by decide +kernel, (List.forall_mem_cons.mpr ⟨sLA0, (List.forall_mem_cons.mpr ⟨lFo_g12, (List.forall_mem_cons.mpr ⟨sLA1, (List.forall_mem_cons.mpr ⟨lFo_v36, (List.forall_mem_cons.mpr ⟨sLA0, (List.forall_mem_cons.mpr ⟨lFo_g12, (List.forall_mem_cons.mpr ⟨sLI2, (List.forall_mem_cons.mpr ⟨lFo_p109, (List.forall_mem_cons.mpr ⟨sLA0, (List.forall_mem_cons.mpr ⟨lFo_g12, (List.forall_mem_cons.mpr ⟨sLI3, (List.forall_mem_cons.mpr ⟨lFo_p112, (List.forall_mem_cons.mpr ⟨sC0, (List.forall_mem_cons.mpr ⟨sSI5, (List.forall_mem_cons.mpr ⟨sC0, (List.forall_mem_cons.mpr ⟨sSI6, (fun _ h => absurd h List.not_mem_nil)⟩)⟩)⟩)⟩)⟩)⟩)⟩)⟩)⟩)⟩)⟩)⟩)⟩)⟩)⟩)⟩)⟩
theorem kFo_droughtWater_30 : Bok "HerbWaters$Foresight" prog_6_method_12_code (30, bFo_droughtWater_30, 37) := ⟨by decide +kernel, (List.forall_mem_cons.mpr ⟨sLI6, (List.forall_mem_cons.mpr ⟨sLI4, (List.forall_mem_cons.mpr ⟨sICge, (fun _ h => absurd h List.not_mem_nil)⟩)⟩)⟩)⟩
theorem kFo_droughtWater_37 : Bok "HerbWaters$Foresight" prog_6_method_12_code (37, bFo_droughtWater_37, 68) := ⟨by decide +kernel, (List.forall_mem_cons.mpr ⟨sLA0, (List.forall_mem_cons.mpr ⟨lFo_g32, (List.forall_mem_cons.mpr ⟨sLA0, (List.forall_mem_cons.mpr ⟨lFo_g12, (List.forall_mem_cons.mpr ⟨lFo_v44, (List.forall_mem_cons.mpr ⟨sLI5, (List.forall_mem_cons.mpr ⟨sLA0, (List.forall_mem_cons.mpr ⟨lFo_g12, (List.forall_mem_cons.mpr ⟨lFo_g87, (List.forall_mem_cons.mpr ⟨sC0, (List.forall_mem_cons.mpr ⟨sIALD, (List.forall_mem_cons.mpr ⟨sADD, (List.forall_mem_cons.mpr ⟨sSI5, (List.forall_mem_cons.mpr ⟨sINC6, (List.forall_mem_cons.mpr ⟨sGO, (fun _ h => absurd h List.not_mem_nil)⟩)⟩)⟩)⟩)⟩)⟩)⟩)⟩)⟩)⟩)⟩)⟩)⟩)⟩)⟩)⟩
theorem kFo_droughtWater_68 : Bok "HerbWaters$Foresight" prog_6_method_12_code (68, bFo_droughtWater_68, 71) := ⟨by decide +kernel, (List.forall_mem_cons.mpr ⟨sLI5, (List.forall_mem_cons.mpr ⟨sRI, (fun _ h => absurd h List.not_mem_nil)⟩)⟩)⟩
theorem kFo_droughtWater : ∀ q ∈ tFo_droughtWater, Bok "HerbWaters$Foresight" prog_6_method_12_code q := (List.forall_mem_cons.mpr ⟨kFo_droughtWater_0, (List.forall_mem_cons.mpr ⟨kFo_droughtWater_30, (List.forall_mem_cons.mpr ⟨kFo_droughtWater_37, (List.forall_mem_cons.mpr ⟨kFo_droughtWater_68, (fun _ h => absurd h List.not_mem_nil)⟩)⟩)⟩)⟩)
theorem rFo_droughtWater : mFo_droughtWater.2.2.2 = some .int := rfl
def mFo_findRound : Mt := (⟨"HerbWaters$Foresight", "findRound", "(LHerbWaters$Days;)V"⟩, prog_6_method_13_code, 5, none)
theorem ok_Fo_findRound : Mok mFo_findRound := ⟨gtb_mem 1616 (by decide +kernel) rfl, gtb_mem 98 (by decide +kernel) rfl, by decide +kernel, by decide⟩
theorem lFo_p25 : Snd "HerbWaters$Foresight" (iPI 25 4 4) := sPI _ rfl rfl (gtb_mem 412 (by decide +kernel) rfl)
theorem lFo_p29 : Snd "HerbWaters$Foresight" (iPI 29 4 5) := sPI _ rfl rfl (gtb_mem 414 (by decide +kernel) rfl)
theorem lFo_v115 : Snd "HerbWaters$Foresight" (iCV0 115 0 mAq_asksDay) := sCV0 _ rfl rfl ok_Aq_asksDay (gtb_mem 1618 (by decide +kernel) rfl) (gtb_mem 1619 (by decide +kernel) rfl) (gtb_mem 1617 (by decide +kernel) rfl)
theorem lFo_g22 : Snd "HerbWaters$Foresight" (iGR 22 4 3) := sGR _ rfl (gtb_mem 411 (by decide +kernel) rfl)
theorem lFo_k119 : Snd "HerbWaters$Foresight" (iLDC 119 81405) := sLDC (gtb_mem 1621 (by decide +kernel) rfl)
theorem lFo_p22 : Snd "HerbWaters$Foresight" (iPR 22 4 3) := sPR _ rfl rfl (gtb_mem 411 (by decide +kernel) rfl)
def mFo_writeRow : Mt := (⟨"HerbWaters$Foresight", "writeRow", "(I)I"⟩, prog_6_method_14_code, 7, some .int)
theorem ok_Fo_writeRow : Mok mFo_writeRow := ⟨gtb_mem 1625 (by decide +kernel) rfl, gtb_mem 98 (by decide +kernel) rfl, by decide +kernel, by decide⟩
theorem lFo_v120 : Snd "HerbWaters$Foresight" (iCV1 120 4 mFo_writeRow) := sCV1 _ rfl rfl ok_Fo_writeRow (gtb_mem 1624 (by decide +kernel) rfl) (gtb_mem 36 (by decide +kernel) rfl) (gtb_mem 1622 (by decide +kernel) rfl)
def mFo_rowLike : Mt := (⟨"HerbWaters$Foresight", "rowLike", "(II)I"⟩, prog_6_method_15_code, 5, some .int)
theorem ok_Fo_rowLike : Mok mFo_rowLike := ⟨gtb_mem 1631 (by decide +kernel) rfl, gtb_mem 98 (by decide +kernel) rfl, by decide +kernel, by decide⟩
theorem lFo_v123 : Snd "HerbWaters$Foresight" (iCV2 123 4 mFo_rowLike) := sCV2 _ rfl rfl ok_Fo_rowLike (gtb_mem 1630 (by decide +kernel) rfl) (gtb_mem 37 (by decide +kernel) rfl) (gtb_mem 1628 (by decide +kernel) rfl)
def bFo_findRound_0 : List Ir := [iLA0, iCm1, (iPI 25 4 4), iLA0, iCm1, (iPI 29 4 5), iLA0, (iGR 32 4 0), (iCV0 115 0 mAq_asksDay), (iIFeq (4) 21)]
def bFo_findRound_20 : List Ir := [iRV]
def bFo_findRound_21 : List Ir := [iLA0, (iGR 22 4 3), iALEN, (iIFne (11) 37)]
def bFo_findRound_29 : List Ir := [iLA0, (iLDC 119 81405), iNAI, (iPR 22 4 3)]
def bFo_findRound_37 : List Ir := [iLA0, (iGR 12 4 1), iLA1, (iCV1 36 2 mDy_copyFrom), iLA0, iC0, (iCV1 120 4 mFo_writeRow), iSI2, iC1, iSI3]
def bFo_findRound_53 : List Ir := [iLI3, (iSP 200), (iICgt (54) 111)]
def bFo_findRound_60 : List Ir := [iLA0, (iGR 32 4 0), iLA0, (iGR 12 4 1), (iCV1 44 0 mAq_goDay), iLA0, iLI3, (iCV1 120 4 mFo_writeRow), iPOPi, iLA0, iLI3, iLI2, (iCV2 123 4 mFo_rowLike), iSI4, iLI4, iCm1, (iICeq (17) 105)]
def bFo_findRound_91 : List Ir := [iLA0, iLI3, (iPI 25 4 4), iLA0, iLI3, iLI4, iSUB, (iPI 29 4 5), iRV]
def bFo_findRound_105 : List Ir := [(iINC3 1), (iGO (-55) 53)]
def bFo_findRound_111 : List Ir := [iRV]
def tFo_findRound : Tb := [(0, bFo_findRound_0, 20), (20, bFo_findRound_20, 21), (21, bFo_findRound_21, 29), (29, bFo_findRound_29, 37), (37, bFo_findRound_37, 53), (53, bFo_findRound_53, 60), (60, bFo_findRound_60, 91), (91, bFo_findRound_91, 105), (105, bFo_findRound_105, 111), (111, bFo_findRound_111, 112)]
theorem fFo_findRound_0 : tbf tFo_findRound 0 = some (bFo_findRound_0, 20) := rfl
theorem fFo_findRound_20 : tbf tFo_findRound 20 = some (bFo_findRound_20, 21) := rfl
theorem fFo_findRound_21 : tbf tFo_findRound 21 = some (bFo_findRound_21, 29) := rfl
theorem fFo_findRound_29 : tbf tFo_findRound 29 = some (bFo_findRound_29, 37) := rfl
theorem fFo_findRound_37 : tbf tFo_findRound 37 = some (bFo_findRound_37, 53) := rfl
theorem fFo_findRound_53 : tbf tFo_findRound 53 = some (bFo_findRound_53, 60) := rfl
theorem fFo_findRound_60 : tbf tFo_findRound 60 = some (bFo_findRound_60, 91) := rfl
theorem fFo_findRound_91 : tbf tFo_findRound 91 = some (bFo_findRound_91, 105) := rfl
theorem fFo_findRound_105 : tbf tFo_findRound 105 = some (bFo_findRound_105, 111) := rfl
theorem fFo_findRound_111 : tbf tFo_findRound 111 = some (bFo_findRound_111, 112) := rfl
theorem kFo_findRound_0 : Bok "HerbWaters$Foresight" prog_6_method_13_code (0, bFo_findRound_0, 20) := ⟨by decide +kernel, (List.forall_mem_cons.mpr ⟨sLA0, (List.forall_mem_cons.mpr ⟨sCm1, (List.forall_mem_cons.mpr ⟨lFo_p25, (List.forall_mem_cons.mpr ⟨sLA0, (List.forall_mem_cons.mpr ⟨sCm1, (List.forall_mem_cons.mpr ⟨lFo_p29, (List.forall_mem_cons.mpr ⟨sLA0, (List.forall_mem_cons.mpr ⟨lFo_g32, (List.forall_mem_cons.mpr ⟨lFo_v115, (List.forall_mem_cons.mpr ⟨sIFeq, (fun _ h => absurd h List.not_mem_nil)⟩)⟩)⟩)⟩)⟩)⟩)⟩)⟩)⟩)⟩)⟩
theorem kFo_findRound_20 : Bok "HerbWaters$Foresight" prog_6_method_13_code (20, bFo_findRound_20, 21) := ⟨by decide +kernel, (List.forall_mem_cons.mpr ⟨sRV, (fun _ h => absurd h List.not_mem_nil)⟩)⟩
theorem kFo_findRound_21 : Bok "HerbWaters$Foresight" prog_6_method_13_code (21, bFo_findRound_21, 29) := ⟨by decide +kernel, (List.forall_mem_cons.mpr ⟨sLA0, (List.forall_mem_cons.mpr ⟨lFo_g22, (List.forall_mem_cons.mpr ⟨sALEN, (List.forall_mem_cons.mpr ⟨sIFne, (fun _ h => absurd h List.not_mem_nil)⟩)⟩)⟩)⟩)⟩
theorem kFo_findRound_29 : Bok "HerbWaters$Foresight" prog_6_method_13_code (29, bFo_findRound_29, 37) := ⟨by decide +kernel, (List.forall_mem_cons.mpr ⟨sLA0, (List.forall_mem_cons.mpr ⟨lFo_k119, (List.forall_mem_cons.mpr ⟨(sNAI (gtb_mem 246 (by decide +kernel) rfl)), (List.forall_mem_cons.mpr ⟨lFo_p22, (fun _ h => absurd h List.not_mem_nil)⟩)⟩)⟩)⟩)⟩
theorem kFo_findRound_37 : Bok "HerbWaters$Foresight" prog_6_method_13_code (37, bFo_findRound_37, 53) := ⟨by decide +kernel, (List.forall_mem_cons.mpr ⟨sLA0, (List.forall_mem_cons.mpr ⟨lFo_g12, (List.forall_mem_cons.mpr ⟨sLA1, (List.forall_mem_cons.mpr ⟨lFo_v36, (List.forall_mem_cons.mpr ⟨sLA0, (List.forall_mem_cons.mpr ⟨sC0, (List.forall_mem_cons.mpr ⟨lFo_v120, (List.forall_mem_cons.mpr ⟨sSI2, (List.forall_mem_cons.mpr ⟨sC1, (List.forall_mem_cons.mpr ⟨sSI3, (fun _ h => absurd h List.not_mem_nil)⟩)⟩)⟩)⟩)⟩)⟩)⟩)⟩)⟩)⟩)⟩
theorem kFo_findRound_53 : Bok "HerbWaters$Foresight" prog_6_method_13_code (53, bFo_findRound_53, 60) := ⟨by decide +kernel, (List.forall_mem_cons.mpr ⟨sLI3, (List.forall_mem_cons.mpr ⟨sSP, (List.forall_mem_cons.mpr ⟨sICgt, (fun _ h => absurd h List.not_mem_nil)⟩)⟩)⟩)⟩
theorem kFo_findRound_60 : Bok "HerbWaters$Foresight" prog_6_method_13_code (60, bFo_findRound_60, 91) := ⟨by decide +kernel, (List.forall_mem_cons.mpr ⟨sLA0, (List.forall_mem_cons.mpr ⟨lFo_g32, (List.forall_mem_cons.mpr ⟨sLA0, (List.forall_mem_cons.mpr ⟨lFo_g12, (List.forall_mem_cons.mpr ⟨lFo_v44, (List.forall_mem_cons.mpr ⟨sLA0, (List.forall_mem_cons.mpr ⟨sLI3, (List.forall_mem_cons.mpr ⟨lFo_v120, (List.forall_mem_cons.mpr ⟨sPOPi, (List.forall_mem_cons.mpr ⟨sLA0, (List.forall_mem_cons.mpr ⟨sLI3, (List.forall_mem_cons.mpr ⟨sLI2, (List.forall_mem_cons.mpr ⟨lFo_v123, (List.forall_mem_cons.mpr ⟨sSI4, (List.forall_mem_cons.mpr ⟨sLI4, (List.forall_mem_cons.mpr ⟨sCm1, (List.forall_mem_cons.mpr ⟨sICeq, (fun _ h => absurd h List.not_mem_nil)⟩)⟩)⟩)⟩)⟩)⟩)⟩)⟩)⟩)⟩)⟩)⟩)⟩)⟩)⟩)⟩)⟩)⟩
theorem kFo_findRound_91 : Bok "HerbWaters$Foresight" prog_6_method_13_code (91, bFo_findRound_91, 105) := ⟨by decide +kernel, (List.forall_mem_cons.mpr ⟨sLA0, (List.forall_mem_cons.mpr ⟨sLI3, (List.forall_mem_cons.mpr ⟨lFo_p25, (List.forall_mem_cons.mpr ⟨sLA0, (List.forall_mem_cons.mpr ⟨sLI3, (List.forall_mem_cons.mpr ⟨sLI4, (List.forall_mem_cons.mpr ⟨sSUB, (List.forall_mem_cons.mpr ⟨lFo_p29, (List.forall_mem_cons.mpr ⟨sRV, (fun _ h => absurd h List.not_mem_nil)⟩)⟩)⟩)⟩)⟩)⟩)⟩)⟩)⟩)⟩
theorem kFo_findRound_105 : Bok "HerbWaters$Foresight" prog_6_method_13_code (105, bFo_findRound_105, 111) := ⟨by decide +kernel, (List.forall_mem_cons.mpr ⟨sINC3, (List.forall_mem_cons.mpr ⟨sGO, (fun _ h => absurd h List.not_mem_nil)⟩)⟩)⟩
theorem kFo_findRound_111 : Bok "HerbWaters$Foresight" prog_6_method_13_code (111, bFo_findRound_111, 112) := ⟨by decide +kernel, (List.forall_mem_cons.mpr ⟨sRV, (fun _ h => absurd h List.not_mem_nil)⟩)⟩
theorem kFo_findRound : ∀ q ∈ tFo_findRound, Bok "HerbWaters$Foresight" prog_6_method_13_code q := (List.forall_mem_cons.mpr ⟨kFo_findRound_0, (List.forall_mem_cons.mpr ⟨kFo_findRound_20, (List.forall_mem_cons.mpr ⟨kFo_findRound_21, (List.forall_mem_cons.mpr ⟨kFo_findRound_29, (List.forall_mem_cons.mpr ⟨kFo_findRound_37, (List.forall_mem_cons.mpr ⟨kFo_findRound_53, (List.forall_mem_cons.mpr ⟨kFo_findRound_60, (List.forall_mem_cons.mpr ⟨kFo_findRound_91, (List.forall_mem_cons.mpr ⟨kFo_findRound_105, (List.forall_mem_cons.mpr ⟨kFo_findRound_111, (fun _ h => absurd h List.not_mem_nil)⟩)⟩)⟩)⟩)⟩)⟩)⟩)⟩)⟩)⟩)
theorem rFo_findRound : mFo_findRound.2.2.2 = none := rfl
theorem lFo_g127 : Snd "HerbWaters$Foresight" (iGI 127 2 8) := sGIN _ rfl "HerbWaters" (List.mem_filter.mpr ⟨List.mem_of_getElem? (i := 341) (by decide +kernel), rfl⟩)
theorem lFo_g130 : Snd "HerbWaters$Foresight" (iGR 130 2 0) := sGRN _ rfl "HerbWaters" (List.mem_filter.mpr ⟨List.mem_of_getElem? (i := 314) (by decide +kernel), rfl⟩)
theorem lFo_c133 : Snd "HerbWaters$Foresight" (iACP 133) := sACP (gtb_mem 1626 (by decide +kernel) rfl) (gtb_mem 577 (by decide +kernel) rfl) (gtb_mem 576 (by decide +kernel) rfl) (gtb_mem 106 (by decide +kernel) rfl)
theorem lFo_g139 : Snd "HerbWaters$Foresight" (iGR 139 2 2) := sGRN _ rfl "HerbWaters" (List.mem_filter.mpr ⟨List.mem_of_getElem? (i := 319) (by decide +kernel), rfl⟩)
theorem lFo_g142 : Snd "HerbWaters$Foresight" (iGR 142 9 3) := sGRN _ rfl "HerbWaters" (List.mem_filter.mpr ⟨List.mem_of_getElem? (i := 185) (by decide +kernel), rfl⟩)
theorem lFo_g145 : Snd "HerbWaters$Foresight" (iGR 145 2 1) := sGRN _ rfl "HerbWaters" (List.mem_filter.mpr ⟨List.mem_of_getElem? (i := 316) (by decide +kernel), rfl⟩)
theorem lFo_g148 : Snd "HerbWaters$Foresight" (iGI 148 2 9) := sGIN _ rfl "HerbWaters" (List.mem_filter.mpr ⟨List.mem_of_getElem? (i := 346) (by decide +kernel), rfl⟩)
theorem lFo_v151 : Snd "HerbWaters$Foresight" (iCV2 151 2 mDy_pastCell) := sCV2 _ rfl rfl ok_Dy_pastCell (gtb_mem 544 (by decide +kernel) rfl) (gtb_mem 545 (by decide +kernel) rfl) (gtb_mem 1627 (by decide +kernel) rfl)
def bFo_writeRow_0 : List Ir := [iLI1, (iSP 405), iMUL, iSI2, iLI2, iSI3, iLA0, (iGR 12 4 1), (iGI 69 2 7), iLA0, (iGR 12 4 1), (iGI 127 2 8), iMUL, iSI4, iLA0, (iGR 12 4 1), (iGR 130 2 0), iC0, iLA0, (iGR 22 4 3), iLI3, iLI4, (iACP 133), iLI3, iLI4, iADD, iSI3, iC0, iSI5]
def bFo_writeRow_51 : List Ir := [iLI5, iLA0, (iGR 12 4 1), (iGI 69 2 7), (iICge (93) 153)]
def bFo_writeRow_63 : List Ir := [iLA0, (iGR 22 4 3), iLI3, iLA0, (iGR 12 4 1), (iGR 139 2 2), iLI5, iIALD, iIAST, (iINC3 1), iC1, iSI6]
def bFo_writeRow_85 : List Ir := [iLI6, iLA0, (iGR 32 4 0), (iGR 60 0 0), (iGR 142 9 3), iLI5, iIALD, (iICge (47) 147)]
def bFo_writeRow_103 : List Ir := [iLA0, (iGR 12 4 1), (iGR 145 2 1), iLA0, (iGR 12 4 1), iLI5, iLA0, (iGR 12 4 1), (iGI 148 2 9), iLI6, iSUB, (iCV2 151 2 mDy_pastCell), iLA0, (iGR 22 4 3), iLI3, iC4, (iACP 133), (iINC3 4), (iINC6 1), (iGO (-59) 85)]
def bFo_writeRow_147 : List Ir := [(iINC5 1), (iGO (-99) 51)]
def bFo_writeRow_153 : List Ir := [iLI3, iLI2, iSUB, iRI]
def tFo_writeRow : Tb := [(0, bFo_writeRow_0, 51), (51, bFo_writeRow_51, 63), (63, bFo_writeRow_63, 85), (85, bFo_writeRow_85, 103), (103, bFo_writeRow_103, 147), (147, bFo_writeRow_147, 153), (153, bFo_writeRow_153, 157)]
theorem fFo_writeRow_0 : tbf tFo_writeRow 0 = some (bFo_writeRow_0, 51) := rfl
theorem fFo_writeRow_51 : tbf tFo_writeRow 51 = some (bFo_writeRow_51, 63) := rfl
theorem fFo_writeRow_63 : tbf tFo_writeRow 63 = some (bFo_writeRow_63, 85) := rfl
theorem fFo_writeRow_85 : tbf tFo_writeRow 85 = some (bFo_writeRow_85, 103) := rfl
theorem fFo_writeRow_103 : tbf tFo_writeRow 103 = some (bFo_writeRow_103, 147) := rfl
theorem fFo_writeRow_147 : tbf tFo_writeRow 147 = some (bFo_writeRow_147, 153) := rfl
theorem fFo_writeRow_153 : tbf tFo_writeRow 153 = some (bFo_writeRow_153, 157) := rfl
theorem kFo_writeRow_0 : Bok "HerbWaters$Foresight" prog_6_method_14_code (0, bFo_writeRow_0, 51) := ⟨by decide +kernel, (List.forall_mem_cons.mpr ⟨sLI1, (List.forall_mem_cons.mpr ⟨sSP, (List.forall_mem_cons.mpr ⟨sMUL, (List.forall_mem_cons.mpr ⟨sSI2, (List.forall_mem_cons.mpr ⟨sLI2, (List.forall_mem_cons.mpr ⟨sSI3, (List.forall_mem_cons.mpr ⟨sLA0, (List.forall_mem_cons.mpr ⟨lFo_g12, (List.forall_mem_cons.mpr ⟨lFo_g69, (List.forall_mem_cons.mpr ⟨sLA0, (List.forall_mem_cons.mpr ⟨lFo_g12, (List.forall_mem_cons.mpr ⟨lFo_g127, (List.forall_mem_cons.mpr ⟨sMUL, (List.forall_mem_cons.mpr ⟨sSI4, (List.forall_mem_cons.mpr ⟨sLA0, (List.forall_mem_cons.mpr ⟨lFo_g12, (List.forall_mem_cons.mpr ⟨lFo_g130, (List.forall_mem_cons.mpr ⟨sC0, (List.forall_mem_cons.mpr ⟨sLA0, (List.forall_mem_cons.mpr ⟨lFo_g22, (List.forall_mem_cons.mpr ⟨sLI3, (List.forall_mem_cons.mpr ⟨sLI4, (List.forall_mem_cons.mpr ⟨lFo_c133, (List.forall_mem_cons.mpr ⟨sLI3, (List.forall_mem_cons.mpr ⟨sLI4, (List.forall_mem_cons.mpr ⟨sADD, (List.forall_mem_cons.mpr ⟨sSI3, (List.forall_mem_cons.mpr ⟨sC0, (List.forall_mem_cons.mpr ⟨sSI5, (fun _ h => absurd h List.not_mem_nil)⟩)⟩)⟩)⟩)⟩)⟩)⟩)⟩)⟩)⟩)⟩)⟩)⟩)⟩)⟩)⟩)⟩)⟩)⟩)⟩)⟩)⟩)⟩)⟩)⟩)⟩)⟩)⟩)⟩)⟩
theorem kFo_writeRow_51 : Bok "HerbWaters$Foresight" prog_6_method_14_code (51, bFo_writeRow_51, 63) := ⟨by decide +kernel, (List.forall_mem_cons.mpr ⟨sLI5, (List.forall_mem_cons.mpr ⟨sLA0, (List.forall_mem_cons.mpr ⟨lFo_g12, (List.forall_mem_cons.mpr ⟨lFo_g69, (List.forall_mem_cons.mpr ⟨sICge, (fun _ h => absurd h List.not_mem_nil)⟩)⟩)⟩)⟩)⟩)⟩
theorem kFo_writeRow_63 : Bok "HerbWaters$Foresight" prog_6_method_14_code (63, bFo_writeRow_63, 85) := ⟨by decide +kernel, (List.forall_mem_cons.mpr ⟨sLA0, (List.forall_mem_cons.mpr ⟨lFo_g22, (List.forall_mem_cons.mpr ⟨sLI3, (List.forall_mem_cons.mpr ⟨sLA0, (List.forall_mem_cons.mpr ⟨lFo_g12, (List.forall_mem_cons.mpr ⟨lFo_g139, (List.forall_mem_cons.mpr ⟨sLI5, (List.forall_mem_cons.mpr ⟨sIALD, (List.forall_mem_cons.mpr ⟨sIAST, (List.forall_mem_cons.mpr ⟨sINC3, (List.forall_mem_cons.mpr ⟨sC1, (List.forall_mem_cons.mpr ⟨sSI6, (fun _ h => absurd h List.not_mem_nil)⟩)⟩)⟩)⟩)⟩)⟩)⟩)⟩)⟩)⟩)⟩)⟩)⟩
theorem kFo_writeRow_85 : Bok "HerbWaters$Foresight" prog_6_method_14_code (85, bFo_writeRow_85, 103) := ⟨by decide +kernel, (List.forall_mem_cons.mpr ⟨sLI6, (List.forall_mem_cons.mpr ⟨sLA0, (List.forall_mem_cons.mpr ⟨lFo_g32, (List.forall_mem_cons.mpr ⟨lFo_g60, (List.forall_mem_cons.mpr ⟨lFo_g142, (List.forall_mem_cons.mpr ⟨sLI5, (List.forall_mem_cons.mpr ⟨sIALD, (List.forall_mem_cons.mpr ⟨sICge, (fun _ h => absurd h List.not_mem_nil)⟩)⟩)⟩)⟩)⟩)⟩)⟩)⟩)⟩
theorem kFo_writeRow_103 : Bok "HerbWaters$Foresight" prog_6_method_14_code (103, bFo_writeRow_103, 147) := ⟨by decide +kernel, (List.forall_mem_cons.mpr ⟨sLA0, (List.forall_mem_cons.mpr ⟨lFo_g12, (List.forall_mem_cons.mpr ⟨lFo_g145, (List.forall_mem_cons.mpr ⟨sLA0, (List.forall_mem_cons.mpr ⟨lFo_g12, (List.forall_mem_cons.mpr ⟨sLI5, (List.forall_mem_cons.mpr ⟨sLA0, (List.forall_mem_cons.mpr ⟨lFo_g12, (List.forall_mem_cons.mpr ⟨lFo_g148, (List.forall_mem_cons.mpr ⟨sLI6, (List.forall_mem_cons.mpr ⟨sSUB, (List.forall_mem_cons.mpr ⟨lFo_v151, (List.forall_mem_cons.mpr ⟨sLA0, (List.forall_mem_cons.mpr ⟨lFo_g22, (List.forall_mem_cons.mpr ⟨sLI3, (List.forall_mem_cons.mpr ⟨sC4, (List.forall_mem_cons.mpr ⟨lFo_c133, (List.forall_mem_cons.mpr ⟨sINC3, (List.forall_mem_cons.mpr ⟨sINC6, (List.forall_mem_cons.mpr ⟨sGO, (fun _ h => absurd h List.not_mem_nil)⟩)⟩)⟩)⟩)⟩)⟩)⟩)⟩)⟩)⟩)⟩)⟩)⟩)⟩)⟩)⟩)⟩)⟩)⟩)⟩)⟩
theorem kFo_writeRow_147 : Bok "HerbWaters$Foresight" prog_6_method_14_code (147, bFo_writeRow_147, 153) := ⟨by decide +kernel, (List.forall_mem_cons.mpr ⟨sINC5, (List.forall_mem_cons.mpr ⟨sGO, (fun _ h => absurd h List.not_mem_nil)⟩)⟩)⟩
theorem kFo_writeRow_153 : Bok "HerbWaters$Foresight" prog_6_method_14_code (153, bFo_writeRow_153, 157) := ⟨by decide +kernel, (List.forall_mem_cons.mpr ⟨sLI3, (List.forall_mem_cons.mpr ⟨sLI2, (List.forall_mem_cons.mpr ⟨sSUB, (List.forall_mem_cons.mpr ⟨sRI, (fun _ h => absurd h List.not_mem_nil)⟩)⟩)⟩)⟩)⟩
theorem kFo_writeRow : ∀ q ∈ tFo_writeRow, Bok "HerbWaters$Foresight" prog_6_method_14_code q := (List.forall_mem_cons.mpr ⟨kFo_writeRow_0, (List.forall_mem_cons.mpr ⟨kFo_writeRow_51, (List.forall_mem_cons.mpr ⟨kFo_writeRow_63, (List.forall_mem_cons.mpr ⟨kFo_writeRow_85, (List.forall_mem_cons.mpr ⟨kFo_writeRow_103, (List.forall_mem_cons.mpr ⟨kFo_writeRow_147, (List.forall_mem_cons.mpr ⟨kFo_writeRow_153, (fun _ h => absurd h List.not_mem_nil)⟩)⟩)⟩)⟩)⟩)⟩)⟩)
theorem rFo_writeRow : mFo_writeRow.2.2.2 = some .int := rfl
def bFo_rowLike_0 : List Ir := [iC0, iSI3]
def bFo_rowLike_2 : List Ir := [iLI3, iLI1, (iICge (61) 65)]
def bFo_rowLike_7 : List Ir := [iC0, iSI4]
def bFo_rowLike_10 : List Ir := [iLI4, iLI2, (iICge (38) 51)]
def bFo_rowLike_16 : List Ir := [iLA0, (iGR 22 4 3), iLI3, (iSP 405), iMUL, iLI4, iADD, iIALD, iLA0, (iGR 22 4 3), iLI1, (iSP 405), iMUL, iLI4, iADD, iIALD, (iICne (9) 51)]
def bFo_rowLike_45 : List Ir := [(iINC4 1), (iGO (-38) 10)]
def bFo_rowLike_51 : List Ir := [iLI4, iLI2, (iICne (5) 59)]
def bFo_rowLike_57 : List Ir := [iLI3, iRI]
def bFo_rowLike_59 : List Ir := [(iINC3 1), (iGO (-60) 2)]
def bFo_rowLike_65 : List Ir := [iCm1, iRI]
def tFo_rowLike : Tb := [(0, bFo_rowLike_0, 2), (2, bFo_rowLike_2, 7), (7, bFo_rowLike_7, 10), (10, bFo_rowLike_10, 16), (16, bFo_rowLike_16, 45), (45, bFo_rowLike_45, 51), (51, bFo_rowLike_51, 57), (57, bFo_rowLike_57, 59), (59, bFo_rowLike_59, 65), (65, bFo_rowLike_65, 67)]
theorem fFo_rowLike_0 : tbf tFo_rowLike 0 = some (bFo_rowLike_0, 2) := rfl
theorem fFo_rowLike_2 : tbf tFo_rowLike 2 = some (bFo_rowLike_2, 7) := rfl
theorem fFo_rowLike_7 : tbf tFo_rowLike 7 = some (bFo_rowLike_7, 10) := rfl
theorem fFo_rowLike_10 : tbf tFo_rowLike 10 = some (bFo_rowLike_10, 16) := rfl
theorem fFo_rowLike_16 : tbf tFo_rowLike 16 = some (bFo_rowLike_16, 45) := rfl
theorem fFo_rowLike_45 : tbf tFo_rowLike 45 = some (bFo_rowLike_45, 51) := rfl
theorem fFo_rowLike_51 : tbf tFo_rowLike 51 = some (bFo_rowLike_51, 57) := rfl
theorem fFo_rowLike_57 : tbf tFo_rowLike 57 = some (bFo_rowLike_57, 59) := rfl
theorem fFo_rowLike_59 : tbf tFo_rowLike 59 = some (bFo_rowLike_59, 65) := rfl
theorem fFo_rowLike_65 : tbf tFo_rowLike 65 = some (bFo_rowLike_65, 67) := rfl
theorem kFo_rowLike_0 : Bok "HerbWaters$Foresight" prog_6_method_15_code (0, bFo_rowLike_0, 2) := ⟨by decide +kernel, (List.forall_mem_cons.mpr ⟨sC0, (List.forall_mem_cons.mpr ⟨sSI3, (fun _ h => absurd h List.not_mem_nil)⟩)⟩)⟩
theorem kFo_rowLike_2 : Bok "HerbWaters$Foresight" prog_6_method_15_code (2, bFo_rowLike_2, 7) := ⟨by decide +kernel, (List.forall_mem_cons.mpr ⟨sLI3, (List.forall_mem_cons.mpr ⟨sLI1, (List.forall_mem_cons.mpr ⟨sICge, (fun _ h => absurd h List.not_mem_nil)⟩)⟩)⟩)⟩
theorem kFo_rowLike_7 : Bok "HerbWaters$Foresight" prog_6_method_15_code (7, bFo_rowLike_7, 10) := ⟨by decide +kernel, (List.forall_mem_cons.mpr ⟨sC0, (List.forall_mem_cons.mpr ⟨sSI4, (fun _ h => absurd h List.not_mem_nil)⟩)⟩)⟩
theorem kFo_rowLike_10 : Bok "HerbWaters$Foresight" prog_6_method_15_code (10, bFo_rowLike_10, 16) := ⟨by decide +kernel, (List.forall_mem_cons.mpr ⟨sLI4, (List.forall_mem_cons.mpr ⟨sLI2, (List.forall_mem_cons.mpr ⟨sICge, (fun _ h => absurd h List.not_mem_nil)⟩)⟩)⟩)⟩
theorem kFo_rowLike_16 : Bok "HerbWaters$Foresight" prog_6_method_15_code (16, bFo_rowLike_16, 45) := ⟨by decide +kernel, (List.forall_mem_cons.mpr ⟨sLA0, (List.forall_mem_cons.mpr ⟨lFo_g22, (List.forall_mem_cons.mpr ⟨sLI3, (List.forall_mem_cons.mpr ⟨sSP, (List.forall_mem_cons.mpr ⟨sMUL, (List.forall_mem_cons.mpr ⟨sLI4, (List.forall_mem_cons.mpr ⟨sADD, (List.forall_mem_cons.mpr ⟨sIALD, (List.forall_mem_cons.mpr ⟨sLA0, (List.forall_mem_cons.mpr ⟨lFo_g22, (List.forall_mem_cons.mpr ⟨sLI1, (List.forall_mem_cons.mpr ⟨sSP, (List.forall_mem_cons.mpr ⟨sMUL, (List.forall_mem_cons.mpr ⟨sLI4, (List.forall_mem_cons.mpr ⟨sADD, (List.forall_mem_cons.mpr ⟨sIALD, (List.forall_mem_cons.mpr ⟨sICne, (fun _ h => absurd h List.not_mem_nil)⟩)⟩)⟩)⟩)⟩)⟩)⟩)⟩)⟩)⟩)⟩)⟩)⟩)⟩)⟩)⟩)⟩)⟩
theorem kFo_rowLike_45 : Bok "HerbWaters$Foresight" prog_6_method_15_code (45, bFo_rowLike_45, 51) := ⟨by decide +kernel, (List.forall_mem_cons.mpr ⟨sINC4, (List.forall_mem_cons.mpr ⟨sGO, (fun _ h => absurd h List.not_mem_nil)⟩)⟩)⟩
theorem kFo_rowLike_51 : Bok "HerbWaters$Foresight" prog_6_method_15_code (51, bFo_rowLike_51, 57) := ⟨by decide +kernel, (List.forall_mem_cons.mpr ⟨sLI4, (List.forall_mem_cons.mpr ⟨sLI2, (List.forall_mem_cons.mpr ⟨sICne, (fun _ h => absurd h List.not_mem_nil)⟩)⟩)⟩)⟩
theorem kFo_rowLike_57 : Bok "HerbWaters$Foresight" prog_6_method_15_code (57, bFo_rowLike_57, 59) := ⟨by decide +kernel, (List.forall_mem_cons.mpr ⟨sLI3, (List.forall_mem_cons.mpr ⟨sRI, (fun _ h => absurd h List.not_mem_nil)⟩)⟩)⟩
theorem kFo_rowLike_59 : Bok "HerbWaters$Foresight" prog_6_method_15_code (59, bFo_rowLike_59, 65) := ⟨by decide +kernel, (List.forall_mem_cons.mpr ⟨sINC3, (List.forall_mem_cons.mpr ⟨sGO, (fun _ h => absurd h List.not_mem_nil)⟩)⟩)⟩
theorem kFo_rowLike_65 : Bok "HerbWaters$Foresight" prog_6_method_15_code (65, bFo_rowLike_65, 67) := ⟨by decide +kernel, (List.forall_mem_cons.mpr ⟨sCm1, (List.forall_mem_cons.mpr ⟨sRI, (fun _ h => absurd h List.not_mem_nil)⟩)⟩)⟩
theorem kFo_rowLike : ∀ q ∈ tFo_rowLike, Bok "HerbWaters$Foresight" prog_6_method_15_code q := (List.forall_mem_cons.mpr ⟨kFo_rowLike_0, (List.forall_mem_cons.mpr ⟨kFo_rowLike_2, (List.forall_mem_cons.mpr ⟨kFo_rowLike_7, (List.forall_mem_cons.mpr ⟨kFo_rowLike_10, (List.forall_mem_cons.mpr ⟨kFo_rowLike_16, (List.forall_mem_cons.mpr ⟨kFo_rowLike_45, (List.forall_mem_cons.mpr ⟨kFo_rowLike_51, (List.forall_mem_cons.mpr ⟨kFo_rowLike_57, (List.forall_mem_cons.mpr ⟨kFo_rowLike_59, (List.forall_mem_cons.mpr ⟨kFo_rowLike_65, (fun _ h => absurd h List.not_mem_nil)⟩)⟩)⟩)⟩)⟩)⟩)⟩)⟩)⟩)⟩)
theorem rFo_rowLike : mFo_rowLike.2.2.2 = some .int := rfl
def mTs_forget : Mt := (⟨"HerbWaters$Tasters", "forget", "()V"⟩, prog_10_method_2_code, 1, none)
theorem ok_Ts_forget : Mok mTs_forget := ⟨gtb_mem 1280 (by decide +kernel) rfl, gtb_mem 100 (by decide +kernel) rfl, by decide +kernel, by decide⟩
theorem lTs_p29 : Snd "HerbWaters$Tasters" (iPZ 29 8 4) := sPZ _ rfl rfl (gtb_mem 464 (by decide +kernel) rfl)
def bTs_forget_0 : List Ir := [iLA0, iC0, (iPZ 29 8 4), iRV]
def tTs_forget : Tb := [(0, bTs_forget_0, 6)]
theorem fTs_forget_0 : tbf tTs_forget 0 = some (bTs_forget_0, 6) := rfl
theorem kTs_forget_0 : Bok "HerbWaters$Tasters" prog_10_method_2_code (0, bTs_forget_0, 6) := ⟨by decide +kernel, (List.forall_mem_cons.mpr ⟨sLA0, (List.forall_mem_cons.mpr ⟨sC0, (List.forall_mem_cons.mpr ⟨lTs_p29, (List.forall_mem_cons.mpr ⟨sRV, (fun _ h => absurd h List.not_mem_nil)⟩)⟩)⟩)⟩)⟩
theorem kTs_forget : ∀ q ∈ tTs_forget, Bok "HerbWaters$Tasters" prog_10_method_2_code q := (List.forall_mem_cons.mpr ⟨kTs_forget_0, (fun _ h => absurd h List.not_mem_nil)⟩)
theorem rTs_forget : mTs_forget.2.2.2 = none := rfl
def mTs_study : Mt := (⟨"HerbWaters$Tasters", "study", "()V"⟩, prog_10_method_3_code, 6, none)
theorem ok_Ts_study : Mok mTs_study := ⟨gtb_mem 1570 (by decide +kernel) rfl, gtb_mem 100 (by decide +kernel) rfl, by decide +kernel, by decide⟩
theorem lTs_g29 : Snd "HerbWaters$Tasters" (iGI 29 8 4) := sGI _ rfl (gtb_mem 464 (by decide +kernel) rfl)
theorem lTs_p33 : Snd "HerbWaters$Tasters" (iPI 33 8 5) := sPI _ rfl rfl (gtb_mem 465 (by decide +kernel) rfl)
theorem lTs_p37 : Snd "HerbWaters$Tasters" (iPI 37 8 6) := sPI _ rfl rfl (gtb_mem 467 (by decide +kernel) rfl)
theorem lTs_g46 : Snd "HerbWaters$Tasters" (iGR 46 8 0) := sGR _ rfl (gtb_mem 459 (by decide +kernel) rfl)
theorem lTs_g50 : Snd "HerbWaters$Tasters" (iGR 50 0 0) := sGRN _ rfl "HerbWaters" (List.mem_filter.mpr ⟨List.mem_of_getElem? (i := 279) (by decide +kernel), rfl⟩)
theorem lTs_v56 : Snd "HerbWaters$Tasters" (iCV0 56 9 mTn_allBits) := sCV0 _ rfl rfl ok_Tn_allBits (gtb_mem 649 (by decide +kernel) rfl) (gtb_mem 650 (by decide +kernel) rfl) (gtb_mem 1571 (by decide +kernel) rfl)
theorem lTs_v62 : Snd "HerbWaters$Tasters" (iCV1 62 0 mAq_puttersOf) := sCV1 _ rfl rfl ok_Aq_puttersOf (gtb_mem 645 (by decide +kernel) rfl) (gtb_mem 646 (by decide +kernel) rfl) (gtb_mem 1572 (by decide +kernel) rfl)
def mTs_isRight : Mt := (⟨"HerbWaters$Tasters", "isRight", "(I)Z"⟩, prog_10_method_4_code, 3, some .boolean)
theorem ok_Ts_isRight : Mok mTs_isRight := ⟨gtb_mem 1576 (by decide +kernel) rfl, gtb_mem 100 (by decide +kernel) rfl, by decide +kernel, by decide⟩
theorem lTs_v66 : Snd "HerbWaters$Tasters" (iCV1 66 8 mTs_isRight) := sCV1 _ rfl rfl ok_Ts_isRight (gtb_mem 1575 (by decide +kernel) rfl) (gtb_mem 34 (by decide +kernel) rfl) (gtb_mem 1573 (by decide +kernel) rfl)
theorem lTs_g33 : Snd "HerbWaters$Tasters" (iGI 33 8 5) := sGI _ rfl (gtb_mem 465 (by decide +kernel) rfl)
theorem lTs_g37 : Snd "HerbWaters$Tasters" (iGI 37 8 6) := sGI _ rfl (gtb_mem 467 (by decide +kernel) rfl)
theorem lTs_p40 : Snd "HerbWaters$Tasters" (iPI 40 8 7) := sPI _ rfl rfl (gtb_mem 469 (by decide +kernel) rfl)
theorem lTs_p43 : Snd "HerbWaters$Tasters" (iPI 43 8 8) := sPI _ rfl rfl (gtb_mem 471 (by decide +kernel) rfl)
theorem lTs_s70 : Snd "HerbWaters$Tasters" (iCS1 70 mJi_bitCount) := sCS1 ok_Ji_bitCount (gtb_mem 653 (by decide +kernel) rfl) (gtb_mem 1577 (by decide +kernel) rfl)
def bTs_study_0 : List Ir := [iLA0, (iGI 29 8 4), (iIFeq (4) 8)]
def bTs_study_7 : List Ir := [iRV]
def bTs_study_8 : List Ir := [iLA0, iC1, (iPZ 29 8 4), iLA0, iC0, (iPI 33 8 5), iLA0, iCm1, (iPI 37 8 6), iLA0, (iGR 46 8 0), (iGR 50 0 0), (iCV0 56 9 mTn_allBits), iSI1, iLA0, (iGR 46 8 0), iC3, (iCV1 62 0 mAq_puttersOf), iSI2, iLI1, iSI3, iC0, iSI4, iC0, iSI5]
def bTs_study_51 : List Ir := [iLI5, iLI1, (iICgt (68) 122)]
def bTs_study_57 : List Ir := [iLI5, iLI2, iOR, iLI2, (iICne (54) 116)]
def bTs_study_65 : List Ir := [iLA0, iLI5, (iCV1 66 8 mTs_isRight), (iIFeq (45) 116)]
def bTs_study_74 : List Ir := [iLA0, iLA0, (iGI 33 8 5), (iIFne (8) 87)]
def bTs_study_82 : List Ir := [iLI5, (iGO (7) 91)]
def bTs_study_87 : List Ir := [iLA0, (iGI 37 8 6)]
def bTs_study_91 : List Ir := [(iPI 37 8 6), iLA0, iDUPr, (iGI 33 8 5), iC1, iADD, (iPI 33 8 5), iLI3, iLI5, iAND, iSI3, iLI4, iLI5, iOR, iSI4]
def bTs_study_116 : List Ir := [(iINC5 1), (iGO (-68) 51)]
def bTs_study_122 : List Ir := [iLA0, iLA0, (iGI 33 8 5), (iIFne (7) 134)]
def bTs_study_130 : List Ir := [iC0, (iGO (4) 135)]
def bTs_study_134 : List Ir := [iLI3]
def bTs_study_135 : List Ir := [(iPI 40 8 7), iLA0, iLA0, (iGI 33 8 5), (iIFne (7) 150)]
def bTs_study_146 : List Ir := [iC0, (iGO (9) 156)]
def bTs_study_150 : List Ir := [iLI2, iLI4, iCm1, iXOR, iAND]
def bTs_study_156 : List Ir := [(iPI 43 8 8), iLA0, iDUPr, (iGI 33 8 5), iLI1, iLI2, iCm1, iXOR, iAND, (iCS1 70 mJi_bitCount), iSHL, (iPI 33 8 5), iRV]
def tTs_study : Tb := [(0, bTs_study_0, 7), (7, bTs_study_7, 8), (8, bTs_study_8, 51), (51, bTs_study_51, 57), (57, bTs_study_57, 65), (65, bTs_study_65, 74), (74, bTs_study_74, 82), (82, bTs_study_82, 87), (87, bTs_study_87, 91), (91, bTs_study_91, 116), (116, bTs_study_116, 122), (122, bTs_study_122, 130), (130, bTs_study_130, 134), (134, bTs_study_134, 135), (135, bTs_study_135, 146), (146, bTs_study_146, 150), (150, bTs_study_150, 156), (156, bTs_study_156, 177)]
theorem fTs_study_0 : tbf tTs_study 0 = some (bTs_study_0, 7) := rfl
theorem fTs_study_7 : tbf tTs_study 7 = some (bTs_study_7, 8) := rfl
theorem fTs_study_8 : tbf tTs_study 8 = some (bTs_study_8, 51) := rfl
theorem fTs_study_51 : tbf tTs_study 51 = some (bTs_study_51, 57) := rfl
theorem fTs_study_57 : tbf tTs_study 57 = some (bTs_study_57, 65) := rfl
theorem fTs_study_65 : tbf tTs_study 65 = some (bTs_study_65, 74) := rfl
theorem fTs_study_74 : tbf tTs_study 74 = some (bTs_study_74, 82) := rfl
theorem fTs_study_82 : tbf tTs_study 82 = some (bTs_study_82, 87) := rfl
theorem fTs_study_87 : tbf tTs_study 87 = some (bTs_study_87, 91) := rfl
theorem fTs_study_91 : tbf tTs_study 91 = some (bTs_study_91, 116) := rfl
theorem fTs_study_116 : tbf tTs_study 116 = some (bTs_study_116, 122) := rfl
theorem fTs_study_122 : tbf tTs_study 122 = some (bTs_study_122, 130) := rfl
theorem fTs_study_130 : tbf tTs_study 130 = some (bTs_study_130, 134) := rfl
theorem fTs_study_134 : tbf tTs_study 134 = some (bTs_study_134, 135) := rfl
theorem fTs_study_135 : tbf tTs_study 135 = some (bTs_study_135, 146) := rfl
theorem fTs_study_146 : tbf tTs_study 146 = some (bTs_study_146, 150) := rfl
theorem fTs_study_150 : tbf tTs_study 150 = some (bTs_study_150, 156) := rfl
theorem fTs_study_156 : tbf tTs_study 156 = some (bTs_study_156, 177) := rfl
theorem kTs_study_0 : Bok "HerbWaters$Tasters" prog_10_method_3_code (0, bTs_study_0, 7) := ⟨by decide +kernel, (List.forall_mem_cons.mpr ⟨sLA0, (List.forall_mem_cons.mpr ⟨lTs_g29, (List.forall_mem_cons.mpr ⟨sIFeq, (fun _ h => absurd h List.not_mem_nil)⟩)⟩)⟩)⟩
theorem kTs_study_7 : Bok "HerbWaters$Tasters" prog_10_method_3_code (7, bTs_study_7, 8) := ⟨by decide +kernel, (List.forall_mem_cons.mpr ⟨sRV, (fun _ h => absurd h List.not_mem_nil)⟩)⟩
theorem kTs_study_8 : Bok "HerbWaters$Tasters" prog_10_method_3_code (8, bTs_study_8, 51) := ⟨by decide +kernel, (List.forall_mem_cons.mpr ⟨sLA0, (List.forall_mem_cons.mpr ⟨sC1, (List.forall_mem_cons.mpr ⟨lTs_p29, (List.forall_mem_cons.mpr ⟨sLA0, (List.forall_mem_cons.mpr ⟨sC0, (List.forall_mem_cons.mpr ⟨lTs_p33, (List.forall_mem_cons.mpr ⟨sLA0, (List.forall_mem_cons.mpr ⟨sCm1, (List.forall_mem_cons.mpr ⟨lTs_p37, (List.forall_mem_cons.mpr ⟨sLA0, (List.forall_mem_cons.mpr ⟨lTs_g46, (List.forall_mem_cons.mpr ⟨lTs_g50, (List.forall_mem_cons.mpr ⟨lTs_v56, (List.forall_mem_cons.mpr ⟨sSI1, (List.forall_mem_cons.mpr ⟨sLA0, (List.forall_mem_cons.mpr ⟨lTs_g46, (List.forall_mem_cons.mpr ⟨sC3, (List.forall_mem_cons.mpr ⟨lTs_v62, (List.forall_mem_cons.mpr ⟨sSI2, (List.forall_mem_cons.mpr ⟨sLI1, (List.forall_mem_cons.mpr ⟨sSI3, (List.forall_mem_cons.mpr ⟨sC0, (List.forall_mem_cons.mpr ⟨sSI4, (List.forall_mem_cons.mpr ⟨sC0, (List.forall_mem_cons.mpr ⟨sSI5, (fun _ h => absurd h List.not_mem_nil)⟩)⟩)⟩)⟩)⟩)⟩)⟩)⟩)⟩)⟩)⟩)⟩)⟩)⟩)⟩)⟩)⟩)⟩)⟩)⟩)⟩)⟩)⟩)⟩)⟩)⟩
theorem kTs_study_51 : Bok "HerbWaters$Tasters" prog_10_method_3_code (51, bTs_study_51, 57) := ⟨by decide +kernel, (List.forall_mem_cons.mpr ⟨sLI5, (List.forall_mem_cons.mpr ⟨sLI1, (List.forall_mem_cons.mpr ⟨sICgt, (fun _ h => absurd h List.not_mem_nil)⟩)⟩)⟩)⟩
theorem kTs_study_57 : Bok "HerbWaters$Tasters" prog_10_method_3_code (57, bTs_study_57, 65) := ⟨by decide +kernel, (List.forall_mem_cons.mpr ⟨sLI5, (List.forall_mem_cons.mpr ⟨sLI2, (List.forall_mem_cons.mpr ⟨sOR, (List.forall_mem_cons.mpr ⟨sLI2, (List.forall_mem_cons.mpr ⟨sICne, (fun _ h => absurd h List.not_mem_nil)⟩)⟩)⟩)⟩)⟩)⟩
theorem kTs_study_65 : Bok "HerbWaters$Tasters" prog_10_method_3_code (65, bTs_study_65, 74) := ⟨by decide +kernel, (List.forall_mem_cons.mpr ⟨sLA0, (List.forall_mem_cons.mpr ⟨sLI5, (List.forall_mem_cons.mpr ⟨lTs_v66, (List.forall_mem_cons.mpr ⟨sIFeq, (fun _ h => absurd h List.not_mem_nil)⟩)⟩)⟩)⟩)⟩
theorem kTs_study_74 : Bok "HerbWaters$Tasters" prog_10_method_3_code (74, bTs_study_74, 82) := ⟨by decide +kernel, (List.forall_mem_cons.mpr ⟨sLA0, (List.forall_mem_cons.mpr ⟨sLA0, (List.forall_mem_cons.mpr ⟨lTs_g33, (List.forall_mem_cons.mpr ⟨sIFne, (fun _ h => absurd h List.not_mem_nil)⟩)⟩)⟩)⟩)⟩
theorem kTs_study_82 : Bok "HerbWaters$Tasters" prog_10_method_3_code (82, bTs_study_82, 87) := ⟨by decide +kernel, (List.forall_mem_cons.mpr ⟨sLI5, (List.forall_mem_cons.mpr ⟨sGO, (fun _ h => absurd h List.not_mem_nil)⟩)⟩)⟩
theorem kTs_study_87 : Bok "HerbWaters$Tasters" prog_10_method_3_code (87, bTs_study_87, 91) := ⟨by decide +kernel, (List.forall_mem_cons.mpr ⟨sLA0, (List.forall_mem_cons.mpr ⟨lTs_g37, (fun _ h => absurd h List.not_mem_nil)⟩)⟩)⟩
theorem kTs_study_91 : Bok "HerbWaters$Tasters" prog_10_method_3_code (91, bTs_study_91, 116) := ⟨by decide +kernel, (List.forall_mem_cons.mpr ⟨lTs_p37, (List.forall_mem_cons.mpr ⟨sLA0, (List.forall_mem_cons.mpr ⟨sDUPr, (List.forall_mem_cons.mpr ⟨lTs_g33, (List.forall_mem_cons.mpr ⟨sC1, (List.forall_mem_cons.mpr ⟨sADD, (List.forall_mem_cons.mpr ⟨lTs_p33, (List.forall_mem_cons.mpr ⟨sLI3, (List.forall_mem_cons.mpr ⟨sLI5, (List.forall_mem_cons.mpr ⟨sAND, (List.forall_mem_cons.mpr ⟨sSI3, (List.forall_mem_cons.mpr ⟨sLI4, (List.forall_mem_cons.mpr ⟨sLI5, (List.forall_mem_cons.mpr ⟨sOR, (List.forall_mem_cons.mpr ⟨sSI4, (fun _ h => absurd h List.not_mem_nil)⟩)⟩)⟩)⟩)⟩)⟩)⟩)⟩)⟩)⟩)⟩)⟩)⟩)⟩)⟩)⟩
theorem kTs_study_116 : Bok "HerbWaters$Tasters" prog_10_method_3_code (116, bTs_study_116, 122) := ⟨by decide +kernel, (List.forall_mem_cons.mpr ⟨sINC5, (List.forall_mem_cons.mpr ⟨sGO, (fun _ h => absurd h List.not_mem_nil)⟩)⟩)⟩
theorem kTs_study_122 : Bok "HerbWaters$Tasters" prog_10_method_3_code (122, bTs_study_122, 130) := ⟨by decide +kernel, (List.forall_mem_cons.mpr ⟨sLA0, (List.forall_mem_cons.mpr ⟨sLA0, (List.forall_mem_cons.mpr ⟨lTs_g33, (List.forall_mem_cons.mpr ⟨sIFne, (fun _ h => absurd h List.not_mem_nil)⟩)⟩)⟩)⟩)⟩
theorem kTs_study_130 : Bok "HerbWaters$Tasters" prog_10_method_3_code (130, bTs_study_130, 134) := ⟨by decide +kernel, (List.forall_mem_cons.mpr ⟨sC0, (List.forall_mem_cons.mpr ⟨sGO, (fun _ h => absurd h List.not_mem_nil)⟩)⟩)⟩
theorem kTs_study_134 : Bok "HerbWaters$Tasters" prog_10_method_3_code (134, bTs_study_134, 135) := ⟨by decide +kernel, (List.forall_mem_cons.mpr ⟨sLI3, (fun _ h => absurd h List.not_mem_nil)⟩)⟩
theorem kTs_study_135 : Bok "HerbWaters$Tasters" prog_10_method_3_code (135, bTs_study_135, 146) := ⟨by decide +kernel, (List.forall_mem_cons.mpr ⟨lTs_p40, (List.forall_mem_cons.mpr ⟨sLA0, (List.forall_mem_cons.mpr ⟨sLA0, (List.forall_mem_cons.mpr ⟨lTs_g33, (List.forall_mem_cons.mpr ⟨sIFne, (fun _ h => absurd h List.not_mem_nil)⟩)⟩)⟩)⟩)⟩)⟩
theorem kTs_study_146 : Bok "HerbWaters$Tasters" prog_10_method_3_code (146, bTs_study_146, 150) := ⟨by decide +kernel, (List.forall_mem_cons.mpr ⟨sC0, (List.forall_mem_cons.mpr ⟨sGO, (fun _ h => absurd h List.not_mem_nil)⟩)⟩)⟩
theorem kTs_study_150 : Bok "HerbWaters$Tasters" prog_10_method_3_code (150, bTs_study_150, 156) := ⟨by decide +kernel, (List.forall_mem_cons.mpr ⟨sLI2, (List.forall_mem_cons.mpr ⟨sLI4, (List.forall_mem_cons.mpr ⟨sCm1, (List.forall_mem_cons.mpr ⟨sXOR, (List.forall_mem_cons.mpr ⟨sAND, (fun _ h => absurd h List.not_mem_nil)⟩)⟩)⟩)⟩)⟩)⟩
theorem kTs_study_156 : Bok "HerbWaters$Tasters" prog_10_method_3_code (156, bTs_study_156, 177) := ⟨by decide +kernel, (List.forall_mem_cons.mpr ⟨lTs_p43, (List.forall_mem_cons.mpr ⟨sLA0, (List.forall_mem_cons.mpr ⟨sDUPr, (List.forall_mem_cons.mpr ⟨lTs_g33, (List.forall_mem_cons.mpr ⟨sLI1, (List.forall_mem_cons.mpr ⟨sLI2, (List.forall_mem_cons.mpr ⟨sCm1, (List.forall_mem_cons.mpr ⟨sXOR, (List.forall_mem_cons.mpr ⟨sAND, (List.forall_mem_cons.mpr ⟨lTs_s70, (List.forall_mem_cons.mpr ⟨sSHL, (List.forall_mem_cons.mpr ⟨lTs_p33, (List.forall_mem_cons.mpr ⟨sRV, (fun _ h => absurd h List.not_mem_nil)⟩)⟩)⟩)⟩)⟩)⟩)⟩)⟩)⟩)⟩)⟩)⟩)⟩)⟩
theorem kTs_study : ∀ q ∈ tTs_study, Bok "HerbWaters$Tasters" prog_10_method_3_code q := (List.forall_mem_cons.mpr ⟨kTs_study_0, (List.forall_mem_cons.mpr ⟨kTs_study_7, (List.forall_mem_cons.mpr ⟨kTs_study_8, (List.forall_mem_cons.mpr ⟨kTs_study_51, (List.forall_mem_cons.mpr ⟨kTs_study_57, (List.forall_mem_cons.mpr ⟨kTs_study_65, (List.forall_mem_cons.mpr ⟨kTs_study_74, (List.forall_mem_cons.mpr ⟨kTs_study_82, (List.forall_mem_cons.mpr ⟨kTs_study_87, (List.forall_mem_cons.mpr ⟨kTs_study_91, (List.forall_mem_cons.mpr ⟨kTs_study_116, (List.forall_mem_cons.mpr ⟨kTs_study_122, (List.forall_mem_cons.mpr ⟨kTs_study_130, (List.forall_mem_cons.mpr ⟨kTs_study_134, (List.forall_mem_cons.mpr ⟨kTs_study_135, (List.forall_mem_cons.mpr ⟨kTs_study_146, (List.forall_mem_cons.mpr ⟨kTs_study_150, (List.forall_mem_cons.mpr ⟨kTs_study_156, (fun _ h => absurd h List.not_mem_nil)⟩)⟩)⟩)⟩)⟩)⟩)⟩)⟩)⟩)⟩)⟩)⟩)⟩)⟩)⟩)⟩)⟩)⟩)
theorem rTs_study : mTs_study.2.2.2 = none := rfl
theorem lTs_g12 : Snd "HerbWaters$Tasters" (iGR 12 8 1) := sGR _ rfl (gtb_mem 460 (by decide +kernel) rfl)
theorem lTs_v75 : Snd "HerbWaters$Tasters" (iCV1 75 2 mDy_begin) := sCV1 _ rfl rfl ok_Dy_begin (gtb_mem 533 (by decide +kernel) rfl) (gtb_mem 534 (by decide +kernel) rfl) (gtb_mem 1083 (by decide +kernel) rfl)
theorem lTs_p79 : Snd "HerbWaters$Tasters" (iPI 79 2 11) := sPIN _ rfl rfl "HerbWaters" (List.mem_filter.mpr ⟨List.mem_of_getElem? (i := 352) (by decide +kernel), rfl⟩)
theorem lTs_g25 : Snd "HerbWaters$Tasters" (iGR 25 8 3) := sGR _ rfl (gtb_mem 462 (by decide +kernel) rfl)
theorem lTs_g82 : Snd "HerbWaters$Tasters" (iGI 82 1 3) := sGIN _ rfl "HerbWaters" (List.mem_filter.mpr ⟨List.mem_of_getElem? (i := 449) (by decide +kernel), rfl⟩)
theorem lTs_v85 : Snd "HerbWaters$Tasters" (iCV1 85 0 mAq_goDay) := sCV1 _ rfl rfl ok_Aq_goDay (gtb_mem 668 (by decide +kernel) rfl) (gtb_mem 669 (by decide +kernel) rfl) (gtb_mem 1084 (by decide +kernel) rfl)
theorem lTs_v89 : Snd "HerbWaters$Tasters" (iCV0 89 2 mDy_seen) := sCV0 _ rfl rfl ok_Dy_seen (gtb_mem 1072 (by decide +kernel) rfl) (gtb_mem 1073 (by decide +kernel) rfl) (gtb_mem 1085 (by decide +kernel) rfl)
theorem lTs_v92 : Snd "HerbWaters$Tasters" (iCV2 92 1 mBk_firstWrong) := sCV2 _ rfl rfl ok_Bk_firstWrong (gtb_mem 1087 (by decide +kernel) rfl) (gtb_mem 1088 (by decide +kernel) rfl) (gtb_mem 1086 (by decide +kernel) rfl)
theorem lTs_g96 : Snd "HerbWaters$Tasters" (iGI 96 1 2) := sGIN _ rfl "HerbWaters" (List.mem_filter.mpr ⟨List.mem_of_getElem? (i := 446) (by decide +kernel), rfl⟩)
def bTs_isRight_0 : List Ir := [iLA0, (iGR 12 8 1), iLA0, (iGR 46 8 0), (iGR 50 0 0), (iCV1 75 2 mDy_begin), iLA0, (iGR 12 8 1), iLI1, (iPI 79 2 11), iC1, iSI2]
def bTs_isRight_24 : List Ir := [iLI2, iLA0, (iGR 25 8 3), (iGI 82 1 3), (iICgt (47) 79)]
def bTs_isRight_35 : List Ir := [iLA0, (iGR 46 8 0), iLA0, (iGR 12 8 1), (iCV1 85 0 mAq_goDay), iLA0, (iGR 25 8 3), iLI2, iLA0, (iGR 12 8 1), (iCV0 89 2 mDy_seen), (iCV2 92 1 mBk_firstWrong), iLA0, (iGR 25 8 3), (iGI 96 1 2), (iICge (5) 73)]
def bTs_isRight_71 : List Ir := [iC0, iRI]
def bTs_isRight_73 : List Ir := [(iINC2 1), (iGO (-52) 24)]
def bTs_isRight_79 : List Ir := [iC1, iRI]
def tTs_isRight : Tb := [(0, bTs_isRight_0, 24), (24, bTs_isRight_24, 35), (35, bTs_isRight_35, 71), (71, bTs_isRight_71, 73), (73, bTs_isRight_73, 79), (79, bTs_isRight_79, 81)]
theorem fTs_isRight_0 : tbf tTs_isRight 0 = some (bTs_isRight_0, 24) := rfl
theorem fTs_isRight_24 : tbf tTs_isRight 24 = some (bTs_isRight_24, 35) := rfl
theorem fTs_isRight_35 : tbf tTs_isRight 35 = some (bTs_isRight_35, 71) := rfl
theorem fTs_isRight_71 : tbf tTs_isRight 71 = some (bTs_isRight_71, 73) := rfl
theorem fTs_isRight_73 : tbf tTs_isRight 73 = some (bTs_isRight_73, 79) := rfl
theorem fTs_isRight_79 : tbf tTs_isRight 79 = some (bTs_isRight_79, 81) := rfl
theorem kTs_isRight_0 : Bok "HerbWaters$Tasters" prog_10_method_4_code (0, bTs_isRight_0, 24) := ⟨by decide +kernel, (List.forall_mem_cons.mpr ⟨sLA0, (List.forall_mem_cons.mpr ⟨lTs_g12, (List.forall_mem_cons.mpr ⟨sLA0, (List.forall_mem_cons.mpr ⟨lTs_g46, (List.forall_mem_cons.mpr ⟨lTs_g50, (List.forall_mem_cons.mpr ⟨lTs_v75, (List.forall_mem_cons.mpr ⟨sLA0, (List.forall_mem_cons.mpr ⟨lTs_g12, (List.forall_mem_cons.mpr ⟨sLI1, (List.forall_mem_cons.mpr ⟨lTs_p79, (List.forall_mem_cons.mpr ⟨sC1, (List.forall_mem_cons.mpr ⟨sSI2, (fun _ h => absurd h List.not_mem_nil)⟩)⟩)⟩)⟩)⟩)⟩)⟩)⟩)⟩)⟩)⟩)⟩)⟩
theorem kTs_isRight_24 : Bok "HerbWaters$Tasters" prog_10_method_4_code (24, bTs_isRight_24, 35) := ⟨by decide +kernel, (List.forall_mem_cons.mpr ⟨sLI2, (List.forall_mem_cons.mpr ⟨sLA0, (List.forall_mem_cons.mpr ⟨lTs_g25, (List.forall_mem_cons.mpr ⟨lTs_g82, (List.forall_mem_cons.mpr ⟨sICgt, (fun _ h => absurd h List.not_mem_nil)⟩)⟩)⟩)⟩)⟩)⟩
theorem kTs_isRight_35 : Bok "HerbWaters$Tasters" prog_10_method_4_code (35, bTs_isRight_35, 71) := ⟨by decide +kernel, (List.forall_mem_cons.mpr ⟨sLA0, (List.forall_mem_cons.mpr ⟨lTs_g46, (List.forall_mem_cons.mpr ⟨sLA0, (List.forall_mem_cons.mpr ⟨lTs_g12, (List.forall_mem_cons.mpr ⟨lTs_v85, (List.forall_mem_cons.mpr ⟨sLA0, (List.forall_mem_cons.mpr ⟨lTs_g25, (List.forall_mem_cons.mpr ⟨sLI2, (List.forall_mem_cons.mpr ⟨sLA0, (List.forall_mem_cons.mpr ⟨lTs_g12, (List.forall_mem_cons.mpr ⟨lTs_v89, (List.forall_mem_cons.mpr ⟨lTs_v92, (List.forall_mem_cons.mpr ⟨sLA0, (List.forall_mem_cons.mpr ⟨lTs_g25, (List.forall_mem_cons.mpr ⟨lTs_g96, (List.forall_mem_cons.mpr ⟨sICge, (fun _ h => absurd h List.not_mem_nil)⟩)⟩)⟩)⟩)⟩)⟩)⟩)⟩)⟩)⟩)⟩)⟩)⟩)⟩)⟩)⟩)⟩
theorem kTs_isRight_71 : Bok "HerbWaters$Tasters" prog_10_method_4_code (71, bTs_isRight_71, 73) := ⟨by decide +kernel, (List.forall_mem_cons.mpr ⟨sC0, (List.forall_mem_cons.mpr ⟨sRI, (fun _ h => absurd h List.not_mem_nil)⟩)⟩)⟩
theorem kTs_isRight_73 : Bok "HerbWaters$Tasters" prog_10_method_4_code (73, bTs_isRight_73, 79) := ⟨by decide +kernel, (List.forall_mem_cons.mpr ⟨sINC2, (List.forall_mem_cons.mpr ⟨sGO, (fun _ h => absurd h List.not_mem_nil)⟩)⟩)⟩
theorem kTs_isRight_79 : Bok "HerbWaters$Tasters" prog_10_method_4_code (79, bTs_isRight_79, 81) := ⟨by decide +kernel, (List.forall_mem_cons.mpr ⟨sC1, (List.forall_mem_cons.mpr ⟨sRI, (fun _ h => absurd h List.not_mem_nil)⟩)⟩)⟩
theorem kTs_isRight : ∀ q ∈ tTs_isRight, Bok "HerbWaters$Tasters" prog_10_method_4_code q := (List.forall_mem_cons.mpr ⟨kTs_isRight_0, (List.forall_mem_cons.mpr ⟨kTs_isRight_24, (List.forall_mem_cons.mpr ⟨kTs_isRight_35, (List.forall_mem_cons.mpr ⟨kTs_isRight_71, (List.forall_mem_cons.mpr ⟨kTs_isRight_73, (List.forall_mem_cons.mpr ⟨kTs_isRight_79, (fun _ h => absurd h List.not_mem_nil)⟩)⟩)⟩)⟩)⟩)⟩)
theorem rTs_isRight : mTs_isRight.2.2.2 = some .boolean := rfl
