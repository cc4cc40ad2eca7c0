/-! code of the class; by program (wip/whole/gen_X.py) -/
def mTs_linesRight : Mt := (⟨"HerbWaters$Tasters", "linesRight", "(I)I"⟩, prog_10_method_5_code, 4, some .int)
theorem ok_Ts_linesRight : Mok mTs_linesRight := ⟨gtb_mem 1082 (by decide +kernel) rfl, gtb_mem 100 (by decide +kernel) rfl, by decide +kernel, by decide⟩
theorem lTs_s99 : Snd "HerbWaters$Tasters" (iMIN 99) := sMIN (gtb_mem 1090 (by decide +kernel) rfl) (gtb_mem 792 (by decide +kernel) rfl) (gtb_mem 105 (by decide +kernel) rfl) (gtb_mem 793 (by decide +kernel) rfl)
def bTs_linesRight_0 : List Ir := [iLA0, (iGR 12 8 1), iLA0, (iGR 46 8 0), (iGR 50 0 0), (iCV1 75 2 mDy_begin), iLA0, (iGR 12 8 1), iLI1, (iPI 79 2 11), iLA0, (iGR 25 8 3), (iGI 96 1 2), iSI2, iC1, iSI3]
def bTs_linesRight_32 : List Ir := [iLI3, iLA0, (iGR 25 8 3), (iGI 82 1 3), (iICgt (40) 80)]
def bTs_linesRight_43 : List Ir := [iLA0, (iGR 46 8 0), iLA0, (iGR 12 8 1), (iCV1 85 0 mAq_goDay), iLI2, iLA0, (iGR 25 8 3), iLI3, iLA0, (iGR 12 8 1), (iCV0 89 2 mDy_seen), (iCV2 92 1 mBk_firstWrong), (iMIN 99), iSI2, (iINC3 1), (iGO (-45) 32)]
def bTs_linesRight_80 : List Ir := [iLI2, iRI]
def tTs_linesRight : Tb := [(0, bTs_linesRight_0, 32), (32, bTs_linesRight_32, 43), (43, bTs_linesRight_43, 80), (80, bTs_linesRight_80, 82)]
theorem fTs_linesRight_0 : tbf tTs_linesRight 0 = some (bTs_linesRight_0, 32) := rfl
theorem fTs_linesRight_32 : tbf tTs_linesRight 32 = some (bTs_linesRight_32, 43) := rfl
theorem fTs_linesRight_43 : tbf tTs_linesRight 43 = some (bTs_linesRight_43, 80) := rfl
theorem fTs_linesRight_80 : tbf tTs_linesRight 80 = some (bTs_linesRight_80, 82) := rfl
theorem kTs_linesRight_0 : Bok "HerbWaters$Tasters" prog_10_method_5_code (0, bTs_linesRight_0, 32) := ⟨by decide +kernel, (List.forall_mem_cons.mpr ⟨sLA0, (List.forall_mem_cons.mpr ⟨lTs_g12, (List.forall_mem_cons.mpr ⟨sLA0, (List.forall_mem_cons.mpr ⟨lTs_g46, (List.forall_mem_cons.mpr ⟨lTs_g50, (List.forall_mem_cons.mpr ⟨lTs_v75, (List.forall_mem_cons.mpr ⟨sLA0, (List.forall_mem_cons.mpr ⟨lTs_g12, (List.forall_mem_cons.mpr ⟨sLI1, (List.forall_mem_cons.mpr ⟨lTs_p79, (List.forall_mem_cons.mpr ⟨sLA0, (List.forall_mem_cons.mpr ⟨lTs_g25, (List.forall_mem_cons.mpr ⟨lTs_g96, (List.forall_mem_cons.mpr ⟨sSI2, (List.forall_mem_cons.mpr ⟨sC1, (List.forall_mem_cons.mpr ⟨sSI3, (fun _ h => absurd h List.not_mem_nil)⟩)⟩)⟩)⟩)⟩)⟩)⟩)⟩)⟩)⟩)⟩)⟩)⟩)⟩)⟩)⟩)⟩
theorem kTs_linesRight_32 : Bok "HerbWaters$Tasters" prog_10_method_5_code (32, bTs_linesRight_32, 43) := ⟨by decide +kernel, (List.forall_mem_cons.mpr ⟨sLI3, (List.forall_mem_cons.mpr ⟨sLA0, (List.forall_mem_cons.mpr ⟨lTs_g25, (List.forall_mem_cons.mpr ⟨lTs_g82, (List.forall_mem_cons.mpr ⟨sICgt, (fun _ h => absurd h List.not_mem_nil)⟩)⟩)⟩)⟩)⟩)⟩
theorem kTs_linesRight_43 : Bok "HerbWaters$Tasters" prog_10_method_5_code (43, bTs_linesRight_43, 80) := ⟨by decide +kernel, (List.forall_mem_cons.mpr ⟨sLA0, (List.forall_mem_cons.mpr ⟨lTs_g46, (List.forall_mem_cons.mpr ⟨sLA0, (List.forall_mem_cons.mpr ⟨lTs_g12, (List.forall_mem_cons.mpr ⟨lTs_v85, (List.forall_mem_cons.mpr ⟨sLI2, (List.forall_mem_cons.mpr ⟨sLA0, (List.forall_mem_cons.mpr ⟨lTs_g25, (List.forall_mem_cons.mpr ⟨sLI3, (List.forall_mem_cons.mpr ⟨sLA0, (List.forall_mem_cons.mpr ⟨lTs_g12, (List.forall_mem_cons.mpr ⟨lTs_v89, (List.forall_mem_cons.mpr ⟨lTs_v92, (List.forall_mem_cons.mpr ⟨lTs_s99, (List.forall_mem_cons.mpr ⟨sSI2, (List.forall_mem_cons.mpr ⟨sINC3, (List.forall_mem_cons.mpr ⟨sGO, (fun _ h => absurd h List.not_mem_nil)⟩)⟩)⟩)⟩)⟩)⟩)⟩)⟩)⟩)⟩)⟩)⟩)⟩)⟩)⟩)⟩)⟩)⟩
theorem kTs_linesRight_80 : Bok "HerbWaters$Tasters" prog_10_method_5_code (80, bTs_linesRight_80, 82) := ⟨by decide +kernel, (List.forall_mem_cons.mpr ⟨sLI2, (List.forall_mem_cons.mpr ⟨sRI, (fun _ h => absurd h List.not_mem_nil)⟩)⟩)⟩
theorem kTs_linesRight : ∀ q ∈ tTs_linesRight, Bok "HerbWaters$Tasters" prog_10_method_5_code q := (List.forall_mem_cons.mpr ⟨kTs_linesRight_0, (List.forall_mem_cons.mpr ⟨kTs_linesRight_32, (List.forall_mem_cons.mpr ⟨kTs_linesRight_43, (List.forall_mem_cons.mpr ⟨kTs_linesRight_80, (fun _ h => absurd h List.not_mem_nil)⟩)⟩)⟩)⟩)
theorem rTs_linesRight : mTs_linesRight.2.2.2 = some .int := rfl
def mTs_basinsOf : Mt := (⟨"HerbWaters$Tasters", "basinsOf", "(II)I"⟩, prog_10_method_6_code, 5, some .int)
theorem ok_Ts_basinsOf : Mok mTs_basinsOf := ⟨gtb_mem 1592 (by decide +kernel) rfl, gtb_mem 100 (by decide +kernel) rfl, by decide +kernel, by decide⟩
theorem lTs_p104 : Snd "HerbWaters$Tasters" (iPI 104 2 10) := sPIN _ rfl rfl "HerbWaters" (List.mem_filter.mpr ⟨List.mem_of_getElem? (i := 349) (by decide +kernel), rfl⟩)
theorem lTs_g107 : Snd "HerbWaters$Tasters" (iGI 107 2 7) := sGIN _ rfl "HerbWaters" (List.mem_filter.mpr ⟨List.mem_of_getElem? (i := 337) (by decide +kernel), rfl⟩)
theorem lTs_v110 : Snd "HerbWaters$Tasters" (iCV1 110 2 mDy_herbsIn) := sCV1 _ rfl rfl ok_Dy_herbsIn (gtb_mem 1472 (by decide +kernel) rfl) (gtb_mem 1473 (by decide +kernel) rfl) (gtb_mem 1593 (by decide +kernel) rfl)
def bTs_basinsOf_0 : List Ir := [iLA0, (iGR 12 8 1), iLA0, (iGR 46 8 0), (iGR 50 0 0), (iCV1 75 2 mDy_begin), iLA0, (iGR 12 8 1), iLA0, (iGR 46 8 0), (iGR 50 0 0), (iCV0 56 9 mTn_allBits), iC1, iLI1, iSHL, iCm1, iXOR, iAND, (iPI 104 2 10), iC0, iSI3]
def bTs_basinsOf_39 : List Ir := [iLI3, iLI2, (iICge (20) 61)]
def bTs_basinsOf_44 : List Ir := [iLA0, (iGR 46 8 0), iLA0, (iGR 12 8 1), (iCV1 85 0 mAq_goDay), (iINC3 1), (iGO (-19) 39)]
def bTs_basinsOf_61 : List Ir := [iC0, iSI3, iC0, iSI4]
def bTs_basinsOf_66 : List Ir := [iLI4, iLA0, (iGR 12 8 1), (iGI 107 2 7), (iICge (32) 107)]
def bTs_basinsOf_78 : List Ir := [iLI3, iLA0, (iGR 12 8 1), iLI4, (iCV1 110 2 mDy_herbsIn), (iIFle (10) 98)]
def bTs_basinsOf_91 : List Ir := [iC1, iLI4, iSHL, (iGO (4) 99)]
def bTs_basinsOf_98 : List Ir := [iC0]
def bTs_basinsOf_99 : List Ir := [iOR, iSI3, (iINC4 1), (iGO (-38) 66)]
def bTs_basinsOf_107 : List Ir := [iLI3, iRI]
def tTs_basinsOf : Tb := [(0, bTs_basinsOf_0, 39), (39, bTs_basinsOf_39, 44), (44, bTs_basinsOf_44, 61), (61, bTs_basinsOf_61, 66), (66, bTs_basinsOf_66, 78), (78, bTs_basinsOf_78, 91), (91, bTs_basinsOf_91, 98), (98, bTs_basinsOf_98, 99), (99, bTs_basinsOf_99, 107), (107, bTs_basinsOf_107, 109)]
theorem fTs_basinsOf_0 : tbf tTs_basinsOf 0 = some (bTs_basinsOf_0, 39) := rfl
theorem fTs_basinsOf_39 : tbf tTs_basinsOf 39 = some (bTs_basinsOf_39, 44) := rfl
theorem fTs_basinsOf_44 : tbf tTs_basinsOf 44 = some (bTs_basinsOf_44, 61) := rfl
theorem fTs_basinsOf_61 : tbf tTs_basinsOf 61 = some (bTs_basinsOf_61, 66) := rfl
theorem fTs_basinsOf_66 : tbf tTs_basinsOf 66 = some (bTs_basinsOf_66, 78) := rfl
theorem fTs_basinsOf_78 : tbf tTs_basinsOf 78 = some (bTs_basinsOf_78, 91) := rfl
theorem fTs_basinsOf_91 : tbf tTs_basinsOf 91 = some (bTs_basinsOf_91, 98) := rfl
theorem fTs_basinsOf_98 : tbf tTs_basinsOf 98 = some (bTs_basinsOf_98, 99) := rfl
theorem fTs_basinsOf_99 : tbf tTs_basinsOf 99 = some (bTs_basinsOf_99, 107) := rfl
theorem fTs_basinsOf_107 : tbf tTs_basinsOf 107 = some (bTs_basinsOf_107, 109) := rfl
theorem kTs_basinsOf_0 : Bok "HerbWaters$Tasters" prog_10_method_6_code (0, bTs_basinsOf_0, 39) := ⟨by decide +kernel, (List.forall_mem_cons.mpr ⟨sLA0, (List.forall_mem_cons.mpr ⟨lTs_g12, (List.forall_mem_cons.mpr ⟨sLA0, (List.forall_mem_cons.mpr ⟨lTs_g46, (List.forall_mem_cons.mpr ⟨lTs_g50, (List.forall_mem_cons.mpr ⟨lTs_v75, (List.forall_mem_cons.mpr ⟨sLA0, (List.forall_mem_cons.mpr ⟨lTs_g12, (List.forall_mem_cons.mpr ⟨sLA0, (List.forall_mem_cons.mpr ⟨lTs_g46, (List.forall_mem_cons.mpr ⟨lTs_g50, (List.forall_mem_cons.mpr ⟨lTs_v56, (List.forall_mem_cons.mpr ⟨sC1, (List.forall_mem_cons.mpr ⟨sLI1, (List.forall_mem_cons.mpr ⟨sSHL, (List.forall_mem_cons.mpr ⟨sCm1, (List.forall_mem_cons.mpr ⟨sXOR, (List.forall_mem_cons.mpr ⟨sAND, (List.forall_mem_cons.mpr ⟨lTs_p104, (List.forall_mem_cons.mpr ⟨sC0, (List.forall_mem_cons.mpr ⟨sSI3, (fun _ h => absurd h List.not_mem_nil)⟩)⟩)⟩)⟩)⟩)⟩)⟩)⟩)⟩)⟩)⟩)⟩)⟩)⟩)⟩)⟩)⟩)⟩)⟩)⟩)⟩)⟩
theorem kTs_basinsOf_39 : Bok "HerbWaters$Tasters" prog_10_method_6_code (39, bTs_basinsOf_39, 44) := ⟨by decide +kernel, (List.forall_mem_cons.mpr ⟨sLI3, (List.forall_mem_cons.mpr ⟨sLI2, (List.forall_mem_cons.mpr ⟨sICge, (fun _ h => absurd h List.not_mem_nil)⟩)⟩)⟩)⟩
theorem kTs_basinsOf_44 : Bok "HerbWaters$Tasters" prog_10_method_6_code (44, bTs_basinsOf_44, 61) := ⟨by decide +kernel, (List.forall_mem_cons.mpr ⟨sLA0, (List.forall_mem_cons.mpr ⟨lTs_g46, (List.forall_mem_cons.mpr ⟨sLA0, (List.forall_mem_cons.mpr ⟨lTs_g12, (List.forall_mem_cons.mpr ⟨lTs_v85, (List.forall_mem_cons.mpr ⟨sINC3, (List.forall_mem_cons.mpr ⟨sGO, (fun _ h => absurd h List.not_mem_nil)⟩)⟩)⟩)⟩)⟩)⟩)⟩)⟩
theorem kTs_basinsOf_61 : Bok "HerbWaters$Tasters" prog_10_method_6_code (61, bTs_basinsOf_61, 66) := ⟨by decide +kernel, (List.forall_mem_cons.mpr ⟨sC0, (List.forall_mem_cons.mpr ⟨sSI3, (List.forall_mem_cons.mpr ⟨sC0, (List.forall_mem_cons.mpr ⟨sSI4, (fun _ h => absurd h List.not_mem_nil)⟩)⟩)⟩)⟩)⟩
theorem kTs_basinsOf_66 : Bok "HerbWaters$Tasters" prog_10_method_6_code (66, bTs_basinsOf_66, 78) := ⟨by decide +kernel, (List.forall_mem_cons.mpr ⟨sLI4, (List.forall_mem_cons.mpr ⟨sLA0, (List.forall_mem_cons.mpr ⟨lTs_g12, (List.forall_mem_cons.mpr ⟨lTs_g107, (List.forall_mem_cons.mpr ⟨sICge, (fun _ h => absurd h List.not_mem_nil)⟩)⟩)⟩)⟩)⟩)⟩
theorem kTs_basinsOf_78 : Bok "HerbWaters$Tasters" prog_10_method_6_code (78, bTs_basinsOf_78, 91) := ⟨by decide +kernel, (List.forall_mem_cons.mpr ⟨sLI3, (List.forall_mem_cons.mpr ⟨sLA0, (List.forall_mem_cons.mpr ⟨lTs_g12, (List.forall_mem_cons.mpr ⟨sLI4, (List.forall_mem_cons.mpr ⟨lTs_v110, (List.forall_mem_cons.mpr ⟨sIFle, (fun _ h => absurd h List.not_mem_nil)⟩)⟩)⟩)⟩)⟩)⟩)⟩
theorem kTs_basinsOf_91 : Bok "HerbWaters$Tasters" prog_10_method_6_code (91, bTs_basinsOf_91, 98) := ⟨by decide +kernel, (List.forall_mem_cons.mpr ⟨sC1, (List.forall_mem_cons.mpr ⟨sLI4, (List.forall_mem_cons.mpr ⟨sSHL, (List.forall_mem_cons.mpr ⟨sGO, (fun _ h => absurd h List.not_mem_nil)⟩)⟩)⟩)⟩)⟩
theorem kTs_basinsOf_98 : Bok "HerbWaters$Tasters" prog_10_method_6_code (98, bTs_basinsOf_98, 99) := ⟨by decide +kernel, (List.forall_mem_cons.mpr ⟨sC0, (fun _ h => absurd h List.not_mem_nil)⟩)⟩
theorem kTs_basinsOf_99 : Bok "HerbWaters$Tasters" prog_10_method_6_code (99, bTs_basinsOf_99, 107) := ⟨by decide +kernel, (List.forall_mem_cons.mpr ⟨sOR, (List.forall_mem_cons.mpr ⟨sSI3, (List.forall_mem_cons.mpr ⟨sINC4, (List.forall_mem_cons.mpr ⟨sGO, (fun _ h => absurd h List.not_mem_nil)⟩)⟩)⟩)⟩)⟩
theorem kTs_basinsOf_107 : Bok "HerbWaters$Tasters" prog_10_method_6_code (107, bTs_basinsOf_107, 109) := ⟨by decide +kernel, (List.forall_mem_cons.mpr ⟨sLI3, (List.forall_mem_cons.mpr ⟨sRI, (fun _ h => absurd h List.not_mem_nil)⟩)⟩)⟩
theorem kTs_basinsOf : ∀ q ∈ tTs_basinsOf, Bok "HerbWaters$Tasters" prog_10_method_6_code q := (List.forall_mem_cons.mpr ⟨kTs_basinsOf_0, (List.forall_mem_cons.mpr ⟨kTs_basinsOf_39, (List.forall_mem_cons.mpr ⟨kTs_basinsOf_44, (List.forall_mem_cons.mpr ⟨kTs_basinsOf_61, (List.forall_mem_cons.mpr ⟨kTs_basinsOf_66, (List.forall_mem_cons.mpr ⟨kTs_basinsOf_78, (List.forall_mem_cons.mpr ⟨kTs_basinsOf_91, (List.forall_mem_cons.mpr ⟨kTs_basinsOf_98, (List.forall_mem_cons.mpr ⟨kTs_basinsOf_99, (List.forall_mem_cons.mpr ⟨kTs_basinsOf_107, (fun _ h => absurd h List.not_mem_nil)⟩)⟩)⟩)⟩)⟩)⟩)⟩)⟩)⟩)⟩)
theorem rTs_basinsOf : mTs_basinsOf.2.2.2 = some .int := rfl
def mTs_fewestTastes : Mt := (⟨"HerbWaters$Tasters", "fewestTastes", "(I)I"⟩, prog_10_method_7_code, 6, some .int)
theorem ok_Ts_fewestTastes : Mok mTs_fewestTastes := ⟨gtb_mem 1588 (by decide +kernel) rfl, gtb_mem 100 (by decide +kernel) rfl, by decide +kernel, by decide⟩
theorem lTs_g113 : Snd "HerbWaters$Tasters" (iGI 113 9 10) := sGIN _ rfl "HerbWaters" (List.mem_filter.mpr ⟨List.mem_of_getElem? (i := 204) (by decide +kernel), rfl⟩)
theorem lTs_g18 : Snd "HerbWaters$Tasters" (iGR 18 8 2) := sGR _ rfl (gtb_mem 461 (by decide +kernel) rfl)
theorem lTs_v114 : Snd "HerbWaters$Tasters" (iCV2 114 8 mTs_basinsOf) := sCV2 _ rfl rfl ok_Ts_basinsOf (gtb_mem 1590 (by decide +kernel) rfl) (gtb_mem 1591 (by decide +kernel) rfl) (gtb_mem 1589 (by decide +kernel) rfl)
def mTs_tellsApart : Mt := (⟨"HerbWaters$Tasters", "tellsApart", "(II)Z"⟩, prog_10_method_8_code, 5, some .boolean)
theorem ok_Ts_tellsApart : Mok mTs_tellsApart := ⟨gtb_mem 1597 (by decide +kernel) rfl, gtb_mem 100 (by decide +kernel) rfl, by decide +kernel, by decide⟩
theorem lTs_v117 : Snd "HerbWaters$Tasters" (iCV2 117 8 mTs_tellsApart) := sCV2 _ rfl rfl ok_Ts_tellsApart (gtb_mem 1596 (by decide +kernel) rfl) (gtb_mem 35 (by decide +kernel) rfl) (gtb_mem 1594 (by decide +kernel) rfl)
def bTs_fewestTastes_0 : List Ir := [iLA0, (iGR 46 8 0), (iGR 50 0 0), (iGI 113 9 10), iSI2, iLA0, (iGR 46 8 0), (iGR 50 0 0), (iCV0 56 9 mTn_allBits), iSI3, iC0, iSI4]
def bTs_fewestTastes_25 : List Ir := [iLI4, iLI2, (iICge (23) 51)]
def bTs_fewestTastes_31 : List Ir := [iLA0, (iGR 18 8 2), iLI4, iLA0, iLI4, iLI1, (iCV2 114 8 mTs_basinsOf), iIAST, (iINC4 1), (iGO (-23) 25)]
def bTs_fewestTastes_51 : List Ir := [iC0, iSI4]
def bTs_fewestTastes_54 : List Ir := [iLI4, iLI2, (iICgt (47) 104)]
def bTs_fewestTastes_60 : List Ir := [iC0, iSI5]
def bTs_fewestTastes_63 : List Ir := [iLI5, iLI3, (iICgt (32) 98)]
def bTs_fewestTastes_69 : List Ir := [iLI5, (iCS1 70 mJi_bitCount), iLI4, (iICne (16) 92)]
def bTs_fewestTastes_79 : List Ir := [iLA0, iLI5, iLI2, (iCV2 117 8 mTs_tellsApart), (iIFeq (6) 92)]
def bTs_fewestTastes_89 : List Ir := [iLI5, iRI]
def bTs_fewestTastes_92 : List Ir := [(iINC5 1), (iGO (-32) 63)]
def bTs_fewestTastes_98 : List Ir := [(iINC4 1), (iGO (-47) 54)]
def bTs_fewestTastes_104 : List Ir := [iLI3, iRI]
def tTs_fewestTastes : Tb := [(0, bTs_fewestTastes_0, 25), (25, bTs_fewestTastes_25, 31), (31, bTs_fewestTastes_31, 51), (51, bTs_fewestTastes_51, 54), (54, bTs_fewestTastes_54, 60), (60, bTs_fewestTastes_60, 63), (63, bTs_fewestTastes_63, 69), (69, bTs_fewestTastes_69, 79), (79, bTs_fewestTastes_79, 89), (89, bTs_fewestTastes_89, 92), (92, bTs_fewestTastes_92, 98), (98, bTs_fewestTastes_98, 104), (104, bTs_fewestTastes_104, 106)]
theorem fTs_fewestTastes_0 : tbf tTs_fewestTastes 0 = some (bTs_fewestTastes_0, 25) := rfl
theorem fTs_fewestTastes_25 : tbf tTs_fewestTastes 25 = some (bTs_fewestTastes_25, 31) := rfl
theorem fTs_fewestTastes_31 : tbf tTs_fewestTastes 31 = some (bTs_fewestTastes_31, 51) := rfl
theorem fTs_fewestTastes_51 : tbf tTs_fewestTastes 51 = some (bTs_fewestTastes_51, 54) := rfl
theorem fTs_fewestTastes_54 : tbf tTs_fewestTastes 54 = some (bTs_fewestTastes_54, 60) := rfl
theorem fTs_fewestTastes_60 : tbf tTs_fewestTastes 60 = some (bTs_fewestTastes_60, 63) := rfl
theorem fTs_fewestTastes_63 : tbf tTs_fewestTastes 63 = some (bTs_fewestTastes_63, 69) := rfl
theorem fTs_fewestTastes_69 : tbf tTs_fewestTastes 69 = some (bTs_fewestTastes_69, 79) := rfl
theorem fTs_fewestTastes_79 : tbf tTs_fewestTastes 79 = some (bTs_fewestTastes_79, 89) := rfl
theorem fTs_fewestTastes_89 : tbf tTs_fewestTastes 89 = some (bTs_fewestTastes_89, 92) := rfl
theorem fTs_fewestTastes_92 : tbf tTs_fewestTastes 92 = some (bTs_fewestTastes_92, 98) := rfl
theorem fTs_fewestTastes_98 : tbf tTs_fewestTastes 98 = some (bTs_fewestTastes_98, 104) := rfl
theorem fTs_fewestTastes_104 : tbf tTs_fewestTastes 104 = some (bTs_fewestTastes_104, 106) := rfl
theorem kTs_fewestTastes_0 : Bok "HerbWaters$Tasters" prog_10_method_7_code (0, bTs_fewestTastes_0, 25) := ⟨by decide +kernel, (List.forall_mem_cons.mpr ⟨sLA0, (List.forall_mem_cons.mpr ⟨lTs_g46, (List.forall_mem_cons.mpr ⟨lTs_g50, (List.forall_mem_cons.mpr ⟨lTs_g113, (List.forall_mem_cons.mpr ⟨sSI2, (List.forall_mem_cons.mpr ⟨sLA0, (List.forall_mem_cons.mpr ⟨lTs_g46, (List.forall_mem_cons.mpr ⟨lTs_g50, (List.forall_mem_cons.mpr ⟨lTs_v56, (List.forall_mem_cons.mpr ⟨sSI3, (List.forall_mem_cons.mpr ⟨sC0, (List.forall_mem_cons.mpr ⟨sSI4, (fun _ h => absurd h List.not_mem_nil)⟩)⟩)⟩)⟩)⟩)⟩)⟩)⟩)⟩)⟩)⟩)⟩)⟩
theorem kTs_fewestTastes_25 : Bok "HerbWaters$Tasters" prog_10_method_7_code (25, bTs_fewestTastes_25, 31) := ⟨by decide +kernel, (List.forall_mem_cons.mpr ⟨sLI4, (List.forall_mem_cons.mpr ⟨sLI2, (List.forall_mem_cons.mpr ⟨sICge, (fun _ h => absurd h List.not_mem_nil)⟩)⟩)⟩)⟩
theorem kTs_fewestTastes_31 : Bok "HerbWaters$Tasters" prog_10_method_7_code (31, bTs_fewestTastes_31, 51) := ⟨by decide +kernel, (List.forall_mem_cons.mpr ⟨sLA0, (List.forall_mem_cons.mpr ⟨lTs_g18, (List.forall_mem_cons.mpr ⟨sLI4, (List.forall_mem_cons.mpr ⟨sLA0, (List.forall_mem_cons.mpr ⟨sLI4, (List.forall_mem_cons.mpr ⟨sLI1, (List.forall_mem_cons.mpr ⟨lTs_v114, (List.forall_mem_cons.mpr ⟨sIAST, (List.forall_mem_cons.mpr ⟨sINC4, (List.forall_mem_cons.mpr ⟨sGO, (fun _ h => absurd h List.not_mem_nil)⟩)⟩)⟩)⟩)⟩)⟩)⟩)⟩)⟩)⟩)⟩
theorem kTs_fewestTastes_51 : Bok "HerbWaters$Tasters" prog_10_method_7_code (51, bTs_fewestTastes_51, 54) := ⟨by decide +kernel, (List.forall_mem_cons.mpr ⟨sC0, (List.forall_mem_cons.mpr ⟨sSI4, (fun _ h => absurd h List.not_mem_nil)⟩)⟩)⟩
theorem kTs_fewestTastes_54 : Bok "HerbWaters$Tasters" prog_10_method_7_code (54, bTs_fewestTastes_54, 60) := ⟨by decide +kernel, (List.forall_mem_cons.mpr ⟨sLI4, (List.forall_mem_cons.mpr ⟨sLI2, (List.forall_mem_cons.mpr ⟨sICgt, (fun _ h => absurd h List.not_mem_nil)⟩)⟩)⟩)⟩
theorem kTs_fewestTastes_60 : Bok "HerbWaters$Tasters" prog_10_method_7_code (60, bTs_fewestTastes_60, 63) := ⟨by decide +kernel, (List.forall_mem_cons.mpr ⟨sC0, (List.forall_mem_cons.mpr ⟨sSI5, (fun _ h => absurd h List.not_mem_nil)⟩)⟩)⟩
theorem kTs_fewestTastes_63 : Bok "HerbWaters$Tasters" prog_10_method_7_code (63, bTs_fewestTastes_63, 69) := ⟨by decide +kernel, (List.forall_mem_cons.mpr ⟨sLI5, (List.forall_mem_cons.mpr ⟨sLI3, (List.forall_mem_cons.mpr ⟨sICgt, (fun _ h => absurd h List.not_mem_nil)⟩)⟩)⟩)⟩
theorem kTs_fewestTastes_69 : Bok "HerbWaters$Tasters" prog_10_method_7_code (69, bTs_fewestTastes_69, 79) := ⟨by decide +kernel, (List.forall_mem_cons.mpr ⟨sLI5, (List.forall_mem_cons.mpr ⟨lTs_s70, (List.forall_mem_cons.mpr ⟨sLI4, (List.forall_mem_cons.mpr ⟨sICne, (fun _ h => absurd h List.not_mem_nil)⟩)⟩)⟩)⟩)⟩
theorem kTs_fewestTastes_79 : Bok "HerbWaters$Tasters" prog_10_method_7_code (79, bTs_fewestTastes_79, 89) := ⟨by decide +kernel, (List.forall_mem_cons.mpr ⟨sLA0, (List.forall_mem_cons.mpr ⟨sLI5, (List.forall_mem_cons.mpr ⟨sLI2, (List.forall_mem_cons.mpr ⟨lTs_v117, (List.forall_mem_cons.mpr ⟨sIFeq, (fun _ h => absurd h List.not_mem_nil)⟩)⟩)⟩)⟩)⟩)⟩
theorem kTs_fewestTastes_89 : Bok "HerbWaters$Tasters" prog_10_method_7_code (89, bTs_fewestTastes_89, 92) := ⟨by decide +kernel, (List.forall_mem_cons.mpr ⟨sLI5, (List.forall_mem_cons.mpr ⟨sRI, (fun _ h => absurd h List.not_mem_nil)⟩)⟩)⟩
theorem kTs_fewestTastes_92 : Bok "HerbWaters$Tasters" prog_10_method_7_code (92, bTs_fewestTastes_92, 98) := ⟨by decide +kernel, (List.forall_mem_cons.mpr ⟨sINC5, (List.forall_mem_cons.mpr ⟨sGO, (fun _ h => absurd h List.not_mem_nil)⟩)⟩)⟩
theorem kTs_fewestTastes_98 : Bok "HerbWaters$Tasters" prog_10_method_7_code (98, bTs_fewestTastes_98, 104) := ⟨by decide +kernel, (List.forall_mem_cons.mpr ⟨sINC4, (List.forall_mem_cons.mpr ⟨sGO, (fun _ h => absurd h List.not_mem_nil)⟩)⟩)⟩
theorem kTs_fewestTastes_104 : Bok "HerbWaters$Tasters" prog_10_method_7_code (104, bTs_fewestTastes_104, 106) := ⟨by decide +kernel, (List.forall_mem_cons.mpr ⟨sLI3, (List.forall_mem_cons.mpr ⟨sRI, (fun _ h => absurd h List.not_mem_nil)⟩)⟩)⟩
theorem kTs_fewestTastes : ∀ q ∈ tTs_fewestTastes, Bok "HerbWaters$Tasters" prog_10_method_7_code q := (List.forall_mem_cons.mpr ⟨kTs_fewestTastes_0, (List.forall_mem_cons.mpr ⟨kTs_fewestTastes_25, (List.forall_mem_cons.mpr ⟨kTs_fewestTastes_31, (List.forall_mem_cons.mpr ⟨kTs_fewestTastes_51, (List.forall_mem_cons.mpr ⟨kTs_fewestTastes_54, (List.forall_mem_cons.mpr ⟨kTs_fewestTastes_60, (List.forall_mem_cons.mpr ⟨kTs_fewestTastes_63, (List.forall_mem_cons.mpr ⟨kTs_fewestTastes_69, (List.forall_mem_cons.mpr ⟨kTs_fewestTastes_79, (List.forall_mem_cons.mpr ⟨kTs_fewestTastes_89, (List.forall_mem_cons.mpr ⟨kTs_fewestTastes_92, (List.forall_mem_cons.mpr ⟨kTs_fewestTastes_98, (List.forall_mem_cons.mpr ⟨kTs_fewestTastes_104, (fun _ h => absurd h List.not_mem_nil)⟩)⟩)⟩)⟩)⟩)⟩)⟩)⟩)⟩)⟩)⟩)⟩)⟩)
theorem rTs_fewestTastes : mTs_fewestTastes.2.2.2 = some .int := rfl
def bTs_tellsApart_0 : List Ir := [iC0, iSI3]
def bTs_tellsApart_2 : List Ir := [iLI3, iLI2, (iICge (62) 66)]
def bTs_tellsApart_7 : List Ir := [iC0, iSI4]
def bTs_tellsApart_10 : List Ir := [iLI4, iLI3, (iICge (47) 60)]
def bTs_tellsApart_16 : List Ir := [iLA0, (iGR 18 8 2), iLI3, iIALD, iLA0, (iGR 18 8 2), iLI4, iIALD, (iICeq (25) 54)]
def bTs_tellsApart_32 : List Ir := [iLA0, (iGR 18 8 2), iLI3, iIALD, iLI1, iAND, iLA0, (iGR 18 8 2), iLI4, iIALD, iLI1, iAND, (iICne (5) 54)]
def bTs_tellsApart_52 : List Ir := [iC0, iRI]
def bTs_tellsApart_54 : List Ir := [(iINC4 1), (iGO (-47) 10)]
def bTs_tellsApart_60 : List Ir := [(iINC3 1), (iGO (-61) 2)]
def bTs_tellsApart_66 : List Ir := [iC1, iRI]
def tTs_tellsApart : Tb := [(0, bTs_tellsApart_0, 2), (2, bTs_tellsApart_2, 7), (7, bTs_tellsApart_7, 10), (10, bTs_tellsApart_10, 16), (16, bTs_tellsApart_16, 32), (32, bTs_tellsApart_32, 52), (52, bTs_tellsApart_52, 54), (54, bTs_tellsApart_54, 60), (60, bTs_tellsApart_60, 66), (66, bTs_tellsApart_66, 68)]
theorem fTs_tellsApart_0 : tbf tTs_tellsApart 0 = some (bTs_tellsApart_0, 2) := rfl
theorem fTs_tellsApart_2 : tbf tTs_tellsApart 2 = some (bTs_tellsApart_2, 7) := rfl
theorem fTs_tellsApart_7 : tbf tTs_tellsApart 7 = some (bTs_tellsApart_7, 10) := rfl
theorem fTs_tellsApart_10 : tbf tTs_tellsApart 10 = some (bTs_tellsApart_10, 16) := rfl
theorem fTs_tellsApart_16 : tbf tTs_tellsApart 16 = some (bTs_tellsApart_16, 32) := rfl
theorem fTs_tellsApart_32 : tbf tTs_tellsApart 32 = some (bTs_tellsApart_32, 52) := rfl
theorem fTs_tellsApart_52 : tbf tTs_tellsApart 52 = some (bTs_tellsApart_52, 54) := rfl
theorem fTs_tellsApart_54 : tbf tTs_tellsApart 54 = some (bTs_tellsApart_54, 60) := rfl
theorem fTs_tellsApart_60 : tbf tTs_tellsApart 60 = some (bTs_tellsApart_60, 66) := rfl
theorem fTs_tellsApart_66 : tbf tTs_tellsApart 66 = some (bTs_tellsApart_66, 68) := rfl
theorem kTs_tellsApart_0 : Bok "HerbWaters$Tasters" prog_10_method_8_code (0, bTs_tellsApart_0, 2) := ⟨by decide +kernel, (List.forall_mem_cons.mpr ⟨sC0, (List.forall_mem_cons.mpr ⟨sSI3, (fun _ h => absurd h List.not_mem_nil)⟩)⟩)⟩
theorem kTs_tellsApart_2 : Bok "HerbWaters$Tasters" prog_10_method_8_code (2, bTs_tellsApart_2, 7) := ⟨by decide +kernel, (List.forall_mem_cons.mpr ⟨sLI3, (List.forall_mem_cons.mpr ⟨sLI2, (List.forall_mem_cons.mpr ⟨sICge, (fun _ h => absurd h List.not_mem_nil)⟩)⟩)⟩)⟩
theorem kTs_tellsApart_7 : Bok "HerbWaters$Tasters" prog_10_method_8_code (7, bTs_tellsApart_7, 10) := ⟨by decide +kernel, (List.forall_mem_cons.mpr ⟨sC0, (List.forall_mem_cons.mpr ⟨sSI4, (fun _ h => absurd h List.not_mem_nil)⟩)⟩)⟩
theorem kTs_tellsApart_10 : Bok "HerbWaters$Tasters" prog_10_method_8_code (10, bTs_tellsApart_10, 16) := ⟨by decide +kernel, (List.forall_mem_cons.mpr ⟨sLI4, (List.forall_mem_cons.mpr ⟨sLI3, (List.forall_mem_cons.mpr ⟨sICge, (fun _ h => absurd h List.not_mem_nil)⟩)⟩)⟩)⟩
theorem kTs_tellsApart_16 : Bok "HerbWaters$Tasters" prog_10_method_8_code (16, bTs_tellsApart_16, 32) := ⟨by decide +kernel, (List.forall_mem_cons.mpr ⟨sLA0, (List.forall_mem_cons.mpr ⟨lTs_g18, (List.forall_mem_cons.mpr ⟨sLI3, (List.forall_mem_cons.mpr ⟨sIALD, (List.forall_mem_cons.mpr ⟨sLA0, (List.forall_mem_cons.mpr ⟨lTs_g18, (List.forall_mem_cons.mpr ⟨sLI4, (List.forall_mem_cons.mpr ⟨sIALD, (List.forall_mem_cons.mpr ⟨sICeq, (fun _ h => absurd h List.not_mem_nil)⟩)⟩)⟩)⟩)⟩)⟩)⟩)⟩)⟩)⟩
theorem kTs_tellsApart_32 : Bok "HerbWaters$Tasters" prog_10_method_8_code (32, bTs_tellsApart_32, 52) := ⟨by decide +kernel, (List.forall_mem_cons.mpr ⟨sLA0, (List.forall_mem_cons.mpr ⟨lTs_g18, (List.forall_mem_cons.mpr ⟨sLI3, (List.forall_mem_cons.mpr ⟨sIALD, (List.forall_mem_cons.mpr ⟨sLI1, (List.forall_mem_cons.mpr ⟨sAND, (List.forall_mem_cons.mpr ⟨sLA0, (List.forall_mem_cons.mpr ⟨lTs_g18, (List.forall_mem_cons.mpr ⟨sLI4, (List.forall_mem_cons.mpr ⟨sIALD, (List.forall_mem_cons.mpr ⟨sLI1, (List.forall_mem_cons.mpr ⟨sAND, (List.forall_mem_cons.mpr ⟨sICne, (fun _ h => absurd h List.not_mem_nil)⟩)⟩)⟩)⟩)⟩)⟩)⟩)⟩)⟩)⟩)⟩)⟩)⟩)⟩
theorem kTs_tellsApart_52 : Bok "HerbWaters$Tasters" prog_10_method_8_code (52, bTs_tellsApart_52, 54) := ⟨by decide +kernel, (List.forall_mem_cons.mpr ⟨sC0, (List.forall_mem_cons.mpr ⟨sRI, (fun _ h => absurd h List.not_mem_nil)⟩)⟩)⟩
theorem kTs_tellsApart_54 : Bok "HerbWaters$Tasters" prog_10_method_8_code (54, bTs_tellsApart_54, 60) := ⟨by decide +kernel, (List.forall_mem_cons.mpr ⟨sINC4, (List.forall_mem_cons.mpr ⟨sGO, (fun _ h => absurd h List.not_mem_nil)⟩)⟩)⟩
theorem kTs_tellsApart_60 : Bok "HerbWaters$Tasters" prog_10_method_8_code (60, bTs_tellsApart_60, 66) := ⟨by decide +kernel, (List.forall_mem_cons.mpr ⟨sINC3, (List.forall_mem_cons.mpr ⟨sGO, (fun _ h => absurd h List.not_mem_nil)⟩)⟩)⟩
theorem kTs_tellsApart_66 : Bok "HerbWaters$Tasters" prog_10_method_8_code (66, bTs_tellsApart_66, 68) := ⟨by decide +kernel, (List.forall_mem_cons.mpr ⟨sC1, (List.forall_mem_cons.mpr ⟨sRI, (fun _ h => absurd h List.not_mem_nil)⟩)⟩)⟩
theorem kTs_tellsApart : ∀ q ∈ tTs_tellsApart, Bok "HerbWaters$Tasters" prog_10_method_8_code q := (List.forall_mem_cons.mpr ⟨kTs_tellsApart_0, (List.forall_mem_cons.mpr ⟨kTs_tellsApart_2, (List.forall_mem_cons.mpr ⟨kTs_tellsApart_7, (List.forall_mem_cons.mpr ⟨kTs_tellsApart_10, (List.forall_mem_cons.mpr ⟨kTs_tellsApart_16, (List.forall_mem_cons.mpr ⟨kTs_tellsApart_32, (List.forall_mem_cons.mpr ⟨kTs_tellsApart_52, (List.forall_mem_cons.mpr ⟨kTs_tellsApart_54, (List.forall_mem_cons.mpr ⟨kTs_tellsApart_60, (List.forall_mem_cons.mpr ⟨kTs_tellsApart_66, (fun _ h => absurd h List.not_mem_nil)⟩)⟩)⟩)⟩)⟩)⟩)⟩)⟩)⟩)⟩)
theorem rTs_tellsApart : mTs_tellsApart.2.2.2 = some .boolean := rfl
def mH_feed : Mt := (⟨"HerbWaters", "feed", "(IIIII)I"⟩, prog_1_method_2_code, 6, some .int)
theorem ok_H_feed : Mok mH_feed := ⟨gtb_mem 627 (by decide +kernel) rfl, gtb_mem 93 (by decide +kernel) rfl, by decide +kernel, by decide⟩
theorem lH_g10 : Snd "HerbWaters" (iGR 10 10 0) := sGR _ rfl (gtb_mem 578 (by decide +kernel) rfl)
theorem lH_g111 : Snd "HerbWaters" (iGI 111 7 1) := sGIN _ rfl "HerbWaters" (List.mem_filter.mpr ⟨List.mem_of_getElem? (i := 140) (by decide +kernel), rfl⟩)
theorem lH_v114 : Snd "HerbWaters" (iCV1 114 7 mTp_append) := sCV1 _ rfl rfl ok_Tp_append (gtb_mem 629 (by decide +kernel) rfl) (gtb_mem 630 (by decide +kernel) rfl) (gtb_mem 628 (by decide +kernel) rfl)
def bH_feed_0 : List Ir := [iLA0, (iGR 10 10 0), (iGI 111 7 1), (iBP 20), iADD, (iSP 600), (iICle (5) 18)]
def bH_feed_16 : List Ir := [iCm1, iRI]
def bH_feed_18 : List Ir := [iLA0, (iGR 10 10 0), iLI1, (iCV1 114 7 mTp_append), iLA0, (iGR 10 10 0), iLI2, (iCV1 114 7 mTp_append), iLA0, (iGR 10 10 0), iLI3, (iCV1 114 7 mTp_append), iLA0, (iGR 10 10 0), iLI4, (iCV1 114 7 mTp_append), iLA0, (iGR 10 10 0), iLI5, (iCV1 114 7 mTp_append), iLA0, (iGR 10 10 0), (iGI 111 7 1), iRI]
def tH_feed : Tb := [(0, bH_feed_0, 16), (16, bH_feed_16, 18), (18, bH_feed_18, 68)]
theorem fH_feed_0 : tbf tH_feed 0 = some (bH_feed_0, 16) := rfl
theorem fH_feed_16 : tbf tH_feed 16 = some (bH_feed_16, 18) := rfl
theorem fH_feed_18 : tbf tH_feed 18 = some (bH_feed_18, 68) := rfl
theorem kH_feed_0 : Bok "HerbWaters" prog_1_method_2_code (0, bH_feed_0, 16) := ⟨by decide +kernel, (List.forall_mem_cons.mpr ⟨sLA0, (List.forall_mem_cons.mpr ⟨lH_g10, (List.forall_mem_cons.mpr ⟨lH_g111, (List.forall_mem_cons.mpr ⟨sBP, (List.forall_mem_cons.mpr ⟨sADD, (List.forall_mem_cons.mpr ⟨sSP, (List.forall_mem_cons.mpr ⟨sICle, (fun _ h => absurd h List.not_mem_nil)⟩)⟩)⟩)⟩)⟩)⟩)⟩)⟩
theorem kH_feed_16 : Bok "HerbWaters" prog_1_method_2_code (16, bH_feed_16, 18) := ⟨by decide +kernel, (List.forall_mem_cons.mpr ⟨sCm1, (List.forall_mem_cons.mpr ⟨sRI, (fun _ h => absurd h List.not_mem_nil)⟩)⟩)⟩
theorem kH_feed_18 : Bok "HerbWaters" prog_1_method_2_code (18, bH_feed_18, 68) := ⟨by decide +kernel, (List.forall_mem_cons.mpr ⟨sLA0, (List.forall_mem_cons.mpr ⟨lH_g10, (List.forall_mem_cons.mpr ⟨sLI1, (List.forall_mem_cons.mpr ⟨lH_v114, (List.forall_mem_cons.mpr ⟨sLA0, (List.forall_mem_cons.mpr ⟨lH_g10, (List.forall_mem_cons.mpr ⟨sLI2, (List.forall_mem_cons.mpr ⟨lH_v114, (List.forall_mem_cons.mpr ⟨sLA0, (List.forall_mem_cons.mpr ⟨lH_g10, (List.forall_mem_cons.mpr ⟨sLI3, (List.forall_mem_cons.mpr ⟨lH_v114, (List.forall_mem_cons.mpr ⟨sLA0, (List.forall_mem_cons.mpr ⟨lH_g10, (List.forall_mem_cons.mpr ⟨sLI4, (List.forall_mem_cons.mpr ⟨lH_v114, (List.forall_mem_cons.mpr ⟨sLA0, (List.forall_mem_cons.mpr ⟨lH_g10, (List.forall_mem_cons.mpr ⟨sLI5, (List.forall_mem_cons.mpr ⟨lH_v114, (List.forall_mem_cons.mpr ⟨sLA0, (List.forall_mem_cons.mpr ⟨lH_g10, (List.forall_mem_cons.mpr ⟨lH_g111, (List.forall_mem_cons.mpr ⟨sRI, (fun _ h => absurd h List.not_mem_nil)⟩)⟩)⟩)⟩)⟩)⟩)⟩)⟩)⟩)⟩)⟩)⟩)⟩)⟩)⟩)⟩)⟩)⟩)⟩)⟩)⟩)⟩)⟩)⟩)⟩
theorem kH_feed : ∀ q ∈ tH_feed, Bok "HerbWaters" prog_1_method_2_code q := (List.forall_mem_cons.mpr ⟨kH_feed_0, (List.forall_mem_cons.mpr ⟨kH_feed_16, (List.forall_mem_cons.mpr ⟨kH_feed_18, (fun _ h => absurd h List.not_mem_nil)⟩)⟩)⟩)
theorem rH_feed : mH_feed.2.2.2 = some .int := rfl
def mH_town : Mt := (⟨"HerbWaters", "town", "(I)I"⟩, prog_1_method_3_code, 4, some .int)
theorem ok_H_town : Mok mH_town := ⟨gtb_mem 1115 (by decide +kernel) rfl, gtb_mem 93 (by decide +kernel) rfl, by decide +kernel, by decide⟩
def mH_needIn : Mt := (⟨"HerbWaters", "needIn", "(III)V"⟩, prog_1_method_39_code, 4, none)
theorem ok_H_needIn : Mok mH_needIn := ⟨gtb_mem 1119 (by decide +kernel) rfl, gtb_mem 93 (by decide +kernel) rfl, by decide +kernel, by decide⟩
theorem lH_v118 : Snd "HerbWaters" (iCV3 118 10 mH_needIn) := sCV3 _ rfl rfl ok_H_needIn (gtb_mem 1118 (by decide +kernel) rfl) (gtb_mem 14 (by decide +kernel) rfl) (gtb_mem 1116 (by decide +kernel) rfl)
theorem lH_v122 : Snd "HerbWaters" (iCV1 122 7 mTp_open) := sCV1 _ rfl rfl ok_Tp_open (gtb_mem 1124 (by decide +kernel) rfl) (gtb_mem 1125 (by decide +kernel) rfl) (gtb_mem 1123 (by decide +kernel) rfl)
theorem lH_g64 : Snd "HerbWaters" (iGR 64 10 8) := sGR _ rfl (gtb_mem 586 (by decide +kernel) rfl)
theorem lH_v125 : Snd "HerbWaters" (iCV1 125 9 mTn_read) := sCV1 _ rfl rfl ok_Tn_read (gtb_mem 1129 (by decide +kernel) rfl) (gtb_mem 1130 (by decide +kernel) rfl) (gtb_mem 1128 (by decide +kernel) rfl)
theorem lH_v129 : Snd "HerbWaters" (iCV0 129 7 mTp_close) := sCV0 _ rfl rfl ok_Tp_close (gtb_mem 1262 (by decide +kernel) rfl) (gtb_mem 1263 (by decide +kernel) rfl) (gtb_mem 1261 (by decide +kernel) rfl)
theorem lH_g132 : Snd "HerbWaters" (iGI 132 7 5) := sGIN _ rfl "HerbWaters" (List.mem_filter.mpr ⟨List.mem_of_getElem? (i := 145) (by decide +kernel), rfl⟩)
theorem lH_g19 : Snd "HerbWaters" (iGR 19 10 1) := sGR _ rfl (gtb_mem 579 (by decide +kernel) rfl)
theorem lH_g101 : Snd "HerbWaters" (iGR 101 0 0) := sGRN _ rfl "HerbWaters" (List.mem_filter.mpr ⟨List.mem_of_getElem? (i := 278) (by decide +kernel), rfl⟩)
theorem lH_p101 : Snd "HerbWaters" (iPR 101 0 0) := sPRN _ rfl rfl "HerbWaters" (List.mem_filter.mpr ⟨List.mem_of_getElem? (i := 278) (by decide +kernel), rfl⟩)
theorem lH_p64 : Snd "HerbWaters" (iPR 64 10 8) := sPR _ rfl rfl (gtb_mem 586 (by decide +kernel) rfl)
theorem lH_v135 : Snd "HerbWaters" (iCV0 135 0 mAq_forgetOpinions) := sCV0 _ rfl rfl ok_Aq_forgetOpinions (gtb_mem 1266 (by decide +kernel) rfl) (gtb_mem 1267 (by decide +kernel) rfl) (gtb_mem 1265 (by decide +kernel) rfl)
theorem lH_g35 : Snd "HerbWaters" (iGR 35 10 3) := sGR _ rfl (gtb_mem 581 (by decide +kernel) rfl)
theorem lH_g138 : Snd "HerbWaters" (iGR 138 8 3) := sGRN _ rfl "HerbWaters" (List.mem_filter.mpr ⟨List.mem_of_getElem? (i := 463) (by decide +kernel), rfl⟩)
theorem lH_v141 : Snd "HerbWaters" (iCV0 141 1 mBk_clear) := sCV0 _ rfl rfl ok_Bk_clear (gtb_mem 1274 (by decide +kernel) rfl) (gtb_mem 1275 (by decide +kernel) rfl) (gtb_mem 1273 (by decide +kernel) rfl)
theorem lH_v144 : Snd "HerbWaters" (iCV0 144 8 mTs_forget) := sCV0 _ rfl rfl ok_Ts_forget (gtb_mem 1278 (by decide +kernel) rfl) (gtb_mem 1279 (by decide +kernel) rfl) (gtb_mem 1277 (by decide +kernel) rfl)
theorem lH_p91 : Snd "HerbWaters" (iPI 91 10 12) := sPI _ rfl rfl (gtb_mem 590 (by decide +kernel) rfl)
theorem lH_g42 : Snd "HerbWaters" (iGR 42 10 4) := sGR _ rfl (gtb_mem 582 (by decide +kernel) rfl)
theorem lH_v104 : Snd "HerbWaters" (iCV1 104 2 mDy_begin) := sCV1 _ rfl rfl ok_Dy_begin (gtb_mem 533 (by decide +kernel) rfl) (gtb_mem 534 (by decide +kernel) rfl) (gtb_mem 532 (by decide +kernel) rfl)
theorem lH_g49 : Snd "HerbWaters" (iGR 49 10 5) := sGR _ rfl (gtb_mem 583 (by decide +kernel) rfl)
theorem lH_v108 : Snd "HerbWaters" (iCV1 108 3 mDi_begin) := sCV1 _ rfl rfl ok_Di_begin (gtb_mem 563 (by decide +kernel) rfl) (gtb_mem 564 (by decide +kernel) rfl) (gtb_mem 562 (by decide +kernel) rfl)
theorem lH_g147 : Snd "HerbWaters" (iGI 147 9 10) := sGIN _ rfl "HerbWaters" (List.mem_filter.mpr ⟨List.mem_of_getElem? (i := 202) (by decide +kernel), rfl⟩)
def bH_town_0 : List Ir := [iLA0, iLI1, iC0, iLA0, (iGR 10 10 0), (iGI 111 7 1), (iCV3 118 10 mH_needIn), iLA0, (iGR 10 10 0), iLI1, (iCV1 122 7 mTp_open), iLA0, (iGR 64 10 8), iLA0, (iGR 10 10 0), (iCV1 125 9 mTn_read), iSI2, iLA0, (iGR 10 10 0), (iCV0 129 7 mTp_close), iLI2, (iIFne (14) 55)]
def bH_town_44 : List Ir := [iLA0, (iGR 10 10 0), (iGI 132 7 5), (iBP 10), iSUB, iRI]
def bH_town_55 : List Ir := [iLA0, (iGR 19 10 1), (iGR 101 0 0), iSA3, iLA0, (iGR 19 10 1), iLA0, (iGR 64 10 8), (iPR 101 0 0), iLA0, iLA3, (iPR 64 10 8), iLA0, (iGR 19 10 1), (iCV0 135 0 mAq_forgetOpinions), iLA0, (iGR 35 10 3), (iGR 138 8 3), (iCV0 141 1 mBk_clear), iLA0, (iGR 35 10 3), (iCV0 144 8 mTs_forget), iLA0, iC0, (iPI 91 10 12), iLA0, (iGR 42 10 4), iLA0, (iGR 19 10 1), (iGR 101 0 0), (iCV1 104 2 mDy_begin), iLA0, (iGR 49 10 5), iLA0, (iGR 42 10 4), (iCV1 108 3 mDi_begin), iLA0, (iGR 19 10 1), (iGR 101 0 0), (iGI 147 9 10), iRI]
def tH_town : Tb := [(0, bH_town_0, 44), (44, bH_town_44, 55), (55, bH_town_55, 144)]
theorem fH_town_0 : tbf tH_town 0 = some (bH_town_0, 44) := rfl
theorem fH_town_44 : tbf tH_town 44 = some (bH_town_44, 55) := rfl
theorem fH_town_55 : tbf tH_town 55 = some (bH_town_55, 144) := rfl
theorem kH_town_0 : Bok "HerbWaters" prog_1_method_3_code (0, bH_town_0, 44) := ⟨by decide +kernel, (List.forall_mem_cons.mpr ⟨sLA0, (List.forall_mem_cons.mpr ⟨sLI1, (List.forall_mem_cons.mpr ⟨sC0, (List.forall_mem_cons.mpr ⟨sLA0, (List.forall_mem_cons.mpr ⟨lH_g10, (List.forall_mem_cons.mpr ⟨lH_g111, (List.forall_mem_cons.mpr ⟨lH_v118, (List.forall_mem_cons.mpr ⟨sLA0, (List.forall_mem_cons.mpr ⟨lH_g10, (List.forall_mem_cons.mpr ⟨sLI1, (List.forall_mem_cons.mpr ⟨lH_v122, (List.forall_mem_cons.mpr ⟨sLA0, (List.forall_mem_cons.mpr ⟨lH_g64, (List.forall_mem_cons.mpr ⟨sLA0, (List.forall_mem_cons.mpr ⟨lH_g10, (List.forall_mem_cons.mpr ⟨lH_v125, (List.forall_mem_cons.mpr ⟨sSI2, (List.forall_mem_cons.mpr ⟨sLA0, (List.forall_mem_cons.mpr ⟨lH_g10, (List.forall_mem_cons.mpr ⟨lH_v129, (List.forall_mem_cons.mpr ⟨sLI2, (List.forall_mem_cons.mpr ⟨sIFne, (fun _ h => absurd h List.not_mem_nil)⟩)⟩)⟩)⟩)⟩)⟩)⟩)⟩)⟩)⟩)⟩)⟩)⟩)⟩)⟩)⟩)⟩)⟩)⟩)⟩)⟩)⟩)⟩
theorem kH_town_44 : Bok "HerbWaters" prog_1_method_3_code (44, bH_town_44, 55) := ⟨by decide +kernel, (List.forall_mem_cons.mpr ⟨sLA0, (List.forall_mem_cons.mpr ⟨lH_g10, (List.forall_mem_cons.mpr ⟨lH_g132, (List.forall_mem_cons.mpr ⟨sBP, (List.forall_mem_cons.mpr ⟨sSUB, (List.forall_mem_cons.mpr ⟨sRI, (fun _ h => absurd h List.not_mem_nil)⟩)⟩)⟩)⟩)⟩)⟩)⟩
theorem kH_town_55 : Bok "HerbWaters" prog_1_method_3_code (55, bH_town_55, 144) := ⟨by decide +kernel, (List.forall_mem_cons.mpr ⟨sLA0, (List.forall_mem_cons.mpr ⟨lH_g19, (List.forall_mem_cons.mpr ⟨lH_g101, (List.forall_mem_cons.mpr ⟨sSA3, (List.forall_mem_cons.mpr ⟨sLA0, (List.forall_mem_cons.mpr ⟨lH_g19, (List.forall_mem_cons.mpr ⟨sLA0, (List.forall_mem_cons.mpr ⟨lH_g64, (List.forall_mem_cons.mpr ⟨lH_p101, (List.forall_mem_cons.mpr ⟨sLA0, (List.forall_mem_cons.mpr ⟨sLA3, (List.forall_mem_cons.mpr ⟨lH_p64, (List.forall_mem_cons.mpr ⟨sLA0, (List.forall_mem_cons.mpr ⟨lH_g19, (List.forall_mem_cons.mpr ⟨lH_v135, (List.forall_mem_cons.mpr ⟨sLA0, (List.forall_mem_cons.mpr ⟨lH_g35, (List.forall_mem_cons.mpr ⟨lH_g138, (List.forall_mem_cons.mpr ⟨lH_v141, (List.forall_mem_cons.mpr ⟨sLA0, (List.forall_mem_cons.mpr ⟨lH_g35, (List.forall_mem_cons.mpr ⟨lH_v144, (List.forall_mem_cons.mpr ⟨sLA0, (List.forall_mem_cons.mpr ⟨sC0, (List.forall_mem_cons.mpr ⟨lH_p91, (List.forall_mem_cons.mpr ⟨sLA0, (List.forall_mem_cons.mpr ⟨lH_g42, (List.forall_mem_cons.mpr ⟨sLA0, (List.forall_mem_cons.mpr ⟨lH_g19, (List.forall_mem_cons.mpr ⟨lH_g101, (List.forall_mem_cons.mpr ⟨lH_v104, (List.forall_mem_cons.mpr ⟨sLA0, (List.forall_mem_cons.mpr ⟨lH_g49, (List.forall_mem_cons.mpr ⟨sLA0, (List.forall_mem_cons.mpr ⟨lH_g42, (List.forall_mem_cons.mpr ⟨lH_v108, (List.forall_mem_cons.mpr ⟨sLA0, (List.forall_mem_cons.mpr ⟨lH_g19, (List.forall_mem_cons.mpr ⟨lH_g101, (List.forall_mem_cons.mpr ⟨lH_g147, (List.forall_mem_cons.mpr ⟨sRI, (fun _ h => absurd h List.not_mem_nil)⟩)⟩)⟩)⟩)⟩)⟩)⟩)⟩)⟩)⟩)⟩)⟩)⟩)⟩)⟩)⟩)⟩)⟩)⟩)⟩)⟩)⟩)⟩)⟩)⟩)⟩)⟩)⟩)⟩)⟩)⟩)⟩)⟩)⟩)⟩)⟩)⟩)⟩)⟩)⟩)⟩)⟩
theorem kH_town : ∀ q ∈ tH_town, Bok "HerbWaters" prog_1_method_3_code q := (List.forall_mem_cons.mpr ⟨kH_town_0, (List.forall_mem_cons.mpr ⟨kH_town_44, (List.forall_mem_cons.mpr ⟨kH_town_55, (fun _ h => absurd h List.not_mem_nil)⟩)⟩)⟩)
theorem rH_town : mH_town.2.2.2 = some .int := rfl
def mH_opinion : Mt := (⟨"HerbWaters", "opinion", "(II)I"⟩, prog_1_method_4_code, 4, some .int)
theorem ok_H_opinion : Mok mH_opinion := ⟨gtb_mem 1288 (by decide +kernel) rfl, gtb_mem 93 (by decide +kernel) rfl, by decide +kernel, by decide⟩
def mH_needVillage : Mt := (⟨"HerbWaters", "needVillage", "(I)V"⟩, prog_1_method_38_code, 2, none)
theorem ok_H_needVillage : Mok mH_needVillage := ⟨gtb_mem 1292 (by decide +kernel) rfl, gtb_mem 93 (by decide +kernel) rfl, by decide +kernel, by decide⟩
theorem lH_v150 : Snd "HerbWaters" (iCV1 150 10 mH_needVillage) := sCV1 _ rfl rfl ok_H_needVillage (gtb_mem 1291 (by decide +kernel) rfl) (gtb_mem 25 (by decide +kernel) rfl) (gtb_mem 1289 (by decide +kernel) rfl)
theorem lH_s153 : Snd "HerbWaters" (iMIN 153) := sMIN (gtb_mem 1309 (by decide +kernel) rfl) (gtb_mem 792 (by decide +kernel) rfl) (gtb_mem 105 (by decide +kernel) rfl) (gtb_mem 793 (by decide +kernel) rfl)
theorem lH_g80 : Snd "HerbWaters" (iGR 80 10 10) := sGR _ rfl (gtb_mem 588 (by decide +kernel) rfl)
theorem lH_g71 : Snd "HerbWaters" (iGR 71 10 9) := sGR _ rfl (gtb_mem 587 (by decide +kernel) rfl)
theorem lH_v159 : Snd "HerbWaters" (iCV1 159 6 mOr_read) := sCV1 _ rfl rfl ok_Or_read (gtb_mem 1311 (by decide +kernel) rfl) (gtb_mem 1312 (by decide +kernel) rfl) (gtb_mem 1310 (by decide +kernel) rfl)
theorem lH_v162 : Snd "HerbWaters" (iCV2 162 0 mAq_tell) := sCV2 _ rfl rfl ok_Aq_tell (gtb_mem 1375 (by decide +kernel) rfl) (gtb_mem 1376 (by decide +kernel) rfl) (gtb_mem 1374 (by decide +kernel) rfl)
theorem lH_p71 : Snd "HerbWaters" (iPR 71 10 9) := sPR _ rfl rfl (gtb_mem 587 (by decide +kernel) rfl)
theorem lH_v166 : Snd "HerbWaters" (iCV1 166 0 mAq_opinionOf) := sCV1 _ rfl rfl ok_Aq_opinionOf (gtb_mem 1379 (by decide +kernel) rfl) (gtb_mem 1380 (by decide +kernel) rfl) (gtb_mem 1378 (by decide +kernel) rfl)
theorem lH_g170 : Snd "HerbWaters" (iGI 170 5 3) := sGIN _ rfl "HerbWaters" (List.mem_filter.mpr ⟨List.mem_of_getElem? (i := 258) (by decide +kernel), rfl⟩)
def bH_opinion_0 : List Ir := [iLA0, iLI1, (iCV1 150 10 mH_needVillage), iLA0, iLI2, iC0, (iSP 150), iLA0, (iGR 10 10 0), (iGI 111 7 1), (iMIN 153), (iCV3 118 10 mH_needIn), iLA0, (iGR 10 10 0), iLI2, (iCV1 122 7 mTp_open), iLA0, (iGR 80 10 10), iLA0, (iGR 71 10 9), (iCV1 159 6 mOr_read), iSI3, iLA0, (iGR 10 10 0), (iCV0 129 7 mTp_close), iLI3, (iIFne (14) 66)]
def bH_opinion_55 : List Ir := [iLA0, (iGR 10 10 0), (iGI 132 7 5), (iBP 10), iSUB, iRI]
def bH_opinion_66 : List Ir := [iLA0, iLA0, (iGR 19 10 1), iLI1, iLA0, (iGR 71 10 9), (iCV2 162 0 mAq_tell), (iPR 71 10 9), iLA0, (iGR 35 10 3), (iCV0 144 8 mTs_forget), iLA0, (iGR 49 10 5), iLA0, (iGR 42 10 4), (iCV1 108 3 mDi_begin), iLA0, (iGR 19 10 1), iLI1, (iCV1 166 0 mAq_opinionOf), (iGI 170 5 3), iRI]
def tH_opinion : Tb := [(0, bH_opinion_0, 55), (55, bH_opinion_55, 66), (66, bH_opinion_66, 112)]
theorem fH_opinion_0 : tbf tH_opinion 0 = some (bH_opinion_0, 55) := rfl
theorem fH_opinion_55 : tbf tH_opinion 55 = some (bH_opinion_55, 66) := rfl
theorem fH_opinion_66 : tbf tH_opinion 66 = some (bH_opinion_66, 112) := rfl
theorem kH_opinion_0 : Bok "HerbWaters" prog_1_method_4_code (0, bH_opinion_0, 55) := ⟨by decide +kernel, (List.forall_mem_cons.mpr ⟨sLA0, (List.forall_mem_cons.mpr ⟨sLI1, (List.forall_mem_cons.mpr ⟨lH_v150, (List.forall_mem_cons.mpr ⟨sLA0, (List.forall_mem_cons.mpr ⟨sLI2, (List.forall_mem_cons.mpr ⟨sC0, (List.forall_mem_cons.mpr ⟨sSP, (List.forall_mem_cons.mpr ⟨sLA0, (List.forall_mem_cons.mpr ⟨lH_g10, (List.forall_mem_cons.mpr ⟨lH_g111, (List.forall_mem_cons.mpr ⟨lH_s153, (List.forall_mem_cons.mpr ⟨lH_v118, (List.forall_mem_cons.mpr ⟨sLA0, (List.forall_mem_cons.mpr ⟨lH_g10, (List.forall_mem_cons.mpr ⟨sLI2, (List.forall_mem_cons.mpr ⟨lH_v122, (List.forall_mem_cons.mpr ⟨sLA0, (List.forall_mem_cons.mpr ⟨lH_g80, (List.forall_mem_cons.mpr ⟨sLA0, (List.forall_mem_cons.mpr ⟨lH_g71, (List.forall_mem_cons.mpr ⟨lH_v159, (List.forall_mem_cons.mpr ⟨sSI3, (List.forall_mem_cons.mpr ⟨sLA0, (List.forall_mem_cons.mpr ⟨lH_g10, (List.forall_mem_cons.mpr ⟨lH_v129, (List.forall_mem_cons.mpr ⟨sLI3, (List.forall_mem_cons.mpr ⟨sIFne, (fun _ h => absurd h List.not_mem_nil)⟩)⟩)⟩)⟩)⟩)⟩)⟩)⟩)⟩)⟩)⟩)⟩)⟩)⟩)⟩)⟩)⟩)⟩)⟩)⟩)⟩)⟩)⟩)⟩)⟩)⟩)⟩)⟩
theorem kH_opinion_55 : Bok "HerbWaters" prog_1_method_4_code (55, bH_opinion_55, 66) := ⟨by decide +kernel, (List.forall_mem_cons.mpr ⟨sLA0, (List.forall_mem_cons.mpr ⟨lH_g10, (List.forall_mem_cons.mpr ⟨lH_g132, (List.forall_mem_cons.mpr ⟨sBP, (List.forall_mem_cons.mpr ⟨sSUB, (List.forall_mem_cons.mpr ⟨sRI, (fun _ h => absurd h List.not_mem_nil)⟩)⟩)⟩)⟩)⟩)⟩)⟩
theorem kH_opinion_66 : Bok "HerbWaters" prog_1_method_4_code (66, bH_opinion_66, 112) := ⟨by decide +kernel, (List.forall_mem_cons.mpr ⟨sLA0, (List.forall_mem_cons.mpr ⟨sLA0, (List.forall_mem_cons.mpr ⟨lH_g19, (List.forall_mem_cons.mpr ⟨sLI1, (List.forall_mem_cons.mpr ⟨sLA0, (List.forall_mem_cons.mpr ⟨lH_g71, (List.forall_mem_cons.mpr ⟨lH_v162, (List.forall_mem_cons.mpr ⟨lH_p71, (List.forall_mem_cons.mpr ⟨sLA0, (List.forall_mem_cons.mpr ⟨lH_g35, (List.forall_mem_cons.mpr ⟨lH_v144, (List.forall_mem_cons.mpr ⟨sLA0, (List.forall_mem_cons.mpr ⟨lH_g49, (List.forall_mem_cons.mpr ⟨sLA0, (List.forall_mem_cons.mpr ⟨lH_g42, (List.forall_mem_cons.mpr ⟨lH_v108, (List.forall_mem_cons.mpr ⟨sLA0, (List.forall_mem_cons.mpr ⟨lH_g19, (List.forall_mem_cons.mpr ⟨sLI1, (List.forall_mem_cons.mpr ⟨lH_v166, (List.forall_mem_cons.mpr ⟨lH_g170, (List.forall_mem_cons.mpr ⟨sRI, (fun _ h => absurd h List.not_mem_nil)⟩)⟩)⟩)⟩)⟩)⟩)⟩)⟩)⟩)⟩)⟩)⟩)⟩)⟩)⟩)⟩)⟩)⟩)⟩)⟩)⟩)⟩)⟩
theorem kH_opinion : ∀ q ∈ tH_opinion, Bok "HerbWaters" prog_1_method_4_code q := (List.forall_mem_cons.mpr ⟨kH_opinion_0, (List.forall_mem_cons.mpr ⟨kH_opinion_55, (List.forall_mem_cons.mpr ⟨kH_opinion_66, (fun _ h => absurd h List.not_mem_nil)⟩)⟩)⟩)
theorem rH_opinion : mH_opinion.2.2.2 = some .int := rfl
def mH_book : Mt := (⟨"HerbWaters", "book", "(I)I"⟩, prog_1_method_5_code, 4, some .int)
theorem ok_H_book : Mok mH_book := ⟨gtb_mem 1388 (by decide +kernel) rfl, gtb_mem 93 (by decide +kernel) rfl, by decide +kernel, by decide⟩
theorem lH_g87 : Snd "HerbWaters" (iGR 87 10 11) := sGR _ rfl (gtb_mem 589 (by decide +kernel) rfl)
theorem lH_v173 : Snd "HerbWaters" (iCV1 173 1 mBk_read) := sCV1 _ rfl rfl ok_Bk_read (gtb_mem 1390 (by decide +kernel) rfl) (gtb_mem 1391 (by decide +kernel) rfl) (gtb_mem 1389 (by decide +kernel) rfl)
theorem lH_p138 : Snd "HerbWaters" (iPR 138 8 3) := sPRN _ rfl rfl "HerbWaters" (List.mem_filter.mpr ⟨List.mem_of_getElem? (i := 463) (by decide +kernel), rfl⟩)
theorem lH_p87 : Snd "HerbWaters" (iPR 87 10 11) := sPR _ rfl rfl (gtb_mem 589 (by decide +kernel) rfl)
theorem lH_g174 : Snd "HerbWaters" (iGI 174 1 2) := sGIN _ rfl "HerbWaters" (List.mem_filter.mpr ⟨List.mem_of_getElem? (i := 447) (by decide +kernel), rfl⟩)
def bH_book_0 : List Ir := [iLA0, iLI1, iC0, (iSP 150), iLA0, (iGR 10 10 0), (iGI 111 7 1), (iMIN 153), (iCV3 118 10 mH_needIn), iLA0, (iGR 10 10 0), iLI1, (iCV1 122 7 mTp_open), iLA0, (iGR 87 10 11), iLA0, (iGR 10 10 0), (iCV1 173 1 mBk_read), iSI2, iLA0, (iGR 10 10 0), (iCV0 129 7 mTp_close), iLI2, (iIFne (14) 61)]
def bH_book_50 : List Ir := [iLA0, (iGR 10 10 0), (iGI 132 7 5), (iBP 10), iSUB, iRI]
def bH_book_61 : List Ir := [iLA0, (iGR 35 10 3), (iGR 138 8 3), iSA3, iLA0, (iGR 35 10 3), iLA0, (iGR 87 10 11), (iPR 138 8 3), iLA0, iLA3, (iPR 87 10 11), iLA0, (iGR 35 10 3), (iCV0 144 8 mTs_forget), iLA0, (iGR 35 10 3), (iGR 138 8 3), (iGI 174 1 2), iRI]
def tH_book : Tb := [(0, bH_book_0, 50), (50, bH_book_50, 61), (61, bH_book_61, 103)]
theorem fH_book_0 : tbf tH_book 0 = some (bH_book_0, 50) := rfl
theorem fH_book_50 : tbf tH_book 50 = some (bH_book_50, 61) := rfl
theorem fH_book_61 : tbf tH_book 61 = some (bH_book_61, 103) := rfl
theorem kH_book_0 : Bok "HerbWaters" prog_1_method_5_code (0, bH_book_0, 50) := ⟨by decide +kernel, (List.forall_mem_cons.mpr ⟨sLA0, (List.forall_mem_cons.mpr ⟨sLI1, (List.forall_mem_cons.mpr ⟨sC0, (List.forall_mem_cons.mpr ⟨sSP, (List.forall_mem_cons.mpr ⟨sLA0, (List.forall_mem_cons.mpr ⟨lH_g10, (List.forall_mem_cons.mpr ⟨lH_g111, (List.forall_mem_cons.mpr ⟨lH_s153, (List.forall_mem_cons.mpr ⟨lH_v118, (List.forall_mem_cons.mpr ⟨sLA0, (List.forall_mem_cons.mpr ⟨lH_g10, (List.forall_mem_cons.mpr ⟨sLI1, (List.forall_mem_cons.mpr ⟨lH_v122, (List.forall_mem_cons.mpr ⟨sLA0, (List.forall_mem_cons.mpr ⟨lH_g87, (List.forall_mem_cons.mpr ⟨sLA0, (List.forall_mem_cons.mpr ⟨lH_g10, (List.forall_mem_cons.mpr ⟨lH_v173, (List.forall_mem_cons.mpr ⟨sSI2, (List.forall_mem_cons.mpr ⟨sLA0, (List.forall_mem_cons.mpr ⟨lH_g10, (List.forall_mem_cons.mpr ⟨lH_v129, (List.forall_mem_cons.mpr ⟨sLI2, (List.forall_mem_cons.mpr ⟨sIFne, (fun _ h => absurd h List.not_mem_nil)⟩)⟩)⟩)⟩)⟩)⟩)⟩)⟩)⟩)⟩)⟩)⟩)⟩)⟩)⟩)⟩)⟩)⟩)⟩)⟩)⟩)⟩)⟩)⟩)⟩
theorem kH_book_50 : Bok "HerbWaters" prog_1_method_5_code (50, bH_book_50, 61) := ⟨by decide +kernel, (List.forall_mem_cons.mpr ⟨sLA0, (List.forall_mem_cons.mpr ⟨lH_g10, (List.forall_mem_cons.mpr ⟨lH_g132, (List.forall_mem_cons.mpr ⟨sBP, (List.forall_mem_cons.mpr ⟨sSUB, (List.forall_mem_cons.mpr ⟨sRI, (fun _ h => absurd h List.not_mem_nil)⟩)⟩)⟩)⟩)⟩)⟩)⟩
theorem kH_book_61 : Bok "HerbWaters" prog_1_method_5_code (61, bH_book_61, 103) := ⟨by decide +kernel, (List.forall_mem_cons.mpr ⟨sLA0, (List.forall_mem_cons.mpr ⟨lH_g35, (List.forall_mem_cons.mpr ⟨lH_g138, (List.forall_mem_cons.mpr ⟨sSA3, (List.forall_mem_cons.mpr ⟨sLA0, (List.forall_mem_cons.mpr ⟨lH_g35, (List.forall_mem_cons.mpr ⟨sLA0, (List.forall_mem_cons.mpr ⟨lH_g87, (List.forall_mem_cons.mpr ⟨lH_p138, (List.forall_mem_cons.mpr ⟨sLA0, (List.forall_mem_cons.mpr ⟨sLA3, (List.forall_mem_cons.mpr ⟨lH_p87, (List.forall_mem_cons.mpr ⟨sLA0, (List.forall_mem_cons.mpr ⟨lH_g35, (List.forall_mem_cons.mpr ⟨lH_v144, (List.forall_mem_cons.mpr ⟨sLA0, (List.forall_mem_cons.mpr ⟨lH_g35, (List.forall_mem_cons.mpr ⟨lH_g138, (List.forall_mem_cons.mpr ⟨lH_g174, (List.forall_mem_cons.mpr ⟨sRI, (fun _ h => absurd h List.not_mem_nil)⟩)⟩)⟩)⟩)⟩)⟩)⟩)⟩)⟩)⟩)⟩)⟩)⟩)⟩)⟩)⟩)⟩)⟩)⟩)⟩)⟩
theorem kH_book : ∀ q ∈ tH_book, Bok "HerbWaters" prog_1_method_5_code q := (List.forall_mem_cons.mpr ⟨kH_book_0, (List.forall_mem_cons.mpr ⟨kH_book_50, (List.forall_mem_cons.mpr ⟨kH_book_61, (fun _ h => absurd h List.not_mem_nil)⟩)⟩)⟩)
theorem rH_book : mH_book.2.2.2 = some .int := rfl
def mH_fault : Mt := (⟨"HerbWaters", "fault", "()I"⟩, prog_1_method_6_code, 1, some .int)
theorem ok_H_fault : Mok mH_fault := ⟨gtb_mem 635 (by decide +kernel) rfl, gtb_mem 93 (by decide +kernel) rfl, by decide +kernel, by decide⟩
theorem lH_g177 : Snd "HerbWaters" (iGI 177 7 6) := sGIN _ rfl "HerbWaters" (List.mem_filter.mpr ⟨List.mem_of_getElem? (i := 147) (by decide +kernel), rfl⟩)
def bH_fault_0 : List Ir := [iLA0, (iGR 10 10 0), (iGI 177 7 6), iRI]
def tH_fault : Tb := [(0, bH_fault_0, 8)]
theorem fH_fault_0 : tbf tH_fault 0 = some (bH_fault_0, 8) := rfl
theorem kH_fault_0 : Bok "HerbWaters" prog_1_method_6_code (0, bH_fault_0, 8) := ⟨by decide +kernel, (List.forall_mem_cons.mpr ⟨sLA0, (List.forall_mem_cons.mpr ⟨lH_g10, (List.forall_mem_cons.mpr ⟨lH_g177, (List.forall_mem_cons.mpr ⟨sRI, (fun _ h => absurd h List.not_mem_nil)⟩)⟩)⟩)⟩)⟩
theorem kH_fault : ∀ q ∈ tH_fault, Bok "HerbWaters" prog_1_method_6_code q := (List.forall_mem_cons.mpr ⟨kH_fault_0, (fun _ h => absurd h List.not_mem_nil)⟩)
theorem rH_fault : mH_fault.2.2.2 = some .int := rfl
def mH_told : Mt := (⟨"HerbWaters", "told", "(I)I"⟩, prog_1_method_7_code, 2, some .int)
theorem ok_H_told : Mok mH_told := ⟨gtb_mem 1409 (by decide +kernel) rfl, gtb_mem 93 (by decide +kernel) rfl, by decide +kernel, by decide⟩
theorem lH_g180 : Snd "HerbWaters" (iGI 180 9 11) := sGIN _ rfl "HerbWaters" (List.mem_filter.mpr ⟨List.mem_of_getElem? (i := 206) (by decide +kernel), rfl⟩)
theorem lH_g183 : Snd "HerbWaters" (iGI 183 9 12) := sGIN _ rfl "HerbWaters" (List.mem_filter.mpr ⟨List.mem_of_getElem? (i := 209) (by decide +kernel), rfl⟩)
theorem lH_g186 : Snd "HerbWaters" (iGI 186 9 14) := sGIN _ rfl "HerbWaters" (List.mem_filter.mpr ⟨List.mem_of_getElem? (i := 214) (by decide +kernel), rfl⟩)
theorem lH_g189 : Snd "HerbWaters" (iGI 189 2 9) := sGIN _ rfl "HerbWaters" (List.mem_filter.mpr ⟨List.mem_of_getElem? (i := 345) (by decide +kernel), rfl⟩)
theorem lH_g192 : Snd "HerbWaters" (iGI 192 2 10) := sGIN _ rfl "HerbWaters" (List.mem_filter.mpr ⟨List.mem_of_getElem? (i := 350) (by decide +kernel), rfl⟩)
theorem lH_g195 : Snd "HerbWaters" (iGI 195 2 11) := sGIN _ rfl "HerbWaters" (List.mem_filter.mpr ⟨List.mem_of_getElem? (i := 353) (by decide +kernel), rfl⟩)
def bH_told_0 : List Ir := [iLA0, iLI1, iC0, (iBP 7), (iCV3 118 10 mH_needIn), iLI1, (iSW 0 (111) #[(43), (54), (65), (76), (87), (95), (103)] 43 [52, 63, 74, 85, 96, 104, 112] 120)]
def bH_told_52 : List Ir := [iLA0, (iGR 19 10 1), (iGR 101 0 0), (iGI 147 9 10), iRI]
def bH_told_63 : List Ir := [iLA0, (iGR 19 10 1), (iGR 101 0 0), (iGI 180 9 11), iRI]
def bH_told_74 : List Ir := [iLA0, (iGR 19 10 1), (iGR 101 0 0), (iGI 183 9 12), iRI]
def bH_told_85 : List Ir := [iLA0, (iGR 19 10 1), (iGR 101 0 0), (iGI 186 9 14), iRI]
def bH_told_96 : List Ir := [iLA0, (iGR 42 10 4), (iGI 189 2 9), iRI]
def bH_told_104 : List Ir := [iLA0, (iGR 42 10 4), (iGI 192 2 10), iRI]
def bH_told_112 : List Ir := [iLA0, (iGR 42 10 4), (iGI 195 2 11), iRI]
def bH_told_120 : List Ir := [iLA0, (iGR 35 10 3), (iGR 138 8 3), (iGI 174 1 2), iRI]
def tH_told : Tb := [(0, bH_told_0, 52), (52, bH_told_52, 63), (63, bH_told_63, 74), (74, bH_told_74, 85), (85, bH_told_85, 96), (96, bH_told_96, 104), (104, bH_told_104, 112), (112, bH_told_112, 120), (120, bH_told_120, 131)]
theorem fH_told_0 : tbf tH_told 0 = some (bH_told_0, 52) := rfl
theorem fH_told_52 : tbf tH_told 52 = some (bH_told_52, 63) := rfl
theorem fH_told_63 : tbf tH_told 63 = some (bH_told_63, 74) := rfl
theorem fH_told_74 : tbf tH_told 74 = some (bH_told_74, 85) := rfl
theorem fH_told_85 : tbf tH_told 85 = some (bH_told_85, 96) := rfl
theorem fH_told_96 : tbf tH_told 96 = some (bH_told_96, 104) := rfl
theorem fH_told_104 : tbf tH_told 104 = some (bH_told_104, 112) := rfl
theorem fH_told_112 : tbf tH_told 112 = some (bH_told_112, 120) := rfl
theorem fH_told_120 : tbf tH_told 120 = some (bH_told_120, 131) := rfl
theorem kH_told_0 : Bok "HerbWaters" prog_1_method_7_code (0, bH_told_0, 52) := ⟨by decide +kernel, (List.forall_mem_cons.mpr ⟨sLA0, (List.forall_mem_cons.mpr ⟨sLI1, (List.forall_mem_cons.mpr ⟨sC0, (List.forall_mem_cons.mpr ⟨sBP, (List.forall_mem_cons.mpr ⟨lH_v118, (List.forall_mem_cons.mpr ⟨sLI1, (List.forall_mem_cons.mpr ⟨sSW, (fun _ h => absurd h List.not_mem_nil)⟩)⟩)⟩)⟩)⟩)⟩)⟩)⟩
theorem kH_told_52 : Bok "HerbWaters" prog_1_method_7_code (52, bH_told_52, 63) := ⟨by decide +kernel, (List.forall_mem_cons.mpr ⟨sLA0, (List.forall_mem_cons.mpr ⟨lH_g19, (List.forall_mem_cons.mpr ⟨lH_g101, (List.forall_mem_cons.mpr ⟨lH_g147, (List.forall_mem_cons.mpr ⟨sRI, (fun _ h => absurd h List.not_mem_nil)⟩)⟩)⟩)⟩)⟩)⟩
theorem kH_told_63 : Bok "HerbWaters" prog_1_method_7_code (63, bH_told_63, 74) := ⟨by decide +kernel, (List.forall_mem_cons.mpr ⟨sLA0, (List.forall_mem_cons.mpr ⟨lH_g19, (List.forall_mem_cons.mpr ⟨lH_g101, (List.forall_mem_cons.mpr ⟨lH_g180, (List.forall_mem_cons.mpr ⟨sRI, (fun _ h => absurd h List.not_mem_nil)⟩)⟩)⟩)⟩)⟩)⟩
theorem kH_told_74 : Bok "HerbWaters" prog_1_method_7_code (74, bH_told_74, 85) := ⟨by decide +kernel, (List.forall_mem_cons.mpr ⟨sLA0, (List.forall_mem_cons.mpr ⟨lH_g19, (List.forall_mem_cons.mpr ⟨lH_g101, (List.forall_mem_cons.mpr ⟨lH_g183, (List.forall_mem_cons.mpr ⟨sRI, (fun _ h => absurd h List.not_mem_nil)⟩)⟩)⟩)⟩)⟩)⟩
theorem kH_told_85 : Bok "HerbWaters" prog_1_method_7_code (85, bH_told_85, 96) := ⟨by decide +kernel, (List.forall_mem_cons.mpr ⟨sLA0, (List.forall_mem_cons.mpr ⟨lH_g19, (List.forall_mem_cons.mpr ⟨lH_g101, (List.forall_mem_cons.mpr ⟨lH_g186, (List.forall_mem_cons.mpr ⟨sRI, (fun _ h => absurd h List.not_mem_nil)⟩)⟩)⟩)⟩)⟩)⟩
theorem kH_told_96 : Bok "HerbWaters" prog_1_method_7_code (96, bH_told_96, 104) := ⟨by decide +kernel, (List.forall_mem_cons.mpr ⟨sLA0, (List.forall_mem_cons.mpr ⟨lH_g42, (List.forall_mem_cons.mpr ⟨lH_g189, (List.forall_mem_cons.mpr ⟨sRI, (fun _ h => absurd h List.not_mem_nil)⟩)⟩)⟩)⟩)⟩
theorem kH_told_104 : Bok "HerbWaters" prog_1_method_7_code (104, bH_told_104, 112) := ⟨by decide +kernel, (List.forall_mem_cons.mpr ⟨sLA0, (List.forall_mem_cons.mpr ⟨lH_g42, (List.forall_mem_cons.mpr ⟨lH_g192, (List.forall_mem_cons.mpr ⟨sRI, (fun _ h => absurd h List.not_mem_nil)⟩)⟩)⟩)⟩)⟩
theorem kH_told_112 : Bok "HerbWaters" prog_1_method_7_code (112, bH_told_112, 120) := ⟨by decide +kernel, (List.forall_mem_cons.mpr ⟨sLA0, (List.forall_mem_cons.mpr ⟨lH_g42, (List.forall_mem_cons.mpr ⟨lH_g195, (List.forall_mem_cons.mpr ⟨sRI, (fun _ h => absurd h List.not_mem_nil)⟩)⟩)⟩)⟩)⟩
theorem kH_told_120 : Bok "HerbWaters" prog_1_method_7_code (120, bH_told_120, 131) := ⟨by decide +kernel, (List.forall_mem_cons.mpr ⟨sLA0, (List.forall_mem_cons.mpr ⟨lH_g35, (List.forall_mem_cons.mpr ⟨lH_g138, (List.forall_mem_cons.mpr ⟨lH_g174, (List.forall_mem_cons.mpr ⟨sRI, (fun _ h => absurd h List.not_mem_nil)⟩)⟩)⟩)⟩)⟩)⟩
theorem kH_told : ∀ q ∈ tH_told, Bok "HerbWaters" prog_1_method_7_code q := (List.forall_mem_cons.mpr ⟨kH_told_0, (List.forall_mem_cons.mpr ⟨kH_told_52, (List.forall_mem_cons.mpr ⟨kH_told_63, (List.forall_mem_cons.mpr ⟨kH_told_74, (List.forall_mem_cons.mpr ⟨kH_told_85, (List.forall_mem_cons.mpr ⟨kH_told_96, (List.forall_mem_cons.mpr ⟨kH_told_104, (List.forall_mem_cons.mpr ⟨kH_told_112, (List.forall_mem_cons.mpr ⟨kH_told_120, (fun _ h => absurd h List.not_mem_nil)⟩)⟩)⟩)⟩)⟩)⟩)⟩)⟩)⟩)
theorem rH_told : mH_told.2.2.2 = some .int := rfl
def mH_village : Mt := (⟨"HerbWaters", "village", "(II)I"⟩, prog_1_method_8_code, 3, some .int)
theorem ok_H_village : Mok mH_village := ⟨gtb_mem 1416 (by decide +kernel) rfl, gtb_mem 93 (by decide +kernel) rfl, by decide +kernel, by decide⟩
theorem lH_v198 : Snd "HerbWaters" (iCV1 198 2 mDy_waterIn) := sCV1 _ rfl rfl ok_Dy_waterIn (gtb_mem 551 (by decide +kernel) rfl) (gtb_mem 552 (by decide +kernel) rfl) (gtb_mem 1417 (by decide +kernel) rfl)
theorem lH_v202 : Snd "HerbWaters" (iCV2 202 2 mDy_herbIn) := sCV2 _ rfl rfl ok_Dy_herbIn (gtb_mem 555 (by decide +kernel) rfl) (gtb_mem 556 (by decide +kernel) rfl) (gtb_mem 1418 (by decide +kernel) rfl)
theorem lH_g205 : Snd "HerbWaters" (iGR 205 9 1) := sGRN _ rfl "HerbWaters" (List.mem_filter.mpr ⟨List.mem_of_getElem? (i := 179) (by decide +kernel), rfl⟩)
theorem lH_g208 : Snd "HerbWaters" (iGR 208 9 3) := sGRN _ rfl "HerbWaters" (List.mem_filter.mpr ⟨List.mem_of_getElem? (i := 184) (by decide +kernel), rfl⟩)
theorem lH_g211 : Snd "HerbWaters" (iGR 211 9 4) := sGRN _ rfl "HerbWaters" (List.mem_filter.mpr ⟨List.mem_of_getElem? (i := 189) (by decide +kernel), rfl⟩)
theorem lH_v214 : Snd "HerbWaters" (iCV1 214 9 mTn_partsLeft) := sCV1 _ rfl rfl ok_Tn_partsLeft (gtb_mem 1225 (by decide +kernel) rfl) (gtb_mem 1226 (by decide +kernel) rfl) (gtb_mem 1419 (by decide +kernel) rfl)
theorem lH_g217 : Snd "HerbWaters" (iGR 217 2 5) := sGRN _ rfl "HerbWaters" (List.mem_filter.mpr ⟨List.mem_of_getElem? (i := 329) (by decide +kernel), rfl⟩)
def bH_village_0 : List Ir := [iLA0, iLI1, (iCV1 150 10 mH_needVillage), iLA0, iLI2, iC0, (iBP 8), (iCV3 118 10 mH_needIn), iLI2, (iSW 0 (118) #[(46), (55), (55), (55), (67), (80), (93), (106)] 46 [60, 69, 69, 69, 81, 94, 107, 120] 132)]
def bH_village_60 : List Ir := [iLA0, (iGR 42 10 4), iLI1, (iCV1 198 2 mDy_waterIn), iRI]
def bH_village_69 : List Ir := [iLA0, (iGR 42 10 4), iLI1, iLI2, iC1, iSUB, (iCV2 202 2 mDy_herbIn), iRI]
def bH_village_81 : List Ir := [iLA0, (iGR 19 10 1), (iGR 101 0 0), (iGR 205 9 1), iLI1, iIALD, iRI]
def bH_village_94 : List Ir := [iLA0, (iGR 19 10 1), (iGR 101 0 0), (iGR 208 9 3), iLI1, iIALD, iRI]
def bH_village_107 : List Ir := [iLA0, (iGR 19 10 1), (iGR 101 0 0), (iGR 211 9 4), iLI1, iIALD, iRI]
def bH_village_120 : List Ir := [iLA0, (iGR 19 10 1), (iGR 101 0 0), iLI1, (iCV1 214 9 mTn_partsLeft), iRI]
def bH_village_132 : List Ir := [iLA0, (iGR 42 10 4), (iGR 217 2 5), iLI1, iIALD, iRI]
def tH_village : Tb := [(0, bH_village_0, 60), (60, bH_village_60, 69), (69, bH_village_69, 81), (81, bH_village_81, 94), (94, bH_village_94, 107), (107, bH_village_107, 120), (120, bH_village_120, 132), (132, bH_village_132, 142)]
theorem fH_village_0 : tbf tH_village 0 = some (bH_village_0, 60) := rfl
theorem fH_village_60 : tbf tH_village 60 = some (bH_village_60, 69) := rfl
theorem fH_village_69 : tbf tH_village 69 = some (bH_village_69, 81) := rfl
theorem fH_village_81 : tbf tH_village 81 = some (bH_village_81, 94) := rfl
theorem fH_village_94 : tbf tH_village 94 = some (bH_village_94, 107) := rfl
theorem fH_village_107 : tbf tH_village 107 = some (bH_village_107, 120) := rfl
theorem fH_village_120 : tbf tH_village 120 = some (bH_village_120, 132) := rfl
theorem fH_village_132 : tbf tH_village 132 = some (bH_village_132, 142) := rfl
theorem kH_village_0 : Bok "HerbWaters" prog_1_method_8_code (0, bH_village_0, 60) := ⟨by decide +kernel, (List.forall_mem_cons.mpr ⟨sLA0, (List.forall_mem_cons.mpr ⟨sLI1, (List.forall_mem_cons.mpr ⟨lH_v150, (List.forall_mem_cons.mpr ⟨sLA0, (List.forall_mem_cons.mpr ⟨sLI2, (List.forall_mem_cons.mpr ⟨sC0, (List.forall_mem_cons.mpr ⟨sBP, (List.forall_mem_cons.mpr ⟨lH_v118, (List.forall_mem_cons.mpr ⟨sLI2, (List.forall_mem_cons.mpr ⟨sSW, (fun _ h => absurd h List.not_mem_nil)⟩)⟩)⟩)⟩)⟩)⟩)⟩)⟩)⟩)⟩)⟩
theorem kH_village_60 : Bok "HerbWaters" prog_1_method_8_code (60, bH_village_60, 69) := ⟨by decide +kernel, (List.forall_mem_cons.mpr ⟨sLA0, (List.forall_mem_cons.mpr ⟨lH_g42, (List.forall_mem_cons.mpr ⟨sLI1, (List.forall_mem_cons.mpr ⟨lH_v198, (List.forall_mem_cons.mpr ⟨sRI, (fun _ h => absurd h List.not_mem_nil)⟩)⟩)⟩)⟩)⟩)⟩
theorem kH_village_69 : Bok "HerbWaters" prog_1_method_8_code (69, bH_village_69, 81) := ⟨by decide +kernel, (List.forall_mem_cons.mpr ⟨sLA0, (List.forall_mem_cons.mpr ⟨lH_g42, (List.forall_mem_cons.mpr ⟨sLI1, (List.forall_mem_cons.mpr ⟨sLI2, (List.forall_mem_cons.mpr ⟨sC1, (List.forall_mem_cons.mpr ⟨sSUB, (List.forall_mem_cons.mpr ⟨lH_v202, (List.forall_mem_cons.mpr ⟨sRI, (fun _ h => absurd h List.not_mem_nil)⟩)⟩)⟩)⟩)⟩)⟩)⟩)⟩)⟩
theorem kH_village_81 : Bok "HerbWaters" prog_1_method_8_code (81, bH_village_81, 94) := ⟨by decide +kernel, (List.forall_mem_cons.mpr ⟨sLA0, (List.forall_mem_cons.mpr ⟨lH_g19, (List.forall_mem_cons.mpr ⟨lH_g101, (List.forall_mem_cons.mpr ⟨lH_g205, (List.forall_mem_cons.mpr ⟨sLI1, (List.forall_mem_cons.mpr ⟨sIALD, (List.forall_mem_cons.mpr ⟨sRI, (fun _ h => absurd h List.not_mem_nil)⟩)⟩)⟩)⟩)⟩)⟩)⟩)⟩
theorem kH_village_94 : Bok "HerbWaters" prog_1_method_8_code (94, bH_village_94, 107) := ⟨by decide +kernel, (List.forall_mem_cons.mpr ⟨sLA0, (List.forall_mem_cons.mpr ⟨lH_g19, (List.forall_mem_cons.mpr ⟨lH_g101, (List.forall_mem_cons.mpr ⟨lH_g208, (List.forall_mem_cons.mpr ⟨sLI1, (List.forall_mem_cons.mpr ⟨sIALD, (List.forall_mem_cons.mpr ⟨sRI, (fun _ h => absurd h List.not_mem_nil)⟩)⟩)⟩)⟩)⟩)⟩)⟩)⟩
theorem kH_village_107 : Bok "HerbWaters" prog_1_method_8_code (107, bH_village_107, 120) := ⟨by decide +kernel, (List.forall_mem_cons.mpr ⟨sLA0, (List.forall_mem_cons.mpr ⟨lH_g19, (List.forall_mem_cons.mpr ⟨lH_g101, (List.forall_mem_cons.mpr ⟨lH_g211, (List.forall_mem_cons.mpr ⟨sLI1, (List.forall_mem_cons.mpr ⟨sIALD, (List.forall_mem_cons.mpr ⟨sRI, (fun _ h => absurd h List.not_mem_nil)⟩)⟩)⟩)⟩)⟩)⟩)⟩)⟩
theorem kH_village_120 : Bok "HerbWaters" prog_1_method_8_code (120, bH_village_120, 132) := ⟨by decide +kernel, (List.forall_mem_cons.mpr ⟨sLA0, (List.forall_mem_cons.mpr ⟨lH_g19, (List.forall_mem_cons.mpr ⟨lH_g101, (List.forall_mem_cons.mpr ⟨sLI1, (List.forall_mem_cons.mpr ⟨lH_v214, (List.forall_mem_cons.mpr ⟨sRI, (fun _ h => absurd h List.not_mem_nil)⟩)⟩)⟩)⟩)⟩)⟩)⟩
theorem kH_village_132 : Bok "HerbWaters" prog_1_method_8_code (132, bH_village_132, 142) := ⟨by decide +kernel, (List.forall_mem_cons.mpr ⟨sLA0, (List.forall_mem_cons.mpr ⟨lH_g42, (List.forall_mem_cons.mpr ⟨lH_g217, (List.forall_mem_cons.mpr ⟨sLI1, (List.forall_mem_cons.mpr ⟨sIALD, (List.forall_mem_cons.mpr ⟨sRI, (fun _ h => absurd h List.not_mem_nil)⟩)⟩)⟩)⟩)⟩)⟩)⟩
theorem kH_village : ∀ q ∈ tH_village, Bok "HerbWaters" prog_1_method_8_code q := (List.forall_mem_cons.mpr ⟨kH_village_0, (List.forall_mem_cons.mpr ⟨kH_village_60, (List.forall_mem_cons.mpr ⟨kH_village_69, (List.forall_mem_cons.mpr ⟨kH_village_81, (List.forall_mem_cons.mpr ⟨kH_village_94, (List.forall_mem_cons.mpr ⟨kH_village_107, (List.forall_mem_cons.mpr ⟨kH_village_120, (List.forall_mem_cons.mpr ⟨kH_village_132, (fun _ h => absurd h List.not_mem_nil)⟩)⟩)⟩)⟩)⟩)⟩)⟩)⟩)
theorem rH_village : mH_village.2.2.2 = some .int := rfl
def mH_led : Mt := (⟨"HerbWaters", "led", "(III)I"⟩, prog_1_method_9_code, 4, some .int)
theorem ok_H_led : Mok mH_led := ⟨gtb_mem 1426 (by decide +kernel) rfl, gtb_mem 93 (by decide +kernel) rfl, by decide +kernel, by decide⟩
theorem lH_g220 : Snd "HerbWaters" (iGR 220 2 0) := sGRN _ rfl "HerbWaters" (List.mem_filter.mpr ⟨List.mem_of_getElem? (i := 313) (by decide +kernel), rfl⟩)
theorem lH_v223 : Snd "HerbWaters" (iCV3 223 2 mDy_cell) := sCV3 _ rfl rfl ok_Dy_cell (gtb_mem 559 (by decide +kernel) rfl) (gtb_mem 560 (by decide +kernel) rfl) (gtb_mem 1427 (by decide +kernel) rfl)
def bH_led_0 : List Ir := [iLA0, iLI1, (iCV1 150 10 mH_needVillage), iLA0, iLI3, (iCV1 150 10 mH_needVillage), iLA0, iLI2, iC0, iC2, (iCV3 118 10 mH_needIn), iLA0, (iGR 42 10 4), (iGR 220 2 0), iLA0, (iGR 42 10 4), iLI1, iLI2, iLI3, (iCV3 223 2 mDy_cell), iIALD, iRI]
def tH_led : Tb := [(0, bH_led_0, 36)]
theorem fH_led_0 : tbf tH_led 0 = some (bH_led_0, 36) := rfl
theorem kH_led_0 : Bok "HerbWaters" prog_1_method_9_code (0, bH_led_0, 36) := ⟨by decide +kernel, (List.forall_mem_cons.mpr ⟨sLA0, (List.forall_mem_cons.mpr ⟨sLI1, (List.forall_mem_cons.mpr ⟨lH_v150, (List.forall_mem_cons.mpr ⟨sLA0, (List.forall_mem_cons.mpr ⟨sLI3, (List.forall_mem_cons.mpr ⟨lH_v150, (List.forall_mem_cons.mpr ⟨sLA0, (List.forall_mem_cons.mpr ⟨sLI2, (List.forall_mem_cons.mpr ⟨sC0, (List.forall_mem_cons.mpr ⟨sC2, (List.forall_mem_cons.mpr ⟨lH_v118, (List.forall_mem_cons.mpr ⟨sLA0, (List.forall_mem_cons.mpr ⟨lH_g42, (List.forall_mem_cons.mpr ⟨lH_g220, (List.forall_mem_cons.mpr ⟨sLA0, (List.forall_mem_cons.mpr ⟨lH_g42, (List.forall_mem_cons.mpr ⟨sLI1, (List.forall_mem_cons.mpr ⟨sLI2, (List.forall_mem_cons.mpr ⟨sLI3, (List.forall_mem_cons.mpr ⟨lH_v223, (List.forall_mem_cons.mpr ⟨sIALD, (List.forall_mem_cons.mpr ⟨sRI, (fun _ h => absurd h List.not_mem_nil)⟩)⟩)⟩)⟩)⟩)⟩)⟩)⟩)⟩)⟩)⟩)⟩)⟩)⟩)⟩)⟩)⟩)⟩)⟩)⟩)⟩)⟩)⟩
theorem kH_led : ∀ q ∈ tH_led, Bok "HerbWaters" prog_1_method_9_code q := (List.forall_mem_cons.mpr ⟨kH_led_0, (fun _ h => absurd h List.not_mem_nil)⟩)
theorem rH_led : mH_led.2.2.2 = some .int := rfl
def mH_days : Mt := (⟨"HerbWaters", "days", "(I)I"⟩, prog_1_method_10_code, 3, some .int)
theorem ok_H_days : Mok mH_days := ⟨gtb_mem 1434 (by decide +kernel) rfl, gtb_mem 93 (by decide +kernel) rfl, by decide +kernel, by decide⟩
theorem lH_v227 : Snd "HerbWaters" (iCV1 227 0 mAq_goDay) := sCV1 _ rfl rfl ok_Aq_goDay (gtb_mem 668 (by decide +kernel) rfl) (gtb_mem 669 (by decide +kernel) rfl) (gtb_mem 1435 (by decide +kernel) rfl)
theorem lH_v230 : Snd "HerbWaters" (iCV1 230 3 mDi_note) := sCV1 _ rfl rfl ok_Di_note (gtb_mem 567 (by decide +kernel) rfl) (gtb_mem 568 (by decide +kernel) rfl) (gtb_mem 1436 (by decide +kernel) rfl)
def bH_days_0 : List Ir := [iLA0, iLI1, iC1, (iBP 99), (iCV3 118 10 mH_needIn), iC0, iSI2]
def bH_days_10 : List Ir := [iLI2, iLI1, (iICge (44) 56)]
def bH_days_15 : List Ir := [iLA0, (iGR 42 10 4), (iGI 189 2 9), (iSP 999), (iICge (31) 56)]
def bH_days_28 : List Ir := [iLA0, (iGR 19 10 1), iLA0, (iGR 42 10 4), (iCV1 227 0 mAq_goDay), iLA0, (iGR 49 10 5), iLA0, (iGR 42 10 4), (iCV1 230 3 mDi_note), (iINC2 1), (iGO (-43) 10)]
def bH_days_56 : List Ir := [iLA0, (iGR 42 10 4), (iGI 189 2 9), iRI]
def tH_days : Tb := [(0, bH_days_0, 10), (10, bH_days_10, 15), (15, bH_days_15, 28), (28, bH_days_28, 56), (56, bH_days_56, 64)]
theorem fH_days_0 : tbf tH_days 0 = some (bH_days_0, 10) := rfl
theorem fH_days_10 : tbf tH_days 10 = some (bH_days_10, 15) := rfl
theorem fH_days_15 : tbf tH_days 15 = some (bH_days_15, 28) := rfl
theorem fH_days_28 : tbf tH_days 28 = some (bH_days_28, 56) := rfl
theorem fH_days_56 : tbf tH_days 56 = some (bH_days_56, 64) := rfl
theorem kH_days_0 : Bok "HerbWaters" prog_1_method_10_code (0, bH_days_0, 10) := ⟨by decide +kernel, (List.forall_mem_cons.mpr ⟨sLA0, (List.forall_mem_cons.mpr ⟨sLI1, (List.forall_mem_cons.mpr ⟨sC1, (List.forall_mem_cons.mpr ⟨sBP, (List.forall_mem_cons.mpr ⟨lH_v118, (List.forall_mem_cons.mpr ⟨sC0, (List.forall_mem_cons.mpr ⟨sSI2, (fun _ h => absurd h List.not_mem_nil)⟩)⟩)⟩)⟩)⟩)⟩)⟩)⟩
theorem kH_days_10 : Bok "HerbWaters" prog_1_method_10_code (10, bH_days_10, 15) := ⟨by decide +kernel, (List.forall_mem_cons.mpr ⟨sLI2, (List.forall_mem_cons.mpr ⟨sLI1, (List.forall_mem_cons.mpr ⟨sICge, (fun _ h => absurd h List.not_mem_nil)⟩)⟩)⟩)⟩
theorem kH_days_15 : Bok "HerbWaters" prog_1_method_10_code (15, bH_days_15, 28) := ⟨by decide +kernel, (List.forall_mem_cons.mpr ⟨sLA0, (List.forall_mem_cons.mpr ⟨lH_g42, (List.forall_mem_cons.mpr ⟨lH_g189, (List.forall_mem_cons.mpr ⟨sSP, (List.forall_mem_cons.mpr ⟨sICge, (fun _ h => absurd h List.not_mem_nil)⟩)⟩)⟩)⟩)⟩)⟩
theorem kH_days_28 : Bok "HerbWaters" prog_1_method_10_code (28, bH_days_28, 56) := ⟨by decide +kernel, (List.forall_mem_cons.mpr ⟨sLA0, (List.forall_mem_cons.mpr ⟨lH_g19, (List.forall_mem_cons.mpr ⟨sLA0, (List.forall_mem_cons.mpr ⟨lH_g42, (List.forall_mem_cons.mpr ⟨lH_v227, (List.forall_mem_cons.mpr ⟨sLA0, (List.forall_mem_cons.mpr ⟨lH_g49, (List.forall_mem_cons.mpr ⟨sLA0, (List.forall_mem_cons.mpr ⟨lH_g42, (List.forall_mem_cons.mpr ⟨lH_v230, (List.forall_mem_cons.mpr ⟨sINC2, (List.forall_mem_cons.mpr ⟨sGO, (fun _ h => absurd h List.not_mem_nil)⟩)⟩)⟩)⟩)⟩)⟩)⟩)⟩)⟩)⟩)⟩)⟩)⟩
theorem kH_days_56 : Bok "HerbWaters" prog_1_method_10_code (56, bH_days_56, 64) := ⟨by decide +kernel, (List.forall_mem_cons.mpr ⟨sLA0, (List.forall_mem_cons.mpr ⟨lH_g42, (List.forall_mem_cons.mpr ⟨lH_g189, (List.forall_mem_cons.mpr ⟨sRI, (fun _ h => absurd h List.not_mem_nil)⟩)⟩)⟩)⟩)⟩
theorem kH_days : ∀ q ∈ tH_days, Bok "HerbWaters" prog_1_method_10_code q := (List.forall_mem_cons.mpr ⟨kH_days_0, (List.forall_mem_cons.mpr ⟨kH_days_10, (List.forall_mem_cons.mpr ⟨kH_days_15, (List.forall_mem_cons.mpr ⟨kH_days_28, (List.forall_mem_cons.mpr ⟨kH_days_56, (fun _ h => absurd h List.not_mem_nil)⟩)⟩)⟩)⟩)⟩)
theorem rH_days : mH_days.2.2.2 = some .int := rfl
def mH_undo : Mt := (⟨"HerbWaters", "undo", "(I)I"⟩, prog_1_method_11_code, 5, some .int)
theorem ok_H_undo : Mok mH_undo := ⟨gtb_mem 1443 (by decide +kernel) rfl, gtb_mem 93 (by decide +kernel) rfl, by decide +kernel, by decide⟩
theorem lH_g233 : Snd "HerbWaters" (iGI 233 3 1) := sGIN _ rfl "HerbWaters" (List.mem_filter.mpr ⟨List.mem_of_getElem? (i := 504) (by decide +kernel), rfl⟩)
theorem lH_v236 : Snd "HerbWaters" (iCV2 236 3 mDi_goBack) := sCV2 _ rfl rfl ok_Di_goBack (gtb_mem 1445 (by decide +kernel) rfl) (gtb_mem 1446 (by decide +kernel) rfl) (gtb_mem 1444 (by decide +kernel) rfl)
def bH_undo_0 : List Ir := [iLA0, iLI1, iC1, (iBP 99), (iCV3 118 10 mH_needIn), iLI1, iLA0, (iGR 42 10 4), (iGI 189 2 9), iLA0, (iGR 49 10 5), (iGI 233 3 1), iSUB, (iMIN 153), iSI2, iLI2, (iIFle (57) 86)]
def bH_undo_32 : List Ir := [iLA0, (iGR 42 10 4), (iGI 189 2 9), iLI2, iSUB, iSI3, iLA0, (iGR 49 10 5), iLA0, (iGR 42 10 4), iLI3, (iCV2 236 3 mDi_goBack), iLA0, (iGR 42 10 4), (iGI 189 2 9), iSI4]
def bH_undo_63 : List Ir := [iLI4, iLI3, (iICge (20) 86)]
def bH_undo_69 : List Ir := [iLA0, (iGR 19 10 1), iLA0, (iGR 42 10 4), (iCV1 227 0 mAq_goDay), (iINC4 1), (iGO (-20) 63)]
def bH_undo_86 : List Ir := [iLI2, iRI]
def tH_undo : Tb := [(0, bH_undo_0, 32), (32, bH_undo_32, 63), (63, bH_undo_63, 69), (69, bH_undo_69, 86), (86, bH_undo_86, 88)]
theorem fH_undo_0 : tbf tH_undo 0 = some (bH_undo_0, 32) := rfl
theorem fH_undo_32 : tbf tH_undo 32 = some (bH_undo_32, 63) := rfl
theorem fH_undo_63 : tbf tH_undo 63 = some (bH_undo_63, 69) := rfl
theorem fH_undo_69 : tbf tH_undo 69 = some (bH_undo_69, 86) := rfl
theorem fH_undo_86 : tbf tH_undo 86 = some (bH_undo_86, 88) := rfl
theorem kH_undo_0 : Bok "HerbWaters" prog_1_method_11_code (0, bH_undo_0, 32) := ⟨by decide +kernel, (List.forall_mem_cons.mpr ⟨sLA0, (List.forall_mem_cons.mpr ⟨sLI1, (List.forall_mem_cons.mpr ⟨sC1, (List.forall_mem_cons.mpr ⟨sBP, (List.forall_mem_cons.mpr ⟨lH_v118, (List.forall_mem_cons.mpr ⟨sLI1, (List.forall_mem_cons.mpr ⟨sLA0, (List.forall_mem_cons.mpr ⟨lH_g42, (List.forall_mem_cons.mpr ⟨lH_g189, (List.forall_mem_cons.mpr ⟨sLA0, (List.forall_mem_cons.mpr ⟨lH_g49, (List.forall_mem_cons.mpr ⟨lH_g233, (List.forall_mem_cons.mpr ⟨sSUB, (List.forall_mem_cons.mpr ⟨lH_s153, (List.forall_mem_cons.mpr ⟨sSI2, (List.forall_mem_cons.mpr ⟨sLI2, (List.forall_mem_cons.mpr ⟨sIFle, (fun _ h => absurd h List.not_mem_nil)⟩)⟩)⟩)⟩)⟩)⟩)⟩)⟩)⟩)⟩)⟩)⟩)⟩)⟩)⟩)⟩)⟩)⟩
theorem kH_undo_32 : Bok "HerbWaters" prog_1_method_11_code (32, bH_undo_32, 63) := ⟨by decide +kernel, (List.forall_mem_cons.mpr ⟨sLA0, (List.forall_mem_cons.mpr ⟨lH_g42, (List.forall_mem_cons.mpr ⟨lH_g189, (List.forall_mem_cons.mpr ⟨sLI2, (List.forall_mem_cons.mpr ⟨sSUB, (List.forall_mem_cons.mpr ⟨sSI3, (List.forall_mem_cons.mpr ⟨sLA0, (List.forall_mem_cons.mpr ⟨lH_g49, (List.forall_mem_cons.mpr ⟨sLA0, (List.forall_mem_cons.mpr ⟨lH_g42, (List.forall_mem_cons.mpr ⟨sLI3, (List.forall_mem_cons.mpr ⟨lH_v236, (List.forall_mem_cons.mpr ⟨sLA0, (List.forall_mem_cons.mpr ⟨lH_g42, (List.forall_mem_cons.mpr ⟨lH_g189, (List.forall_mem_cons.mpr ⟨sSI4, (fun _ h => absurd h List.not_mem_nil)⟩)⟩)⟩)⟩)⟩)⟩)⟩)⟩)⟩)⟩)⟩)⟩)⟩)⟩)⟩)⟩)⟩
theorem kH_undo_63 : Bok "HerbWaters" prog_1_method_11_code (63, bH_undo_63, 69) := ⟨by decide +kernel, (List.forall_mem_cons.mpr ⟨sLI4, (List.forall_mem_cons.mpr ⟨sLI3, (List.forall_mem_cons.mpr ⟨sICge, (fun _ h => absurd h List.not_mem_nil)⟩)⟩)⟩)⟩
theorem kH_undo_69 : Bok "HerbWaters" prog_1_method_11_code (69, bH_undo_69, 86) := ⟨by decide +kernel, (List.forall_mem_cons.mpr ⟨sLA0, (List.forall_mem_cons.mpr ⟨lH_g19, (List.forall_mem_cons.mpr ⟨sLA0, (List.forall_mem_cons.mpr ⟨lH_g42, (List.forall_mem_cons.mpr ⟨lH_v227, (List.forall_mem_cons.mpr ⟨sINC4, (List.forall_mem_cons.mpr ⟨sGO, (fun _ h => absurd h List.not_mem_nil)⟩)⟩)⟩)⟩)⟩)⟩)⟩)⟩
theorem kH_undo_86 : Bok "HerbWaters" prog_1_method_11_code (86, bH_undo_86, 88) := ⟨by decide +kernel, (List.forall_mem_cons.mpr ⟨sLI2, (List.forall_mem_cons.mpr ⟨sRI, (fun _ h => absurd h List.not_mem_nil)⟩)⟩)⟩
theorem kH_undo : ∀ q ∈ tH_undo, Bok "HerbWaters" prog_1_method_11_code q := (List.forall_mem_cons.mpr ⟨kH_undo_0, (List.forall_mem_cons.mpr ⟨kH_undo_32, (List.forall_mem_cons.mpr ⟨kH_undo_63, (List.forall_mem_cons.mpr ⟨kH_undo_69, (List.forall_mem_cons.mpr ⟨kH_undo_86, (fun _ h => absurd h List.not_mem_nil)⟩)⟩)⟩)⟩)⟩)
theorem rH_undo : mH_undo.2.2.2 = some .int := rfl
def mH_tap : Mt := (⟨"HerbWaters", "tap", "(I)I"⟩, prog_1_method_12_code, 2, some .int)
theorem ok_H_tap : Mok mH_tap := ⟨gtb_mem 1454 (by decide +kernel) rfl, gtb_mem 93 (by decide +kernel) rfl, by decide +kernel, by decide⟩
theorem lH_v240 : Snd "HerbWaters" (iCV0 240 2 mDy_seen) := sCV0 _ rfl rfl ok_Dy_seen (gtb_mem 1072 (by decide +kernel) rfl) (gtb_mem 1073 (by decide +kernel) rfl) (gtb_mem 1455 (by decide +kernel) rfl)
theorem lH_g244 : Snd "HerbWaters" (iGR 244 2 6) := sGRN _ rfl "HerbWaters" (List.mem_filter.mpr ⟨List.mem_of_getElem? (i := 334) (by decide +kernel), rfl⟩)
def bH_tap_0 : List Ir := [iLA0, iLI1, iC0, iC4, (iCV3 118 10 mH_needIn), iLI1, iC4, (iICne (13) 22)]
def bH_tap_12 : List Ir := [iLA0, (iGR 42 10 4), (iCV0 240 2 mDy_seen), (iGO (12) 31)]
def bH_tap_22 : List Ir := [iLA0, (iGR 42 10 4), (iGR 244 2 6), iLI1, iIALD]
def bH_tap_31 : List Ir := [iRI]
def tH_tap : Tb := [(0, bH_tap_0, 12), (12, bH_tap_12, 22), (22, bH_tap_22, 31), (31, bH_tap_31, 32)]
theorem fH_tap_0 : tbf tH_tap 0 = some (bH_tap_0, 12) := rfl
theorem fH_tap_12 : tbf tH_tap 12 = some (bH_tap_12, 22) := rfl
theorem fH_tap_22 : tbf tH_tap 22 = some (bH_tap_22, 31) := rfl
theorem fH_tap_31 : tbf tH_tap 31 = some (bH_tap_31, 32) := rfl
theorem kH_tap_0 : Bok "HerbWaters" prog_1_method_12_code (0, bH_tap_0, 12) := ⟨by decide +kernel, (List.forall_mem_cons.mpr ⟨sLA0, (List.forall_mem_cons.mpr ⟨sLI1, (List.forall_mem_cons.mpr ⟨sC0, (List.forall_mem_cons.mpr ⟨sC4, (List.forall_mem_cons.mpr ⟨lH_v118, (List.forall_mem_cons.mpr ⟨sLI1, (List.forall_mem_cons.mpr ⟨sC4, (List.forall_mem_cons.mpr ⟨sICne, (fun _ h => absurd h List.not_mem_nil)⟩)⟩)⟩)⟩)⟩)⟩)⟩)⟩)⟩
theorem kH_tap_12 : Bok "HerbWaters" prog_1_method_12_code (12, bH_tap_12, 22) := ⟨by decide +kernel, (List.forall_mem_cons.mpr ⟨sLA0, (List.forall_mem_cons.mpr ⟨lH_g42, (List.forall_mem_cons.mpr ⟨lH_v240, (List.forall_mem_cons.mpr ⟨sGO, (fun _ h => absurd h List.not_mem_nil)⟩)⟩)⟩)⟩)⟩
theorem kH_tap_22 : Bok "HerbWaters" prog_1_method_12_code (22, bH_tap_22, 31) := ⟨by decide +kernel, (List.forall_mem_cons.mpr ⟨sLA0, (List.forall_mem_cons.mpr ⟨lH_g42, (List.forall_mem_cons.mpr ⟨lH_g244, (List.forall_mem_cons.mpr ⟨sLI1, (List.forall_mem_cons.mpr ⟨sIALD, (fun _ h => absurd h List.not_mem_nil)⟩)⟩)⟩)⟩)⟩)⟩
theorem kH_tap_31 : Bok "HerbWaters" prog_1_method_12_code (31, bH_tap_31, 32) := ⟨by decide +kernel, (List.forall_mem_cons.mpr ⟨sRI, (fun _ h => absurd h List.not_mem_nil)⟩)⟩
theorem kH_tap : ∀ q ∈ tH_tap, Bok "HerbWaters" prog_1_method_12_code q := (List.forall_mem_cons.mpr ⟨kH_tap_0, (List.forall_mem_cons.mpr ⟨kH_tap_12, (List.forall_mem_cons.mpr ⟨kH_tap_22, (List.forall_mem_cons.mpr ⟨kH_tap_31, (fun _ h => absurd h List.not_mem_nil)⟩)⟩)⟩)⟩)
theorem rH_tap : mH_tap.2.2.2 = some .int := rfl
def mH_sums : Mt := (⟨"HerbWaters", "sums", "(I)I"⟩, prog_1_method_13_code, 2, some .int)
theorem ok_H_sums : Mok mH_sums := ⟨gtb_mem 1462 (by decide +kernel) rfl, gtb_mem 93 (by decide +kernel) rfl, by decide +kernel, by decide⟩
theorem lH_g247 : Snd "HerbWaters" (iGR 247 2 3) := sGRN _ rfl "HerbWaters" (List.mem_filter.mpr ⟨List.mem_of_getElem? (i := 322) (by decide +kernel), rfl⟩)
theorem lH_v250 : Snd "HerbWaters" (iCV1 250 2 mDy_sumOf) := sCV1 _ rfl rfl ok_Dy_sumOf (gtb_mem 1464 (by decide +kernel) rfl) (gtb_mem 1465 (by decide +kernel) rfl) (gtb_mem 1463 (by decide +kernel) rfl)
theorem lH_g254 : Snd "HerbWaters" (iGR 254 2 4) := sGRN _ rfl "HerbWaters" (List.mem_filter.mpr ⟨List.mem_of_getElem? (i := 326) (by decide +kernel), rfl⟩)
theorem lH_g257 : Snd "HerbWaters" (iGI 257 2 12) := sGIN _ rfl "HerbWaters" (List.mem_filter.mpr ⟨List.mem_of_getElem? (i := 356) (by decide +kernel), rfl⟩)
theorem lH_g260 : Snd "HerbWaters" (iGI 260 2 13) := sGIN _ rfl "HerbWaters" (List.mem_filter.mpr ⟨List.mem_of_getElem? (i := 358) (by decide +kernel), rfl⟩)
theorem lH_v263 : Snd "HerbWaters" (iCV0 263 2 mDy_herbsInBasins) := sCV0 _ rfl rfl ok_Dy_herbsInBasins (gtb_mem 1468 (by decide +kernel) rfl) (gtb_mem 1469 (by decide +kernel) rfl) (gtb_mem 1467 (by decide +kernel) rfl)
def bH_sums_0 : List Ir := [iLA0, iLI1, iC0, iC4, (iCV3 118 10 mH_needIn), iLI1, (iSW 0 (78) #[(32), (47), (62), (70)] 32 [40, 55, 70, 78] 86)]
def bH_sums_40 : List Ir := [iLA0, (iGR 42 10 4), iLA0, (iGR 42 10 4), (iGR 247 2 3), (iCV1 250 2 mDy_sumOf), iRI]
def bH_sums_55 : List Ir := [iLA0, (iGR 42 10 4), iLA0, (iGR 42 10 4), (iGR 254 2 4), (iCV1 250 2 mDy_sumOf), iRI]
def bH_sums_70 : List Ir := [iLA0, (iGR 42 10 4), (iGI 257 2 12), iRI]
def bH_sums_78 : List Ir := [iLA0, (iGR 42 10 4), (iGI 260 2 13), iRI]
def bH_sums_86 : List Ir := [iLA0, (iGR 42 10 4), (iCV0 263 2 mDy_herbsInBasins), iRI]
def tH_sums : Tb := [(0, bH_sums_0, 40), (40, bH_sums_40, 55), (55, bH_sums_55, 70), (70, bH_sums_70, 78), (78, bH_sums_78, 86), (86, bH_sums_86, 94)]
theorem fH_sums_0 : tbf tH_sums 0 = some (bH_sums_0, 40) := rfl
theorem fH_sums_40 : tbf tH_sums 40 = some (bH_sums_40, 55) := rfl
theorem fH_sums_55 : tbf tH_sums 55 = some (bH_sums_55, 70) := rfl
theorem fH_sums_70 : tbf tH_sums 70 = some (bH_sums_70, 78) := rfl
theorem fH_sums_78 : tbf tH_sums 78 = some (bH_sums_78, 86) := rfl
theorem fH_sums_86 : tbf tH_sums 86 = some (bH_sums_86, 94) := rfl
theorem kH_sums_0 : Bok "HerbWaters" prog_1_method_13_code (0, bH_sums_0, 40) := ⟨by decide +kernel, (List.forall_mem_cons.mpr ⟨sLA0, (List.forall_mem_cons.mpr ⟨sLI1, (List.forall_mem_cons.mpr ⟨sC0, (List.forall_mem_cons.mpr ⟨sC4, (List.forall_mem_cons.mpr ⟨lH_v118, (List.forall_mem_cons.mpr ⟨sLI1, (List.forall_mem_cons.mpr ⟨sSW, (fun _ h => absurd h List.not_mem_nil)⟩)⟩)⟩)⟩)⟩)⟩)⟩)⟩
theorem kH_sums_40 : Bok "HerbWaters" prog_1_method_13_code (40, bH_sums_40, 55) := ⟨by decide +kernel, (List.forall_mem_cons.mpr ⟨sLA0, (List.forall_mem_cons.mpr ⟨lH_g42, (List.forall_mem_cons.mpr ⟨sLA0, (List.forall_mem_cons.mpr ⟨lH_g42, (List.forall_mem_cons.mpr ⟨lH_g247, (List.forall_mem_cons.mpr ⟨lH_v250, (List.forall_mem_cons.mpr ⟨sRI, (fun _ h => absurd h List.not_mem_nil)⟩)⟩)⟩)⟩)⟩)⟩)⟩)⟩
theorem kH_sums_55 : Bok "HerbWaters" prog_1_method_13_code (55, bH_sums_55, 70) := ⟨by decide +kernel, (List.forall_mem_cons.mpr ⟨sLA0, (List.forall_mem_cons.mpr ⟨lH_g42, (List.forall_mem_cons.mpr ⟨sLA0, (List.forall_mem_cons.mpr ⟨lH_g42, (List.forall_mem_cons.mpr ⟨lH_g254, (List.forall_mem_cons.mpr ⟨lH_v250, (List.forall_mem_cons.mpr ⟨sRI, (fun _ h => absurd h List.not_mem_nil)⟩)⟩)⟩)⟩)⟩)⟩)⟩)⟩
theorem kH_sums_70 : Bok "HerbWaters" prog_1_method_13_code (70, bH_sums_70, 78) := ⟨by decide +kernel, (List.forall_mem_cons.mpr ⟨sLA0, (List.forall_mem_cons.mpr ⟨lH_g42, (List.forall_mem_cons.mpr ⟨lH_g257, (List.forall_mem_cons.mpr ⟨sRI, (fun _ h => absurd h List.not_mem_nil)⟩)⟩)⟩)⟩)⟩
theorem kH_sums_78 : Bok "HerbWaters" prog_1_method_13_code (78, bH_sums_78, 86) := ⟨by decide +kernel, (List.forall_mem_cons.mpr ⟨sLA0, (List.forall_mem_cons.mpr ⟨lH_g42, (List.forall_mem_cons.mpr ⟨lH_g260, (List.forall_mem_cons.mpr ⟨sRI, (fun _ h => absurd h List.not_mem_nil)⟩)⟩)⟩)⟩)⟩
theorem kH_sums_86 : Bok "HerbWaters" prog_1_method_13_code (86, bH_sums_86, 94) := ⟨by decide +kernel, (List.forall_mem_cons.mpr ⟨sLA0, (List.forall_mem_cons.mpr ⟨lH_g42, (List.forall_mem_cons.mpr ⟨lH_v263, (List.forall_mem_cons.mpr ⟨sRI, (fun _ h => absurd h List.not_mem_nil)⟩)⟩)⟩)⟩)⟩
theorem kH_sums : ∀ q ∈ tH_sums, Bok "HerbWaters" prog_1_method_13_code q := (List.forall_mem_cons.mpr ⟨kH_sums_0, (List.forall_mem_cons.mpr ⟨kH_sums_40, (List.forall_mem_cons.mpr ⟨kH_sums_55, (List.forall_mem_cons.mpr ⟨kH_sums_70, (List.forall_mem_cons.mpr ⟨kH_sums_78, (List.forall_mem_cons.mpr ⟨kH_sums_86, (fun _ h => absurd h List.not_mem_nil)⟩)⟩)⟩)⟩)⟩)⟩)
theorem rH_sums : mH_sums.2.2.2 = some .int := rfl
def mH_put : Mt := (⟨"HerbWaters", "put", "(II)I"⟩, prog_1_method_14_code, 3, some .int)
theorem ok_H_put : Mok mH_put := ⟨gtb_mem 1481 (by decide +kernel) rfl, gtb_mem 93 (by decide +kernel) rfl, by decide +kernel, by decide⟩
def bH_put_0 : List Ir := [iLA0, iLI1, (iCV1 150 10 mH_needVillage), iLA0, iLI2, iC0, iC5, (iCV3 118 10 mH_needIn), iLI2, iC3, (iICge (17) 31)]
def bH_put_17 : List Ir := [iLA0, (iGR 42 10 4), (iGR 247 2 3), iLI1, iC3, iMUL, iLI2, iADD, iIALD, iRI]
def bH_put_31 : List Ir := [iLA0, (iGR 42 10 4), (iGR 254 2 4), iLI1, iC3, iMUL, iLI2, iADD, iC3, iSUB, iIALD, iRI]
def tH_put : Tb := [(0, bH_put_0, 17), (17, bH_put_17, 31), (31, bH_put_31, 47)]
theorem fH_put_0 : tbf tH_put 0 = some (bH_put_0, 17) := rfl
theorem fH_put_17 : tbf tH_put 17 = some (bH_put_17, 31) := rfl
theorem fH_put_31 : tbf tH_put 31 = some (bH_put_31, 47) := rfl
theorem kH_put_0 : Bok "HerbWaters" prog_1_method_14_code (0, bH_put_0, 17) := ⟨by decide +kernel, (List.forall_mem_cons.mpr ⟨sLA0, (List.forall_mem_cons.mpr ⟨sLI1, (List.forall_mem_cons.mpr ⟨lH_v150, (List.forall_mem_cons.mpr ⟨sLA0, (List.forall_mem_cons.mpr ⟨sLI2, (List.forall_mem_cons.mpr ⟨sC0, (List.forall_mem_cons.mpr ⟨sC5, (List.forall_mem_cons.mpr ⟨lH_v118, (List.forall_mem_cons.mpr ⟨sLI2, (List.forall_mem_cons.mpr ⟨sC3, (List.forall_mem_cons.mpr ⟨sICge, (fun _ h => absurd h List.not_mem_nil)⟩)⟩)⟩)⟩)⟩)⟩)⟩)⟩)⟩)⟩)⟩)⟩
theorem kH_put_17 : Bok "HerbWaters" prog_1_method_14_code (17, bH_put_17, 31) := ⟨by decide +kernel, (List.forall_mem_cons.mpr ⟨sLA0, (List.forall_mem_cons.mpr ⟨lH_g42, (List.forall_mem_cons.mpr ⟨lH_g247, (List.forall_mem_cons.mpr ⟨sLI1, (List.forall_mem_cons.mpr ⟨sC3, (List.forall_mem_cons.mpr ⟨sMUL, (List.forall_mem_cons.mpr ⟨sLI2, (List.forall_mem_cons.mpr ⟨sADD, (List.forall_mem_cons.mpr ⟨sIALD, (List.forall_mem_cons.mpr ⟨sRI, (fun _ h => absurd h List.not_mem_nil)⟩)⟩)⟩)⟩)⟩)⟩)⟩)⟩)⟩)⟩)⟩
theorem kH_put_31 : Bok "HerbWaters" prog_1_method_14_code (31, bH_put_31, 47) := ⟨by decide +kernel, (List.forall_mem_cons.mpr ⟨sLA0, (List.forall_mem_cons.mpr ⟨lH_g42, (List.forall_mem_cons.mpr ⟨lH_g254, (List.forall_mem_cons.mpr ⟨sLI1, (List.forall_mem_cons.mpr ⟨sC3, (List.forall_mem_cons.mpr ⟨sMUL, (List.forall_mem_cons.mpr ⟨sLI2, (List.forall_mem_cons.mpr ⟨sADD, (List.forall_mem_cons.mpr ⟨sC3, (List.forall_mem_cons.mpr ⟨sSUB, (List.forall_mem_cons.mpr ⟨sIALD, (List.forall_mem_cons.mpr ⟨sRI, (fun _ h => absurd h List.not_mem_nil)⟩)⟩)⟩)⟩)⟩)⟩)⟩)⟩)⟩)⟩)⟩)⟩)⟩
theorem kH_put : ∀ q ∈ tH_put, Bok "HerbWaters" prog_1_method_14_code q := (List.forall_mem_cons.mpr ⟨kH_put_0, (List.forall_mem_cons.mpr ⟨kH_put_17, (List.forall_mem_cons.mpr ⟨kH_put_31, (fun _ h => absurd h List.not_mem_nil)⟩)⟩)⟩)
theorem rH_put : mH_put.2.2.2 = some .int := rfl
def mH_thinks : Mt := (⟨"HerbWaters", "thinks", "(IIIIIII)I"⟩, prog_1_method_15_code, 8, some .int)
theorem ok_H_thinks : Mok mH_thinks := ⟨gtb_mem 1488 (by decide +kernel) rfl, gtb_mem 93 (by decide +kernel) rfl, by decide +kernel, by decide⟩
theorem lH_v266 : Snd "HerbWaters" (iCV4 266 0 mAq_lookInto) := sCV4 _ rfl rfl ok_Aq_lookInto (gtb_mem 1024 (by decide +kernel) rfl) (gtb_mem 1025 (by decide +kernel) rfl) (gtb_mem 1489 (by decide +kernel) rfl)
theorem lH_g57 : Snd "HerbWaters" (iGR 57 10 7) := sGR _ rfl (gtb_mem 585 (by decide +kernel) rfl)
theorem lH_v270 : Snd "HerbWaters" (iCV4 270 0 mAq_thinkOf) := sCV4 _ rfl rfl ok_Aq_thinkOf (gtb_mem 1491 (by decide +kernel) rfl) (gtb_mem 1492 (by decide +kernel) rfl) (gtb_mem 1490 (by decide +kernel) rfl)
def bH_thinks_0 : List Ir := [iLA0, iLI1, (iCV1 150 10 mH_needVillage), iLA0, iLI2, iC0, iC2, (iCV3 118 10 mH_needIn), iLA0, iLI3, iC0, (iSP 9999), (iCV3 118 10 mH_needIn), iLA0, iLI4, iC0, (iSP 9999), (iCV3 118 10 mH_needIn), iLA0, iLI5, iC0, (iSP 9999), (iCV3 118 10 mH_needIn), iLA0, iLI6, iC0, (iSP 9999), (iCV3 118 10 mH_needIn), iLA0, iLI7, iC0, (iSP 999), (iCV3 118 10 mH_needIn), iLA0, (iGR 19 10 1), iLI4, iLI5, iLI6, iLI3, (iCV4 266 0 mAq_lookInto), iLA0, (iGR 19 10 1), iLI1, iLI7, iC0, iLA0, (iGR 57 10 7), (iCV4 270 0 mAq_thinkOf), iLA0, (iGR 57 10 7), iLI2, iIALD, iRI]
def tH_thinks : Tb := [(0, bH_thinks_0, 97)]
theorem fH_thinks_0 : tbf tH_thinks 0 = some (bH_thinks_0, 97) := rfl
theorem kH_thinks_0 : Bok "HerbWaters" prog_1_method_15_code (0, bH_thinks_0, 97) := ⟨by decide +kernel, (List.forall_mem_cons.mpr ⟨sLA0, (List.forall_mem_cons.mpr ⟨sLI1, (List.forall_mem_cons.mpr ⟨lH_v150, (List.forall_mem_cons.mpr ⟨sLA0, (List.forall_mem_cons.mpr ⟨sLI2, (List.forall_mem_cons.mpr ⟨sC0, (List.forall_mem_cons.mpr ⟨sC2, (List.forall_mem_cons.mpr ⟨lH_v118, (List.forall_mem_cons.mpr ⟨sLA0, (List.forall_mem_cons.mpr ⟨sLI3, (List.forall_mem_cons.mpr ⟨sC0, (List.forall_mem_cons.mpr ⟨sSP, (List.forall_mem_cons.mpr ⟨lH_v118, (List.forall_mem_cons.mpr ⟨sLA0, (List.forall_mem_cons.mpr ⟨sLI4, (List.forall_mem_cons.mpr ⟨sC0, (List.forall_mem_cons.mpr ⟨sSP, (List.forall_mem_cons.mpr ⟨lH_v118, (List.forall_mem_cons.mpr ⟨sLA0, (List.forall_mem_cons.mpr ⟨sLI5, (List.forall_mem_cons.mpr ⟨sC0, (List.forall_mem_cons.mpr ⟨sSP, (List.forall_mem_cons.mpr ⟨lH_v118, (List.forall_mem_cons.mpr ⟨sLA0, (List.forall_mem_cons.mpr ⟨sLI6, (List.forall_mem_cons.mpr ⟨sC0, (List.forall_mem_cons.mpr ⟨sSP, (List.forall_mem_cons.mpr ⟨lH_v118, (List.forall_mem_cons.mpr ⟨sLA0, (List.forall_mem_cons.mpr ⟨sLI7, (List.forall_mem_cons.mpr ⟨sC0, (List.forall_mem_cons.mpr ⟨sSP, (List.forall_mem_cons.mpr ⟨lH_v118, (List.forall_mem_cons.mpr ⟨sLA0, (List.forall_mem_cons.mpr ⟨lH_g19, (List.forall_mem_cons.mpr ⟨sLI4, (List.forall_mem_cons.mpr ⟨sLI5, (List.forall_mem_cons.mpr ⟨sLI6, (List.forall_mem_cons.mpr ⟨sLI3, (List.forall_mem_cons.mpr ⟨lH_v266, (List.forall_mem_cons.mpr ⟨sLA0, (List.forall_mem_cons.mpr ⟨lH_g19, (List.forall_mem_cons.mpr ⟨sLI1, (List.forall_mem_cons.mpr ⟨sLI7, (List.forall_mem_cons.mpr ⟨sC0, (List.forall_mem_cons.mpr ⟨sLA0, (List.forall_mem_cons.mpr ⟨lH_g57, (List.forall_mem_cons.mpr ⟨lH_v270, (List.forall_mem_cons.mpr ⟨sLA0, (List.forall_mem_cons.mpr ⟨lH_g57, (List.forall_mem_cons.mpr ⟨sLI2, (List.forall_mem_cons.mpr ⟨sIALD, (List.forall_mem_cons.mpr ⟨sRI, (fun _ h => absurd h List.not_mem_nil)⟩)⟩)⟩)⟩)⟩)⟩)⟩)⟩)⟩)⟩)⟩)⟩)⟩)⟩)⟩)⟩)⟩)⟩)⟩)⟩)⟩)⟩)⟩)⟩)⟩)⟩)⟩)⟩)⟩)⟩)⟩)⟩)⟩)⟩)⟩)⟩)⟩)⟩)⟩)⟩)⟩)⟩)⟩)⟩)⟩)⟩)⟩)⟩)⟩)⟩)⟩)⟩)⟩)⟩
theorem kH_thinks : ∀ q ∈ tH_thinks, Bok "HerbWaters" prog_1_method_15_code q := (List.forall_mem_cons.mpr ⟨kH_thinks_0, (fun _ h => absurd h List.not_mem_nil)⟩)
theorem rH_thinks : mH_thinks.2.2.2 = some .int := rfl
def mH_view : Mt := (⟨"HerbWaters", "view", "(I)I"⟩, prog_1_method_16_code, 2, some .int)
theorem ok_H_view : Mok mH_view := ⟨gtb_mem 1500 (by decide +kernel) rfl, gtb_mem 93 (by decide +kernel) rfl, by decide +kernel, by decide⟩
theorem lH_g28 : Snd "HerbWaters" (iGR 28 10 2) := sGR _ rfl (gtb_mem 580 (by decide +kernel) rfl)
theorem lH_v274 : Snd "HerbWaters" (iCV2 274 4 mFo_after) := sCV2 _ rfl rfl ok_Fo_after (gtb_mem 1502 (by decide +kernel) rfl) (gtb_mem 1503 (by decide +kernel) rfl) (gtb_mem 1501 (by decide +kernel) rfl)
def bH_view_0 : List Ir := [iLA0, iLI1, iC0, (iBP 99), (iCV3 118 10 mH_needIn), iLA0, (iGR 28 10 2), iLA0, (iGR 42 10 4), iLI1, (iCV2 274 4 mFo_after), (iCV0 240 2 mDy_seen), iRI]
def tH_view : Tb := [(0, bH_view_0, 24)]
theorem fH_view_0 : tbf tH_view 0 = some (bH_view_0, 24) := rfl
theorem kH_view_0 : Bok "HerbWaters" prog_1_method_16_code (0, bH_view_0, 24) := ⟨by decide +kernel, (List.forall_mem_cons.mpr ⟨sLA0, (List.forall_mem_cons.mpr ⟨sLI1, (List.forall_mem_cons.mpr ⟨sC0, (List.forall_mem_cons.mpr ⟨sBP, (List.forall_mem_cons.mpr ⟨lH_v118, (List.forall_mem_cons.mpr ⟨sLA0, (List.forall_mem_cons.mpr ⟨lH_g28, (List.forall_mem_cons.mpr ⟨sLA0, (List.forall_mem_cons.mpr ⟨lH_g42, (List.forall_mem_cons.mpr ⟨sLI1, (List.forall_mem_cons.mpr ⟨lH_v274, (List.forall_mem_cons.mpr ⟨lH_v240, (List.forall_mem_cons.mpr ⟨sRI, (fun _ h => absurd h List.not_mem_nil)⟩)⟩)⟩)⟩)⟩)⟩)⟩)⟩)⟩)⟩)⟩)⟩)⟩)⟩
theorem kH_view : ∀ q ∈ tH_view, Bok "HerbWaters" prog_1_method_16_code q := (List.forall_mem_cons.mpr ⟨kH_view_0, (fun _ h => absurd h List.not_mem_nil)⟩)
theorem rH_view : mH_view.2.2.2 = some .int := rfl
def mH_ahead : Mt := (⟨"HerbWaters", "ahead", "(III)I"⟩, prog_1_method_17_code, 5, some .int)
theorem ok_H_ahead : Mok mH_ahead := ⟨gtb_mem 1511 (by decide +kernel) rfl, gtb_mem 93 (by decide +kernel) rfl, by decide +kernel, by decide⟩
def bH_ahead_0 : List Ir := [iLA0, iLI1, (iCV1 150 10 mH_needVillage), iLA0, iLI2, iC0, (iBP 99), (iCV3 118 10 mH_needIn), iLA0, iLI3, iC0, iC3, (iCV3 118 10 mH_needIn), iLA0, (iGR 28 10 2), iLA0, (iGR 42 10 4), iLI2, (iCV2 274 4 mFo_after), iSA4, iLI3, (iIFne (12) 47)]
def bH_ahead_38 : List Ir := [iLA4, iLI1, (iCV1 198 2 mDy_waterIn), (iGO (12) 56)]
def bH_ahead_47 : List Ir := [iLA4, iLI1, iLI3, iC1, iSUB, (iCV2 202 2 mDy_herbIn)]
def bH_ahead_56 : List Ir := [iRI]
def tH_ahead : Tb := [(0, bH_ahead_0, 38), (38, bH_ahead_38, 47), (47, bH_ahead_47, 56), (56, bH_ahead_56, 57)]
theorem fH_ahead_0 : tbf tH_ahead 0 = some (bH_ahead_0, 38) := rfl
theorem fH_ahead_38 : tbf tH_ahead 38 = some (bH_ahead_38, 47) := rfl
theorem fH_ahead_47 : tbf tH_ahead 47 = some (bH_ahead_47, 56) := rfl
theorem fH_ahead_56 : tbf tH_ahead 56 = some (bH_ahead_56, 57) := rfl
theorem kH_ahead_0 : Bok "HerbWaters" prog_1_method_17_code (0, bH_ahead_0, 38) := ⟨by decide +kernel, (List.forall_mem_cons.mpr ⟨sLA0, (List.forall_mem_cons.mpr ⟨sLI1, (List.forall_mem_cons.mpr ⟨lH_v150, (List.forall_mem_cons.mpr ⟨sLA0, (List.forall_mem_cons.mpr ⟨sLI2, (List.forall_mem_cons.mpr ⟨sC0, (List.forall_mem_cons.mpr ⟨sBP, (List.forall_mem_cons.mpr ⟨lH_v118, (List.forall_mem_cons.mpr ⟨sLA0, (List.forall_mem_cons.mpr ⟨sLI3, (List.forall_mem_cons.mpr ⟨sC0, (List.forall_mem_cons.mpr ⟨sC3, (List.forall_mem_cons.mpr ⟨lH_v118, (List.forall_mem_cons.mpr ⟨sLA0, (List.forall_mem_cons.mpr ⟨lH_g28, (List.forall_mem_cons.mpr ⟨sLA0, (List.forall_mem_cons.mpr ⟨lH_g42, (List.forall_mem_cons.mpr ⟨sLI2, (List.forall_mem_cons.mpr ⟨lH_v274, (List.forall_mem_cons.mpr ⟨sSA4, (List.forall_mem_cons.mpr ⟨sLI3, (List.forall_mem_cons.mpr ⟨sIFne, (fun _ h => absurd h List.not_mem_nil)⟩)⟩)⟩)⟩)⟩)⟩)⟩)⟩)⟩)⟩)⟩)⟩)⟩)⟩)⟩)⟩)⟩)⟩)⟩)⟩)⟩)⟩)⟩
theorem kH_ahead_38 : Bok "HerbWaters" prog_1_method_17_code (38, bH_ahead_38, 47) := ⟨by decide +kernel, (List.forall_mem_cons.mpr ⟨sLA4, (List.forall_mem_cons.mpr ⟨sLI1, (List.forall_mem_cons.mpr ⟨lH_v198, (List.forall_mem_cons.mpr ⟨sGO, (fun _ h => absurd h List.not_mem_nil)⟩)⟩)⟩)⟩)⟩
theorem kH_ahead_47 : Bok "HerbWaters" prog_1_method_17_code (47, bH_ahead_47, 56) := ⟨by decide +kernel, (List.forall_mem_cons.mpr ⟨sLA4, (List.forall_mem_cons.mpr ⟨sLI1, (List.forall_mem_cons.mpr ⟨sLI3, (List.forall_mem_cons.mpr ⟨sC1, (List.forall_mem_cons.mpr ⟨sSUB, (List.forall_mem_cons.mpr ⟨lH_v202, (fun _ h => absurd h List.not_mem_nil)⟩)⟩)⟩)⟩)⟩)⟩)⟩
theorem kH_ahead_56 : Bok "HerbWaters" prog_1_method_17_code (56, bH_ahead_56, 57) := ⟨by decide +kernel, (List.forall_mem_cons.mpr ⟨sRI, (fun _ h => absurd h List.not_mem_nil)⟩)⟩
theorem kH_ahead : ∀ q ∈ tH_ahead, Bok "HerbWaters" prog_1_method_17_code q := (List.forall_mem_cons.mpr ⟨kH_ahead_0, (List.forall_mem_cons.mpr ⟨kH_ahead_38, (List.forall_mem_cons.mpr ⟨kH_ahead_47, (List.forall_mem_cons.mpr ⟨kH_ahead_56, (fun _ h => absurd h List.not_mem_nil)⟩)⟩)⟩)⟩)
theorem rH_ahead : mH_ahead.2.2.2 = some .int := rfl
def mH_when : Mt := (⟨"HerbWaters", "when", "(I)I"⟩, prog_1_method_18_code, 2, some .int)
theorem ok_H_when : Mok mH_when := ⟨gtb_mem 1518 (by decide +kernel) rfl, gtb_mem 93 (by decide +kernel) rfl, by decide +kernel, by decide⟩
theorem lH_v278 : Snd "HerbWaters" (iCV2 278 4 mFo_firstSeen) := sCV2 _ rfl rfl ok_Fo_firstSeen (gtb_mem 1520 (by decide +kernel) rfl) (gtb_mem 1521 (by decide +kernel) rfl) (gtb_mem 1519 (by decide +kernel) rfl)
def bH_when_0 : List Ir := [iLA0, iLI1, iC0, (iBP 7), (iCV3 118 10 mH_needIn), iLA0, (iGR 28 10 2), iLA0, (iGR 42 10 4), iLI1, (iCV2 278 4 mFo_firstSeen), iRI]
def tH_when : Tb := [(0, bH_when_0, 21)]
theorem fH_when_0 : tbf tH_when 0 = some (bH_when_0, 21) := rfl
theorem kH_when_0 : Bok "HerbWaters" prog_1_method_18_code (0, bH_when_0, 21) := ⟨by decide +kernel, (List.forall_mem_cons.mpr ⟨sLA0, (List.forall_mem_cons.mpr ⟨sLI1, (List.forall_mem_cons.mpr ⟨sC0, (List.forall_mem_cons.mpr ⟨sBP, (List.forall_mem_cons.mpr ⟨lH_v118, (List.forall_mem_cons.mpr ⟨sLA0, (List.forall_mem_cons.mpr ⟨lH_g28, (List.forall_mem_cons.mpr ⟨sLA0, (List.forall_mem_cons.mpr ⟨lH_g42, (List.forall_mem_cons.mpr ⟨sLI1, (List.forall_mem_cons.mpr ⟨lH_v278, (List.forall_mem_cons.mpr ⟨sRI, (fun _ h => absurd h List.not_mem_nil)⟩)⟩)⟩)⟩)⟩)⟩)⟩)⟩)⟩)⟩)⟩)⟩)⟩
theorem kH_when : ∀ q ∈ tH_when, Bok "HerbWaters" prog_1_method_18_code q := (List.forall_mem_cons.mpr ⟨kH_when_0, (fun _ h => absurd h List.not_mem_nil)⟩)
theorem rH_when : mH_when.2.2.2 = some .int := rfl
def mH_please : Mt := (⟨"HerbWaters", "please", "(I)I"⟩, prog_1_method_19_code, 3, some .int)
theorem ok_H_please : Mok mH_please := ⟨gtb_mem 1529 (by decide +kernel) rfl, gtb_mem 93 (by decide +kernel) rfl, by decide +kernel, by decide⟩
def mH_needSet : Mt := (⟨"HerbWaters", "needSet", "(I)V"⟩, prog_1_method_40_code, 2, none)
theorem ok_H_needSet : Mok mH_needSet := ⟨gtb_mem 1533 (by decide +kernel) rfl, gtb_mem 93 (by decide +kernel) rfl, by decide +kernel, by decide⟩
theorem lH_v282 : Snd "HerbWaters" (iCV1 282 10 mH_needSet) := sCV1 _ rfl rfl ok_H_needSet (gtb_mem 1532 (by decide +kernel) rfl) (gtb_mem 33 (by decide +kernel) rfl) (gtb_mem 1530 (by decide +kernel) rfl)
theorem lH_p192 : Snd "HerbWaters" (iPI 192 2 10) := sPIN _ rfl rfl "HerbWaters" (List.mem_filter.mpr ⟨List.mem_of_getElem? (i := 350) (by decide +kernel), rfl⟩)
def bH_please_0 : List Ir := [iLA0, iLI1, (iCV1 282 10 mH_needSet), iLA0, (iGR 42 10 4), (iGI 192 2 10), iSI2, iLA0, (iGR 42 10 4), iLI1, (iPI 192 2 10), iLA0, (iGR 49 10 5), iLA0, (iGR 42 10 4), (iCV1 108 3 mDi_begin), iLI2, iRI]
def tH_please : Tb := [(0, bH_please_0, 34)]
theorem fH_please_0 : tbf tH_please 0 = some (bH_please_0, 34) := rfl
theorem kH_please_0 : Bok "HerbWaters" prog_1_method_19_code (0, bH_please_0, 34) := ⟨by decide +kernel, (List.forall_mem_cons.mpr ⟨sLA0, (List.forall_mem_cons.mpr ⟨sLI1, (List.forall_mem_cons.mpr ⟨lH_v282, (List.forall_mem_cons.mpr ⟨sLA0, (List.forall_mem_cons.mpr ⟨lH_g42, (List.forall_mem_cons.mpr ⟨lH_g192, (List.forall_mem_cons.mpr ⟨sSI2, (List.forall_mem_cons.mpr ⟨sLA0, (List.forall_mem_cons.mpr ⟨lH_g42, (List.forall_mem_cons.mpr ⟨sLI1, (List.forall_mem_cons.mpr ⟨lH_p192, (List.forall_mem_cons.mpr ⟨sLA0, (List.forall_mem_cons.mpr ⟨lH_g49, (List.forall_mem_cons.mpr ⟨sLA0, (List.forall_mem_cons.mpr ⟨lH_g42, (List.forall_mem_cons.mpr ⟨lH_v108, (List.forall_mem_cons.mpr ⟨sLI2, (List.forall_mem_cons.mpr ⟨sRI, (fun _ h => absurd h List.not_mem_nil)⟩)⟩)⟩)⟩)⟩)⟩)⟩)⟩)⟩)⟩)⟩)⟩)⟩)⟩)⟩)⟩)⟩)⟩)⟩
theorem kH_please : ∀ q ∈ tH_please, Bok "HerbWaters" prog_1_method_19_code q := (List.forall_mem_cons.mpr ⟨kH_please_0, (fun _ h => absurd h List.not_mem_nil)⟩)
theorem rH_please : mH_please.2.2.2 = some .int := rfl
def mH_contrary : Mt := (⟨"HerbWaters", "contrary", "(I)I"⟩, prog_1_method_20_code, 3, some .int)
theorem ok_H_contrary : Mok mH_contrary := ⟨gtb_mem 1541 (by decide +kernel) rfl, gtb_mem 93 (by decide +kernel) rfl, by decide +kernel, by decide⟩
theorem lH_p195 : Snd "HerbWaters" (iPI 195 2 11) := sPIN _ rfl rfl "HerbWaters" (List.mem_filter.mpr ⟨List.mem_of_getElem? (i := 353) (by decide +kernel), rfl⟩)
def bH_contrary_0 : List Ir := [iLA0, iLI1, (iCV1 282 10 mH_needSet), iLA0, (iGR 42 10 4), (iGI 195 2 11), iSI2, iLA0, (iGR 42 10 4), iLI1, (iPI 195 2 11), iLA0, (iGR 49 10 5), iLA0, (iGR 42 10 4), (iCV1 108 3 mDi_begin), iLI2, iRI]
def tH_contrary : Tb := [(0, bH_contrary_0, 34)]
theorem fH_contrary_0 : tbf tH_contrary 0 = some (bH_contrary_0, 34) := rfl
theorem kH_contrary_0 : Bok "HerbWaters" prog_1_method_20_code (0, bH_contrary_0, 34) := ⟨by decide +kernel, (List.forall_mem_cons.mpr ⟨sLA0, (List.forall_mem_cons.mpr ⟨sLI1, (List.forall_mem_cons.mpr ⟨lH_v282, (List.forall_mem_cons.mpr ⟨sLA0, (List.forall_mem_cons.mpr ⟨lH_g42, (List.forall_mem_cons.mpr ⟨lH_g195, (List.forall_mem_cons.mpr ⟨sSI2, (List.forall_mem_cons.mpr ⟨sLA0, (List.forall_mem_cons.mpr ⟨lH_g42, (List.forall_mem_cons.mpr ⟨sLI1, (List.forall_mem_cons.mpr ⟨lH_p195, (List.forall_mem_cons.mpr ⟨sLA0, (List.forall_mem_cons.mpr ⟨lH_g49, (List.forall_mem_cons.mpr ⟨sLA0, (List.forall_mem_cons.mpr ⟨lH_g42, (List.forall_mem_cons.mpr ⟨lH_v108, (List.forall_mem_cons.mpr ⟨sLI2, (List.forall_mem_cons.mpr ⟨sRI, (fun _ h => absurd h List.not_mem_nil)⟩)⟩)⟩)⟩)⟩)⟩)⟩)⟩)⟩)⟩)⟩)⟩)⟩)⟩)⟩)⟩)⟩)⟩)⟩
theorem kH_contrary : ∀ q ∈ tH_contrary, Bok "HerbWaters" prog_1_method_20_code q := (List.forall_mem_cons.mpr ⟨kH_contrary_0, (fun _ h => absurd h List.not_mem_nil)⟩)
theorem rH_contrary : mH_contrary.2.2.2 = some .int := rfl
def mH_whom : Mt := (⟨"HerbWaters", "whom", "(I)I"⟩, prog_1_method_21_code, 2, some .int)
theorem ok_H_whom : Mok mH_whom := ⟨gtb_mem 1548 (by decide +kernel) rfl, gtb_mem 93 (by decide +kernel) rfl, by decide +kernel, by decide⟩
theorem lH_v285 : Snd "HerbWaters" (iCV2 285 4 mFo_leastPleased) := sCV2 _ rfl rfl ok_Fo_leastPleased (gtb_mem 641 (by decide +kernel) rfl) (gtb_mem 642 (by decide +kernel) rfl) (gtb_mem 640 (by decide +kernel) rfl)
def bH_whom_0 : List Ir := [iLA0, iLI1, iC1, (iBP 60), (iCV3 118 10 mH_needIn), iLA0, (iGR 28 10 2), iLA0, (iGR 42 10 4), iLI1, (iCV2 285 4 mFo_leastPleased), iRI]
def tH_whom : Tb := [(0, bH_whom_0, 21)]
theorem fH_whom_0 : tbf tH_whom 0 = some (bH_whom_0, 21) := rfl
theorem kH_whom_0 : Bok "HerbWaters" prog_1_method_21_code (0, bH_whom_0, 21) := ⟨by decide +kernel, (List.forall_mem_cons.mpr ⟨sLA0, (List.forall_mem_cons.mpr ⟨sLI1, (List.forall_mem_cons.mpr ⟨sC1, (List.forall_mem_cons.mpr ⟨sBP, (List.forall_mem_cons.mpr ⟨lH_v118, (List.forall_mem_cons.mpr ⟨sLA0, (List.forall_mem_cons.mpr ⟨lH_g28, (List.forall_mem_cons.mpr ⟨sLA0, (List.forall_mem_cons.mpr ⟨lH_g42, (List.forall_mem_cons.mpr ⟨sLI1, (List.forall_mem_cons.mpr ⟨lH_v285, (List.forall_mem_cons.mpr ⟨sRI, (fun _ h => absurd h List.not_mem_nil)⟩)⟩)⟩)⟩)⟩)⟩)⟩)⟩)⟩)⟩)⟩)⟩)⟩
theorem kH_whom : ∀ q ∈ tH_whom, Bok "HerbWaters" prog_1_method_21_code q := (List.forall_mem_cons.mpr ⟨kH_whom_0, (fun _ h => absurd h List.not_mem_nil)⟩)
theorem rH_whom : mH_whom.2.2.2 = some .int := rfl
def mH_feast : Mt := (⟨"HerbWaters", "feast", "()I"⟩, prog_1_method_22_code, 2, some .int)
theorem ok_H_feast : Mok mH_feast := ⟨gtb_mem 639 (by decide +kernel) rfl, gtb_mem 93 (by decide +kernel) rfl, by decide +kernel, by decide⟩
def bH_feast_0 : List Ir := [iLA0, (iGR 19 10 1), (iGR 101 0 0), (iGI 186 9 14), iLA0, (iGR 42 10 4), (iGI 189 2 9), iSUB, iSI1, iLI1, iC1, (iIClt (9) 30)]
def bH_feast_24 : List Ir := [iLI1, (iBP 60), (iICle (7) 34)]
def bH_feast_30 : List Ir := [iCm1, (iGO (15) 46)]
def bH_feast_34 : List Ir := [iLA0, (iGR 28 10 2), iLA0, (iGR 42 10 4), iLI1, (iCV2 285 4 mFo_leastPleased)]
def bH_feast_46 : List Ir := [iRI]
def tH_feast : Tb := [(0, bH_feast_0, 24), (24, bH_feast_24, 30), (30, bH_feast_30, 34), (34, bH_feast_34, 46), (46, bH_feast_46, 47)]
theorem fH_feast_0 : tbf tH_feast 0 = some (bH_feast_0, 24) := rfl
theorem fH_feast_24 : tbf tH_feast 24 = some (bH_feast_24, 30) := rfl
theorem fH_feast_30 : tbf tH_feast 30 = some (bH_feast_30, 34) := rfl
theorem fH_feast_34 : tbf tH_feast 34 = some (bH_feast_34, 46) := rfl
theorem fH_feast_46 : tbf tH_feast 46 = some (bH_feast_46, 47) := rfl
theorem kH_feast_0 : Bok "HerbWaters" prog_1_method_22_code (0, bH_feast_0, 24) := ⟨by decide +kernel, (List.forall_mem_cons.mpr ⟨sLA0, (List.forall_mem_cons.mpr ⟨lH_g19, (List.forall_mem_cons.mpr ⟨lH_g101, (List.forall_mem_cons.mpr ⟨lH_g186, (List.forall_mem_cons.mpr ⟨sLA0, (List.forall_mem_cons.mpr ⟨lH_g42, (List.forall_mem_cons.mpr ⟨lH_g189, (List.forall_mem_cons.mpr ⟨sSUB, (List.forall_mem_cons.mpr ⟨sSI1, (List.forall_mem_cons.mpr ⟨sLI1, (List.forall_mem_cons.mpr ⟨sC1, (List.forall_mem_cons.mpr ⟨sIClt, (fun _ h => absurd h List.not_mem_nil)⟩)⟩)⟩)⟩)⟩)⟩)⟩)⟩)⟩)⟩)⟩)⟩)⟩
theorem kH_feast_24 : Bok "HerbWaters" prog_1_method_22_code (24, bH_feast_24, 30) := ⟨by decide +kernel, (List.forall_mem_cons.mpr ⟨sLI1, (List.forall_mem_cons.mpr ⟨sBP, (List.forall_mem_cons.mpr ⟨sICle, (fun _ h => absurd h List.not_mem_nil)⟩)⟩)⟩)⟩
theorem kH_feast_30 : Bok "HerbWaters" prog_1_method_22_code (30, bH_feast_30, 34) := ⟨by decide +kernel, (List.forall_mem_cons.mpr ⟨sCm1, (List.forall_mem_cons.mpr ⟨sGO, (fun _ h => absurd h List.not_mem_nil)⟩)⟩)⟩
theorem kH_feast_34 : Bok "HerbWaters" prog_1_method_22_code (34, bH_feast_34, 46) := ⟨by decide +kernel, (List.forall_mem_cons.mpr ⟨sLA0, (List.forall_mem_cons.mpr ⟨lH_g28, (List.forall_mem_cons.mpr ⟨sLA0, (List.forall_mem_cons.mpr ⟨lH_g42, (List.forall_mem_cons.mpr ⟨sLI1, (List.forall_mem_cons.mpr ⟨lH_v285, (fun _ h => absurd h List.not_mem_nil)⟩)⟩)⟩)⟩)⟩)⟩)⟩
theorem kH_feast_46 : Bok "HerbWaters" prog_1_method_22_code (46, bH_feast_46, 47) := ⟨by decide +kernel, (List.forall_mem_cons.mpr ⟨sRI, (fun _ h => absurd h List.not_mem_nil)⟩)⟩
theorem kH_feast : ∀ q ∈ tH_feast, Bok "HerbWaters" prog_1_method_22_code q := (List.forall_mem_cons.mpr ⟨kH_feast_0, (List.forall_mem_cons.mpr ⟨kH_feast_24, (List.forall_mem_cons.mpr ⟨kH_feast_30, (List.forall_mem_cons.mpr ⟨kH_feast_34, (List.forall_mem_cons.mpr ⟨kH_feast_46, (fun _ h => absurd h List.not_mem_nil)⟩)⟩)⟩)⟩)⟩)
theorem rH_feast : mH_feast.2.2.2 = some .int := rfl
def mH_filters : Mt := (⟨"HerbWaters", "filters", "(III)I"⟩, prog_1_method_23_code, 4, some .int)
theorem ok_H_filters : Mok mH_filters := ⟨gtb_mem 1555 (by decide +kernel) rfl, gtb_mem 93 (by decide +kernel) rfl, by decide +kernel, by decide⟩
theorem lH_v288 : Snd "HerbWaters" (iCV4 288 4 mFo_leastFilter) := sCV4 _ rfl rfl ok_Fo_leastFilter (gtb_mem 1557 (by decide +kernel) rfl) (gtb_mem 1558 (by decide +kernel) rfl) (gtb_mem 1556 (by decide +kernel) rfl)
def bH_filters_0 : List Ir := [iLA0, iLI1, (iCV1 150 10 mH_needVillage), iLA0, iLI2, iC0, iC2, (iCV3 118 10 mH_needIn), iLA0, iLI3, iC1, (iBP 60), (iCV3 118 10 mH_needIn), iLA0, (iGR 28 10 2), iLA0, (iGR 42 10 4), iLI1, iLI2, iLI3, (iCV4 288 4 mFo_leastFilter), iRI]
def tH_filters : Tb := [(0, bH_filters_0, 35)]
theorem fH_filters_0 : tbf tH_filters 0 = some (bH_filters_0, 35) := rfl
theorem kH_filters_0 : Bok "HerbWaters" prog_1_method_23_code (0, bH_filters_0, 35) := ⟨by decide +kernel, (List.forall_mem_cons.mpr ⟨sLA0, (List.forall_mem_cons.mpr ⟨sLI1, (List.forall_mem_cons.mpr ⟨lH_v150, (List.forall_mem_cons.mpr ⟨sLA0, (List.forall_mem_cons.mpr ⟨sLI2, (List.forall_mem_cons.mpr ⟨sC0, (List.forall_mem_cons.mpr ⟨sC2, (List.forall_mem_cons.mpr ⟨lH_v118, (List.forall_mem_cons.mpr ⟨sLA0, (List.forall_mem_cons.mpr ⟨sLI3, (List.forall_mem_cons.mpr ⟨sC1, (List.forall_mem_cons.mpr ⟨sBP, (List.forall_mem_cons.mpr ⟨lH_v118, (List.forall_mem_cons.mpr ⟨sLA0, (List.forall_mem_cons.mpr ⟨lH_g28, (List.forall_mem_cons.mpr ⟨sLA0, (List.forall_mem_cons.mpr ⟨lH_g42, (List.forall_mem_cons.mpr ⟨sLI1, (List.forall_mem_cons.mpr ⟨sLI2, (List.forall_mem_cons.mpr ⟨sLI3, (List.forall_mem_cons.mpr ⟨lH_v288, (List.forall_mem_cons.mpr ⟨sRI, (fun _ h => absurd h List.not_mem_nil)⟩)⟩)⟩)⟩)⟩)⟩)⟩)⟩)⟩)⟩)⟩)⟩)⟩)⟩)⟩)⟩)⟩)⟩)⟩)⟩)⟩)⟩)⟩
theorem kH_filters : ∀ q ∈ tH_filters, Bok "HerbWaters" prog_1_method_23_code q := (List.forall_mem_cons.mpr ⟨kH_filters_0, (fun _ h => absurd h List.not_mem_nil)⟩)
theorem rH_filters : mH_filters.2.2.2 = some .int := rfl
def mH_minds : Mt := (⟨"HerbWaters", "minds", "(I)I"⟩, prog_1_method_24_code, 2, some .int)
theorem ok_H_minds : Mok mH_minds := ⟨gtb_mem 1566 (by decide +kernel) rfl, gtb_mem 93 (by decide +kernel) rfl, by decide +kernel, by decide⟩
theorem lH_v292 : Snd "HerbWaters" (iCV0 292 8 mTs_study) := sCV0 _ rfl rfl ok_Ts_study (gtb_mem 1568 (by decide +kernel) rfl) (gtb_mem 1569 (by decide +kernel) rfl) (gtb_mem 1567 (by decide +kernel) rfl)
theorem lH_g295 : Snd "HerbWaters" (iGI 295 8 5) := sGIN _ rfl "HerbWaters" (List.mem_filter.mpr ⟨List.mem_of_getElem? (i := 466) (by decide +kernel), rfl⟩)
theorem lH_g298 : Snd "HerbWaters" (iGI 298 8 6) := sGIN _ rfl "HerbWaters" (List.mem_filter.mpr ⟨List.mem_of_getElem? (i := 468) (by decide +kernel), rfl⟩)
theorem lH_g301 : Snd "HerbWaters" (iGI 301 8 7) := sGIN _ rfl "HerbWaters" (List.mem_filter.mpr ⟨List.mem_of_getElem? (i := 470) (by decide +kernel), rfl⟩)
theorem lH_g304 : Snd "HerbWaters" (iGI 304 8 8) := sGIN _ rfl "HerbWaters" (List.mem_filter.mpr ⟨List.mem_of_getElem? (i := 472) (by decide +kernel), rfl⟩)
def bH_minds_0 : List Ir := [iLA0, iLI1, iC0, iC3, (iCV3 118 10 mH_needIn), iLA0, (iGR 35 10 3), (iCV0 292 8 mTs_study), iLI1, (iSW 0 (49) #[(25), (33), (41)] 25 [40, 48, 56] 64)]
def bH_minds_40 : List Ir := [iLA0, (iGR 35 10 3), (iGI 295 8 5), iRI]
def bH_minds_48 : List Ir := [iLA0, (iGR 35 10 3), (iGI 298 8 6), iRI]
def bH_minds_56 : List Ir := [iLA0, (iGR 35 10 3), (iGI 301 8 7), iRI]
def bH_minds_64 : List Ir := [iLA0, (iGR 35 10 3), (iGI 304 8 8), iRI]
def tH_minds : Tb := [(0, bH_minds_0, 40), (40, bH_minds_40, 48), (48, bH_minds_48, 56), (56, bH_minds_56, 64), (64, bH_minds_64, 72)]
theorem fH_minds_0 : tbf tH_minds 0 = some (bH_minds_0, 40) := rfl
theorem fH_minds_40 : tbf tH_minds 40 = some (bH_minds_40, 48) := rfl
theorem fH_minds_48 : tbf tH_minds 48 = some (bH_minds_48, 56) := rfl
theorem fH_minds_56 : tbf tH_minds 56 = some (bH_minds_56, 64) := rfl
theorem fH_minds_64 : tbf tH_minds 64 = some (bH_minds_64, 72) := rfl
theorem kH_minds_0 : Bok "HerbWaters" prog_1_method_24_code (0, bH_minds_0, 40) := ⟨by decide +kernel, (List.forall_mem_cons.mpr ⟨sLA0, (List.forall_mem_cons.mpr ⟨sLI1, (List.forall_mem_cons.mpr ⟨sC0, (List.forall_mem_cons.mpr ⟨sC3, (List.forall_mem_cons.mpr ⟨lH_v118, (List.forall_mem_cons.mpr ⟨sLA0, (List.forall_mem_cons.mpr ⟨lH_g35, (List.forall_mem_cons.mpr ⟨lH_v292, (List.forall_mem_cons.mpr ⟨sLI1, (List.forall_mem_cons.mpr ⟨sSW, (fun _ h => absurd h List.not_mem_nil)⟩)⟩)⟩)⟩)⟩)⟩)⟩)⟩)⟩)⟩)⟩
theorem kH_minds_40 : Bok "HerbWaters" prog_1_method_24_code (40, bH_minds_40, 48) := ⟨by decide +kernel, (List.forall_mem_cons.mpr ⟨sLA0, (List.forall_mem_cons.mpr ⟨lH_g35, (List.forall_mem_cons.mpr ⟨lH_g295, (List.forall_mem_cons.mpr ⟨sRI, (fun _ h => absurd h List.not_mem_nil)⟩)⟩)⟩)⟩)⟩
theorem kH_minds_48 : Bok "HerbWaters" prog_1_method_24_code (48, bH_minds_48, 56) := ⟨by decide +kernel, (List.forall_mem_cons.mpr ⟨sLA0, (List.forall_mem_cons.mpr ⟨lH_g35, (List.forall_mem_cons.mpr ⟨lH_g298, (List.forall_mem_cons.mpr ⟨sRI, (fun _ h => absurd h List.not_mem_nil)⟩)⟩)⟩)⟩)⟩
theorem kH_minds_56 : Bok "HerbWaters" prog_1_method_24_code (56, bH_minds_56, 64) := ⟨by decide +kernel, (List.forall_mem_cons.mpr ⟨sLA0, (List.forall_mem_cons.mpr ⟨lH_g35, (List.forall_mem_cons.mpr ⟨lH_g301, (List.forall_mem_cons.mpr ⟨sRI, (fun _ h => absurd h List.not_mem_nil)⟩)⟩)⟩)⟩)⟩
theorem kH_minds_64 : Bok "HerbWaters" prog_1_method_24_code (64, bH_minds_64, 72) := ⟨by decide +kernel, (List.forall_mem_cons.mpr ⟨sLA0, (List.forall_mem_cons.mpr ⟨lH_g35, (List.forall_mem_cons.mpr ⟨lH_g304, (List.forall_mem_cons.mpr ⟨sRI, (fun _ h => absurd h List.not_mem_nil)⟩)⟩)⟩)⟩)⟩
theorem kH_minds : ∀ q ∈ tH_minds, Bok "HerbWaters" prog_1_method_24_code q := (List.forall_mem_cons.mpr ⟨kH_minds_0, (List.forall_mem_cons.mpr ⟨kH_minds_40, (List.forall_mem_cons.mpr ⟨kH_minds_48, (List.forall_mem_cons.mpr ⟨kH_minds_56, (List.forall_mem_cons.mpr ⟨kH_minds_64, (fun _ h => absurd h List.not_mem_nil)⟩)⟩)⟩)⟩)⟩)
theorem rH_minds : mH_minds.2.2.2 = some .int := rfl
