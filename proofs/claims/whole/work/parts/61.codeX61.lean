/-! code of the class; by program (wip/whole/gen_X.py) -/
def mJi_bitCount : Mt := (⟨"java/lang/Integer", "bitCount", "(I)I"⟩, prog_24_method_49_code, 1, some .int)
theorem ok_Ji_bitCount : Mok mJi_bitCount := ⟨gtb_mem 654 (by decide +kernel) rfl, gtb_mem 123 (by decide +kernel) rfl, by decide +kernel, by decide⟩
theorem lJi_k265 : Snd "java/lang/Integer" (iLDCW 265 1431655765) := sLDCW (gtb_mem 655 (by decide +kernel) rfl)
theorem lJi_k266 : Snd "java/lang/Integer" (iLDCW 266 858993459) := sLDCW (gtb_mem 656 (by decide +kernel) rfl)
theorem lJi_k267 : Snd "java/lang/Integer" (iLDCW 267 252645135) := sLDCW (gtb_mem 657 (by decide +kernel) rfl)
def bJi_bitCount_0 : List Ir := [iLI0, iLI0, iC1, iUSHR, (iLDCW 265 1431655765), iAND, iSUB, iSI0, iLI0, (iLDCW 266 858993459), iAND, iLI0, iC2, iUSHR, (iLDCW 266 858993459), iAND, iADD, iSI0, iLI0, iLI0, iC4, iUSHR, iADD, (iLDCW 267 252645135), iAND, iSI0, iLI0, iLI0, (iBP 8), iUSHR, iADD, iSI0, iLI0, iLI0, (iBP 16), iUSHR, iADD, iSI0, iLI0, (iBP 63), iAND, iRI]
def tJi_bitCount : Tb := [(0, bJi_bitCount_0, 53)]
theorem fJi_bitCount_0 : tbf tJi_bitCount 0 = some (bJi_bitCount_0, 53) := rfl
theorem kJi_bitCount_0 : Bok "java/lang/Integer" prog_24_method_49_code (0, bJi_bitCount_0, 53) := ⟨by decide +kernel, (List.forall_mem_cons.mpr ⟨sLI0, (List.forall_mem_cons.mpr ⟨sLI0, (List.forall_mem_cons.mpr ⟨sC1, (List.forall_mem_cons.mpr ⟨sUSHR, (List.forall_mem_cons.mpr ⟨lJi_k265, (List.forall_mem_cons.mpr ⟨sAND, (List.forall_mem_cons.mpr ⟨sSUB, (List.forall_mem_cons.mpr ⟨sSI0, (List.forall_mem_cons.mpr ⟨sLI0, (List.forall_mem_cons.mpr ⟨lJi_k266, (List.forall_mem_cons.mpr ⟨sAND, (List.forall_mem_cons.mpr ⟨sLI0, (List.forall_mem_cons.mpr ⟨sC2, (List.forall_mem_cons.mpr ⟨sUSHR, (List.forall_mem_cons.mpr ⟨lJi_k266, (List.forall_mem_cons.mpr ⟨sAND, (List.forall_mem_cons.mpr ⟨sADD, (List.forall_mem_cons.mpr ⟨sSI0, (List.forall_mem_cons.mpr ⟨sLI0, (List.forall_mem_cons.mpr ⟨sLI0, (List.forall_mem_cons.mpr ⟨sC4, (List.forall_mem_cons.mpr ⟨sUSHR, (List.forall_mem_cons.mpr ⟨sADD, (List.forall_mem_cons.mpr ⟨lJi_k267, (List.forall_mem_cons.mpr ⟨sAND, (List.forall_mem_cons.mpr ⟨sSI0, (List.forall_mem_cons.mpr ⟨sLI0, (List.forall_mem_cons.mpr ⟨sLI0, (List.forall_mem_cons.mpr ⟨sBP, (List.forall_mem_cons.mpr ⟨sUSHR, (List.forall_mem_cons.mpr ⟨sADD, (List.forall_mem_cons.mpr ⟨sSI0, (List.forall_mem_cons.mpr ⟨sLI0, (List.forall_mem_cons.mpr ⟨sLI0, (List.forall_mem_cons.mpr ⟨sBP, (List.forall_mem_cons.mpr ⟨sUSHR, (List.forall_mem_cons.mpr ⟨sADD, (List.forall_mem_cons.mpr ⟨sSI0, (List.forall_mem_cons.mpr ⟨sLI0, (List.forall_mem_cons.mpr ⟨sBP, (List.forall_mem_cons.mpr ⟨sAND, (List.forall_mem_cons.mpr ⟨sRI, (fun _ h => absurd h List.not_mem_nil)⟩)⟩)⟩)⟩)⟩)⟩)⟩)⟩)⟩)⟩)⟩)⟩)⟩)⟩)⟩)⟩)⟩)⟩)⟩)⟩)⟩)⟩)⟩)⟩)⟩)⟩)⟩)⟩)⟩)⟩)⟩)⟩)⟩)⟩)⟩)⟩)⟩)⟩)⟩)⟩)⟩)⟩)⟩
theorem kJi_bitCount : ∀ q ∈ tJi_bitCount, Bok "java/lang/Integer" prog_24_method_49_code q := (List.forall_mem_cons.mpr ⟨kJi_bitCount_0, (fun _ h => absurd h List.not_mem_nil)⟩)
theorem rJi_bitCount : mJi_bitCount.2.2.2 = some .int := rfl
def mJa_rangeCheck : Mt := (⟨"java/util/Arrays", "rangeCheck", "(III)V"⟩, prog_36_method_30_code, 3, none)
theorem ok_Ja_rangeCheck : Mok mJa_rangeCheck := ⟨gtb_mem 680 (by decide +kernel) rfl, gtb_mem 104 (by decide +kernel) rfl, by decide +kernel, by decide⟩
def bJa_rangeCheck_0 : List Ir := [iLI1, iLI2, (iICle (44) 46)]
def bJa_rangeCheck_46 : List Ir := [iLI1, (iIFge (12) 59)]
def bJa_rangeCheck_59 : List Ir := [iLI2, iLI0, (iICle (12) 73)]
def bJa_rangeCheck_73 : List Ir := [iRV]
def tJa_rangeCheck : Tb := [(0, bJa_rangeCheck_0, 5), (46, bJa_rangeCheck_46, 50), (59, bJa_rangeCheck_59, 64), (73, bJa_rangeCheck_73, 74)]
theorem fJa_rangeCheck_0 : tbf tJa_rangeCheck 0 = some (bJa_rangeCheck_0, 5) := rfl
theorem fJa_rangeCheck_46 : tbf tJa_rangeCheck 46 = some (bJa_rangeCheck_46, 50) := rfl
theorem fJa_rangeCheck_59 : tbf tJa_rangeCheck 59 = some (bJa_rangeCheck_59, 64) := rfl
theorem fJa_rangeCheck_73 : tbf tJa_rangeCheck 73 = some (bJa_rangeCheck_73, 74) := rfl
theorem kJa_rangeCheck_0 : Bok "java/util/Arrays" prog_36_method_30_code (0, bJa_rangeCheck_0, 5) := ⟨by decide +kernel, (List.forall_mem_cons.mpr ⟨sLI1, (List.forall_mem_cons.mpr ⟨sLI2, (List.forall_mem_cons.mpr ⟨sICle, (fun _ h => absurd h List.not_mem_nil)⟩)⟩)⟩)⟩
theorem kJa_rangeCheck_46 : Bok "java/util/Arrays" prog_36_method_30_code (46, bJa_rangeCheck_46, 50) := ⟨by decide +kernel, (List.forall_mem_cons.mpr ⟨sLI1, (List.forall_mem_cons.mpr ⟨sIFge, (fun _ h => absurd h List.not_mem_nil)⟩)⟩)⟩
theorem kJa_rangeCheck_59 : Bok "java/util/Arrays" prog_36_method_30_code (59, bJa_rangeCheck_59, 64) := ⟨by decide +kernel, (List.forall_mem_cons.mpr ⟨sLI2, (List.forall_mem_cons.mpr ⟨sLI0, (List.forall_mem_cons.mpr ⟨sICle, (fun _ h => absurd h List.not_mem_nil)⟩)⟩)⟩)⟩
theorem kJa_rangeCheck_73 : Bok "java/util/Arrays" prog_36_method_30_code (73, bJa_rangeCheck_73, 74) := ⟨by decide +kernel, (List.forall_mem_cons.mpr ⟨sRV, (fun _ h => absurd h List.not_mem_nil)⟩)⟩
theorem kJa_rangeCheck : ∀ q ∈ tJa_rangeCheck, Bok "java/util/Arrays" prog_36_method_30_code q := (List.forall_mem_cons.mpr ⟨kJa_rangeCheck_0, (List.forall_mem_cons.mpr ⟨kJa_rangeCheck_46, (List.forall_mem_cons.mpr ⟨kJa_rangeCheck_59, (List.forall_mem_cons.mpr ⟨kJa_rangeCheck_73, (fun _ h => absurd h List.not_mem_nil)⟩)⟩)⟩)⟩)
theorem rJa_rangeCheck : mJa_rangeCheck.2.2.2 = none := rfl
def mJa_fill : Mt := (⟨"java/util/Arrays", "fill", "([II)V"⟩, prog_36_method_103_code, 4, none)
theorem ok_Ja_fill : Mok mJa_fill := ⟨gtb_mem 538 (by decide +kernel) rfl, gtb_mem 104 (by decide +kernel) rfl, by decide +kernel, by decide⟩
def bJa_fill_0 : List Ir := [iC0, iSI2, iLA0, iALEN, iSI3]
def bJa_fill_5 : List Ir := [iLI2, iLI3, (iICge (13) 20)]
def bJa_fill_10 : List Ir := [iLA0, iLI2, iLI1, iIAST, (iINC2 1), (iGO (-12) 5)]
def bJa_fill_20 : List Ir := [iRV]
def tJa_fill : Tb := [(0, bJa_fill_0, 5), (5, bJa_fill_5, 10), (10, bJa_fill_10, 20), (20, bJa_fill_20, 21)]
theorem fJa_fill_0 : tbf tJa_fill 0 = some (bJa_fill_0, 5) := rfl
theorem fJa_fill_5 : tbf tJa_fill 5 = some (bJa_fill_5, 10) := rfl
theorem fJa_fill_10 : tbf tJa_fill 10 = some (bJa_fill_10, 20) := rfl
theorem fJa_fill_20 : tbf tJa_fill 20 = some (bJa_fill_20, 21) := rfl
theorem kJa_fill_0 : Bok "java/util/Arrays" prog_36_method_103_code (0, bJa_fill_0, 5) := ⟨by decide +kernel, (List.forall_mem_cons.mpr ⟨sC0, (List.forall_mem_cons.mpr ⟨sSI2, (List.forall_mem_cons.mpr ⟨sLA0, (List.forall_mem_cons.mpr ⟨sALEN, (List.forall_mem_cons.mpr ⟨sSI3, (fun _ h => absurd h List.not_mem_nil)⟩)⟩)⟩)⟩)⟩)⟩
theorem kJa_fill_5 : Bok "java/util/Arrays" prog_36_method_103_code (5, bJa_fill_5, 10) := ⟨by decide +kernel, (List.forall_mem_cons.mpr ⟨sLI2, (List.forall_mem_cons.mpr ⟨sLI3, (List.forall_mem_cons.mpr ⟨sICge, (fun _ h => absurd h List.not_mem_nil)⟩)⟩)⟩)⟩
theorem kJa_fill_10 : Bok "java/util/Arrays" prog_36_method_103_code (10, bJa_fill_10, 20) := ⟨by decide +kernel, (List.forall_mem_cons.mpr ⟨sLA0, (List.forall_mem_cons.mpr ⟨sLI2, (List.forall_mem_cons.mpr ⟨sLI1, (List.forall_mem_cons.mpr ⟨sIAST, (List.forall_mem_cons.mpr ⟨sINC2, (List.forall_mem_cons.mpr ⟨sGO, (fun _ h => absurd h List.not_mem_nil)⟩)⟩)⟩)⟩)⟩)⟩)⟩
theorem kJa_fill_20 : Bok "java/util/Arrays" prog_36_method_103_code (20, bJa_fill_20, 21) := ⟨by decide +kernel, (List.forall_mem_cons.mpr ⟨sRV, (fun _ h => absurd h List.not_mem_nil)⟩)⟩
theorem kJa_fill : ∀ q ∈ tJa_fill, Bok "java/util/Arrays" prog_36_method_103_code q := (List.forall_mem_cons.mpr ⟨kJa_fill_0, (List.forall_mem_cons.mpr ⟨kJa_fill_5, (List.forall_mem_cons.mpr ⟨kJa_fill_10, (List.forall_mem_cons.mpr ⟨kJa_fill_20, (fun _ h => absurd h List.not_mem_nil)⟩)⟩)⟩)⟩)
theorem rJa_fill : mJa_fill.2.2.2 = none := rfl
def mJa_fillR : Mt := (⟨"java/util/Arrays", "fill", "([IIII)V"⟩, prog_36_method_104_code, 5, none)
theorem ok_Ja_fillR : Mok mJa_fillR := ⟨gtb_mem 677 (by decide +kernel) rfl, gtb_mem 104 (by decide +kernel) rfl, by decide +kernel, by decide⟩
theorem lJa_s13 : Snd "java/util/Arrays" (iCS3 13 mJa_rangeCheck) := sCS3 ok_Ja_rangeCheck (gtb_mem 679 (by decide +kernel) rfl) (gtb_mem 678 (by decide +kernel) rfl)
def bJa_fillR_0 : List Ir := [iLA0, iALEN, iLI1, iLI2, (iCS3 13 mJa_rangeCheck), iLI1, iSI4]
def bJa_fillR_10 : List Ir := [iLI4, iLI2, (iICge (14) 27)]
def bJa_fillR_16 : List Ir := [iLA0, iLI4, iLI3, iIAST, (iINC4 1), (iGO (-14) 10)]
def bJa_fillR_27 : List Ir := [iRV]
def tJa_fillR : Tb := [(0, bJa_fillR_0, 10), (10, bJa_fillR_10, 16), (16, bJa_fillR_16, 27), (27, bJa_fillR_27, 28)]
theorem fJa_fillR_0 : tbf tJa_fillR 0 = some (bJa_fillR_0, 10) := rfl
theorem fJa_fillR_10 : tbf tJa_fillR 10 = some (bJa_fillR_10, 16) := rfl
theorem fJa_fillR_16 : tbf tJa_fillR 16 = some (bJa_fillR_16, 27) := rfl
theorem fJa_fillR_27 : tbf tJa_fillR 27 = some (bJa_fillR_27, 28) := rfl
theorem kJa_fillR_0 : Bok "java/util/Arrays" prog_36_method_104_code (0, bJa_fillR_0, 10) := ⟨by decide +kernel, (List.forall_mem_cons.mpr ⟨sLA0, (List.forall_mem_cons.mpr ⟨sALEN, (List.forall_mem_cons.mpr ⟨sLI1, (List.forall_mem_cons.mpr ⟨sLI2, (List.forall_mem_cons.mpr ⟨lJa_s13, (List.forall_mem_cons.mpr ⟨sLI1, (List.forall_mem_cons.mpr ⟨sSI4, (fun _ h => absurd h List.not_mem_nil)⟩)⟩)⟩)⟩)⟩)⟩)⟩)⟩
theorem kJa_fillR_10 : Bok "java/util/Arrays" prog_36_method_104_code (10, bJa_fillR_10, 16) := ⟨by decide +kernel, (List.forall_mem_cons.mpr ⟨sLI4, (List.forall_mem_cons.mpr ⟨sLI2, (List.forall_mem_cons.mpr ⟨sICge, (fun _ h => absurd h List.not_mem_nil)⟩)⟩)⟩)⟩
theorem kJa_fillR_16 : Bok "java/util/Arrays" prog_36_method_104_code (16, bJa_fillR_16, 27) := ⟨by decide +kernel, (List.forall_mem_cons.mpr ⟨sLA0, (List.forall_mem_cons.mpr ⟨sLI4, (List.forall_mem_cons.mpr ⟨sLI3, (List.forall_mem_cons.mpr ⟨sIAST, (List.forall_mem_cons.mpr ⟨sINC4, (List.forall_mem_cons.mpr ⟨sGO, (fun _ h => absurd h List.not_mem_nil)⟩)⟩)⟩)⟩)⟩)⟩)⟩
theorem kJa_fillR_27 : Bok "java/util/Arrays" prog_36_method_104_code (27, bJa_fillR_27, 28) := ⟨by decide +kernel, (List.forall_mem_cons.mpr ⟨sRV, (fun _ h => absurd h List.not_mem_nil)⟩)⟩
theorem kJa_fillR : ∀ q ∈ tJa_fillR, Bok "java/util/Arrays" prog_36_method_104_code q := (List.forall_mem_cons.mpr ⟨kJa_fillR_0, (List.forall_mem_cons.mpr ⟨kJa_fillR_10, (List.forall_mem_cons.mpr ⟨kJa_fillR_16, (List.forall_mem_cons.mpr ⟨kJa_fillR_27, (fun _ h => absurd h List.not_mem_nil)⟩)⟩)⟩)⟩)
theorem rJa_fillR : mJa_fillR.2.2.2 = none := rfl
def mJs_coder : Mt := (⟨"java/lang/String", "coder", "()B"⟩, prog_28_method_152_code, 1, some .byte)
theorem ok_Js_coder : Mok mJs_coder := ⟨gtb_mem 833 (by decide +kernel) rfl, gtb_mem 114 (by decide +kernel) rfl, by decide +kernel, by decide⟩
theorem lJs_t38 : Snd "java/lang/String" (iSB 38) := sSB (gtb_mem 834 (by decide +kernel) rfl)
theorem lJs_g15 : Snd "java/lang/String" (iSC 15) := sSC (gtb_mem 972 (by decide +kernel) rfl)
def bJs_coder_0 : List Ir := [(iSB 38), (iIFeq (10) 13)]
def bJs_coder_6 : List Ir := [iLA0, (iSC 15), (iGO (4) 14)]
def bJs_coder_13 : List Ir := [iC1]
def bJs_coder_14 : List Ir := [(iRN .byte)]
def tJs_coder : Tb := [(0, bJs_coder_0, 6), (6, bJs_coder_6, 13), (13, bJs_coder_13, 14), (14, bJs_coder_14, 15)]
theorem fJs_coder_0 : tbf tJs_coder 0 = some (bJs_coder_0, 6) := rfl
theorem fJs_coder_6 : tbf tJs_coder 6 = some (bJs_coder_6, 13) := rfl
theorem fJs_coder_13 : tbf tJs_coder 13 = some (bJs_coder_13, 14) := rfl
theorem fJs_coder_14 : tbf tJs_coder 14 = some (bJs_coder_14, 15) := rfl
theorem kJs_coder_0 : Bok "java/lang/String" prog_28_method_152_code (0, bJs_coder_0, 6) := ⟨by decide +kernel, (List.forall_mem_cons.mpr ⟨lJs_t38, (List.forall_mem_cons.mpr ⟨sIFeq, (fun _ h => absurd h List.not_mem_nil)⟩)⟩)⟩
theorem kJs_coder_6 : Bok "java/lang/String" prog_28_method_152_code (6, bJs_coder_6, 13) := ⟨by decide +kernel, (List.forall_mem_cons.mpr ⟨sLA0, (List.forall_mem_cons.mpr ⟨lJs_g15, (List.forall_mem_cons.mpr ⟨sGO, (fun _ h => absurd h List.not_mem_nil)⟩)⟩)⟩)⟩
theorem kJs_coder_13 : Bok "java/lang/String" prog_28_method_152_code (13, bJs_coder_13, 14) := ⟨by decide +kernel, (List.forall_mem_cons.mpr ⟨sC1, (fun _ h => absurd h List.not_mem_nil)⟩)⟩
theorem kJs_coder_14 : Bok "java/lang/String" prog_28_method_152_code (14, bJs_coder_14, 15) := ⟨by decide +kernel, (List.forall_mem_cons.mpr ⟨sRN, (fun _ h => absurd h List.not_mem_nil)⟩)⟩
theorem kJs_coder : ∀ q ∈ tJs_coder, Bok "java/lang/String" prog_28_method_152_code q := (List.forall_mem_cons.mpr ⟨kJs_coder_0, (List.forall_mem_cons.mpr ⟨kJs_coder_6, (List.forall_mem_cons.mpr ⟨kJs_coder_13, (List.forall_mem_cons.mpr ⟨kJs_coder_14, (fun _ h => absurd h List.not_mem_nil)⟩)⟩)⟩)⟩)
theorem rJs_coder : mJs_coder.2.2.2 = some .byte := rfl
def mJs_isLatin1 : Mt := (⟨"java/lang/String", "isLatin1", "()Z"⟩, prog_28_method_154_code, 1, some .boolean)
theorem ok_Js_isLatin1 : Mok mJs_isLatin1 := ⟨gtb_mem 1167 (by decide +kernel) rfl, gtb_mem 114 (by decide +kernel) rfl, by decide +kernel, by decide⟩
def bJs_isLatin1_0 : List Ir := [(iSB 38), (iIFeq (14) 17)]
def bJs_isLatin1_6 : List Ir := [iLA0, (iSC 15), (iIFne (7) 17)]
def bJs_isLatin1_13 : List Ir := [iC1, (iGO (4) 18)]
def bJs_isLatin1_17 : List Ir := [iC0]
def bJs_isLatin1_18 : List Ir := [iRI]
def tJs_isLatin1 : Tb := [(0, bJs_isLatin1_0, 6), (6, bJs_isLatin1_6, 13), (13, bJs_isLatin1_13, 17), (17, bJs_isLatin1_17, 18), (18, bJs_isLatin1_18, 19)]
theorem fJs_isLatin1_0 : tbf tJs_isLatin1 0 = some (bJs_isLatin1_0, 6) := rfl
theorem fJs_isLatin1_6 : tbf tJs_isLatin1 6 = some (bJs_isLatin1_6, 13) := rfl
theorem fJs_isLatin1_13 : tbf tJs_isLatin1 13 = some (bJs_isLatin1_13, 17) := rfl
theorem fJs_isLatin1_17 : tbf tJs_isLatin1 17 = some (bJs_isLatin1_17, 18) := rfl
theorem fJs_isLatin1_18 : tbf tJs_isLatin1 18 = some (bJs_isLatin1_18, 19) := rfl
theorem kJs_isLatin1_0 : Bok "java/lang/String" prog_28_method_154_code (0, bJs_isLatin1_0, 6) := ⟨by decide +kernel, (List.forall_mem_cons.mpr ⟨lJs_t38, (List.forall_mem_cons.mpr ⟨sIFeq, (fun _ h => absurd h List.not_mem_nil)⟩)⟩)⟩
theorem kJs_isLatin1_6 : Bok "java/lang/String" prog_28_method_154_code (6, bJs_isLatin1_6, 13) := ⟨by decide +kernel, (List.forall_mem_cons.mpr ⟨sLA0, (List.forall_mem_cons.mpr ⟨lJs_g15, (List.forall_mem_cons.mpr ⟨sIFne, (fun _ h => absurd h List.not_mem_nil)⟩)⟩)⟩)⟩
theorem kJs_isLatin1_13 : Bok "java/lang/String" prog_28_method_154_code (13, bJs_isLatin1_13, 17) := ⟨by decide +kernel, (List.forall_mem_cons.mpr ⟨sC1, (List.forall_mem_cons.mpr ⟨sGO, (fun _ h => absurd h List.not_mem_nil)⟩)⟩)⟩
theorem kJs_isLatin1_17 : Bok "java/lang/String" prog_28_method_154_code (17, bJs_isLatin1_17, 18) := ⟨by decide +kernel, (List.forall_mem_cons.mpr ⟨sC0, (fun _ h => absurd h List.not_mem_nil)⟩)⟩
theorem kJs_isLatin1_18 : Bok "java/lang/String" prog_28_method_154_code (18, bJs_isLatin1_18, 19) := ⟨by decide +kernel, (List.forall_mem_cons.mpr ⟨sRI, (fun _ h => absurd h List.not_mem_nil)⟩)⟩
theorem kJs_isLatin1 : ∀ q ∈ tJs_isLatin1, Bok "java/lang/String" prog_28_method_154_code q := (List.forall_mem_cons.mpr ⟨kJs_isLatin1_0, (List.forall_mem_cons.mpr ⟨kJs_isLatin1_6, (List.forall_mem_cons.mpr ⟨kJs_isLatin1_13, (List.forall_mem_cons.mpr ⟨kJs_isLatin1_17, (List.forall_mem_cons.mpr ⟨kJs_isLatin1_18, (fun _ h => absurd h List.not_mem_nil)⟩)⟩)⟩)⟩)⟩)
theorem rJs_isLatin1 : mJs_isLatin1.2.2.2 = some .boolean := rfl
def mJs_length : Mt := (⟨"java/lang/String", "length", "()I"⟩, prog_28_method_54_code, 1, some .int)
theorem ok_Js_length : Mok mJs_length := ⟨gtb_mem 829 (by decide +kernel) rfl, gtb_mem 114 (by decide +kernel) rfl, by decide +kernel, by decide⟩
theorem lJs_g9 : Snd "java/lang/String" (iSV 9) := sSV (gtb_mem 971 (by decide +kernel) rfl)
theorem lJs_v335 : Snd "java/lang/String" (iCT0 335 mJs_coder) := sCT0 rfl ok_Js_coder (gtb_mem 831 (by decide +kernel) rfl) (gtb_mem 832 (by decide +kernel) rfl) (gtb_mem 830 (by decide +kernel) rfl)
def bJs_length_0 : List Ir := [iLA0, (iSV 9), iSL, iLA0, (iCT0 335 mJs_coder), iSHR, iRI]
def tJs_length : Tb := [(0, bJs_length_0, 11)]
theorem fJs_length_0 : tbf tJs_length 0 = some (bJs_length_0, 11) := rfl
theorem kJs_length_0 : Bok "java/lang/String" prog_28_method_54_code (0, bJs_length_0, 11) := ⟨by decide +kernel, (List.forall_mem_cons.mpr ⟨sLA0, (List.forall_mem_cons.mpr ⟨lJs_g9, (List.forall_mem_cons.mpr ⟨sSL, (List.forall_mem_cons.mpr ⟨sLA0, (List.forall_mem_cons.mpr ⟨lJs_v335, (List.forall_mem_cons.mpr ⟨sSHR, (List.forall_mem_cons.mpr ⟨sRI, (fun _ h => absurd h List.not_mem_nil)⟩)⟩)⟩)⟩)⟩)⟩)⟩)⟩
theorem kJs_length : ∀ q ∈ tJs_length, Bok "java/lang/String" prog_28_method_54_code q := (List.forall_mem_cons.mpr ⟨kJs_length_0, (fun _ h => absurd h List.not_mem_nil)⟩)
theorem rJs_length : mJs_length.2.2.2 = some .int := rfl
def mJs_checkIndex : Mt := (⟨"java/lang/String", "checkIndex", "(II)V"⟩, prog_28_method_155_code, 2, none)
theorem ok_Js_checkIndex : Mok mJs_checkIndex := ⟨gtb_mem 1173 (by decide +kernel) rfl, gtb_mem 114 (by decide +kernel) rfl, by decide +kernel, by decide⟩
theorem lJs_t1053 : Snd "java/lang/String" (iSF 1053) := sSF (gtb_mem 812 (by decide +kernel) rfl)
def mJp_checkIndex : Mt := (⟨"jdk/internal/util/Preconditions", "checkIndex", "(IILjava/util/function/BiFunction;)I"⟩, prog_39_method_11_code, 3, some .int)
theorem ok_Jp_checkIndex : Mok mJp_checkIndex := ⟨gtb_mem 1176 (by decide +kernel) rfl, gtb_mem 116 (by decide +kernel) rfl, by decide +kernel, by decide⟩
theorem lJs_s1059 : Snd "java/lang/String" (iCS3 1059 mJp_checkIndex) := sCS3 ok_Jp_checkIndex (gtb_mem 1175 (by decide +kernel) rfl) (gtb_mem 1174 (by decide +kernel) rfl)
def bJs_checkIndex_0 : List Ir := [iLI0, iLI1, (iSF 1053), (iCS3 1059 mJp_checkIndex), iPOPi, iRV]
def tJs_checkIndex : Tb := [(0, bJs_checkIndex_0, 10)]
theorem fJs_checkIndex_0 : tbf tJs_checkIndex 0 = some (bJs_checkIndex_0, 10) := rfl
theorem kJs_checkIndex_0 : Bok "java/lang/String" prog_28_method_155_code (0, bJs_checkIndex_0, 10) := ⟨by decide +kernel, (List.forall_mem_cons.mpr ⟨sLI0, (List.forall_mem_cons.mpr ⟨sLI1, (List.forall_mem_cons.mpr ⟨lJs_t1053, (List.forall_mem_cons.mpr ⟨lJs_s1059, (List.forall_mem_cons.mpr ⟨sPOPi, (List.forall_mem_cons.mpr ⟨sRV, (fun _ h => absurd h List.not_mem_nil)⟩)⟩)⟩)⟩)⟩)⟩)⟩
theorem kJs_checkIndex : ∀ q ∈ tJs_checkIndex, Bok "java/lang/String" prog_28_method_155_code q := (List.forall_mem_cons.mpr ⟨kJs_checkIndex_0, (fun _ h => absurd h List.not_mem_nil)⟩)
theorem rJs_checkIndex : mJs_checkIndex.2.2.2 = none := rfl
def mJs_charAt : Mt := (⟨"java/lang/String", "charAt", "(I)C"⟩, prog_28_method_56_code, 2, some .char)
theorem ok_Js_charAt : Mok mJs_charAt := ⟨gtb_mem 1163 (by decide +kernel) rfl, gtb_mem 114 (by decide +kernel) rfl, by decide +kernel, by decide⟩
theorem lJs_v492 : Snd "java/lang/String" (iCT0 492 mJs_isLatin1) := sCT0 rfl ok_Js_isLatin1 (gtb_mem 1165 (by decide +kernel) rfl) (gtb_mem 1166 (by decide +kernel) rfl) (gtb_mem 1164 (by decide +kernel) rfl)
def mJl_charAt : Mt := (⟨"java/lang/StringLatin1", "charAt", "([BI)C"⟩, prog_30_method_2_code, 2, some .char)
theorem ok_Jl_charAt : Mok mJl_charAt := ⟨gtb_mem 1170 (by decide +kernel) rfl, gtb_mem 115 (by decide +kernel) rfl, by decide +kernel, by decide⟩
theorem lJs_s495 : Snd "java/lang/String" (iCS2 495 mJl_charAt) := sCS2 ok_Jl_charAt (gtb_mem 1169 (by decide +kernel) rfl) (gtb_mem 1168 (by decide +kernel) rfl)
def bJs_charAt_0 : List Ir := [iLA0, (iCT0 492 mJs_isLatin1), (iIFeq (12) 16)]
def bJs_charAt_7 : List Ir := [iLA0, (iSV 9), iLI1, (iCS2 495 mJl_charAt), (iRN .char)]
def tJs_charAt : Tb := [(0, bJs_charAt_0, 7), (7, bJs_charAt_7, 16)]
theorem fJs_charAt_0 : tbf tJs_charAt 0 = some (bJs_charAt_0, 7) := rfl
theorem fJs_charAt_7 : tbf tJs_charAt 7 = some (bJs_charAt_7, 16) := rfl
theorem kJs_charAt_0 : Bok "java/lang/String" prog_28_method_56_code (0, bJs_charAt_0, 7) := ⟨by decide +kernel, (List.forall_mem_cons.mpr ⟨sLA0, (List.forall_mem_cons.mpr ⟨lJs_v492, (List.forall_mem_cons.mpr ⟨sIFeq, (fun _ h => absurd h List.not_mem_nil)⟩)⟩)⟩)⟩
theorem kJs_charAt_7 : Bok "java/lang/String" prog_28_method_56_code (7, bJs_charAt_7, 16) := ⟨by decide +kernel, (List.forall_mem_cons.mpr ⟨sLA0, (List.forall_mem_cons.mpr ⟨lJs_g9, (List.forall_mem_cons.mpr ⟨sLI1, (List.forall_mem_cons.mpr ⟨lJs_s495, (List.forall_mem_cons.mpr ⟨sRN, (fun _ h => absurd h List.not_mem_nil)⟩)⟩)⟩)⟩)⟩)⟩
theorem kJs_charAt : ∀ q ∈ tJs_charAt, Bok "java/lang/String" prog_28_method_56_code q := (List.forall_mem_cons.mpr ⟨kJs_charAt_0, (List.forall_mem_cons.mpr ⟨kJs_charAt_7, (fun _ h => absurd h List.not_mem_nil)⟩)⟩)
theorem rJs_charAt : mJs_charAt.2.2.2 = some .char := rfl
def bJp_checkIndex_0 : List Ir := [iLI0, (iIFlt (8) 9)]
def bJp_checkIndex_4 : List Ir := [iLI0, iLI1, (iIClt (10) 16)]
def bJp_checkIndex_16 : List Ir := [iLI0, iRI]
def tJp_checkIndex : Tb := [(0, bJp_checkIndex_0, 4), (4, bJp_checkIndex_4, 9), (16, bJp_checkIndex_16, 18)]
theorem fJp_checkIndex_0 : tbf tJp_checkIndex 0 = some (bJp_checkIndex_0, 4) := rfl
theorem fJp_checkIndex_4 : tbf tJp_checkIndex 4 = some (bJp_checkIndex_4, 9) := rfl
theorem fJp_checkIndex_16 : tbf tJp_checkIndex 16 = some (bJp_checkIndex_16, 18) := rfl
theorem kJp_checkIndex_0 : Bok "jdk/internal/util/Preconditions" prog_39_method_11_code (0, bJp_checkIndex_0, 4) := ⟨by decide +kernel, (List.forall_mem_cons.mpr ⟨sLI0, (List.forall_mem_cons.mpr ⟨sIFlt, (fun _ h => absurd h List.not_mem_nil)⟩)⟩)⟩
theorem kJp_checkIndex_4 : Bok "jdk/internal/util/Preconditions" prog_39_method_11_code (4, bJp_checkIndex_4, 9) := ⟨by decide +kernel, (List.forall_mem_cons.mpr ⟨sLI0, (List.forall_mem_cons.mpr ⟨sLI1, (List.forall_mem_cons.mpr ⟨sIClt, (fun _ h => absurd h List.not_mem_nil)⟩)⟩)⟩)⟩
theorem kJp_checkIndex_16 : Bok "jdk/internal/util/Preconditions" prog_39_method_11_code (16, bJp_checkIndex_16, 18) := ⟨by decide +kernel, (List.forall_mem_cons.mpr ⟨sLI0, (List.forall_mem_cons.mpr ⟨sRI, (fun _ h => absurd h List.not_mem_nil)⟩)⟩)⟩
theorem kJp_checkIndex : ∀ q ∈ tJp_checkIndex, Bok "jdk/internal/util/Preconditions" prog_39_method_11_code q := (List.forall_mem_cons.mpr ⟨kJp_checkIndex_0, (List.forall_mem_cons.mpr ⟨kJp_checkIndex_4, (List.forall_mem_cons.mpr ⟨kJp_checkIndex_16, (fun _ h => absurd h List.not_mem_nil)⟩)⟩)⟩)
theorem rJp_checkIndex : mJp_checkIndex.2.2.2 = some .int := rfl
theorem lJl_s9 : Snd "java/lang/StringLatin1" (iCS2 9 mJs_checkIndex) := sCS2 ok_Js_checkIndex (gtb_mem 1172 (by decide +kernel) rfl) (gtb_mem 1171 (by decide +kernel) rfl)
def bJl_charAt_0 : List Ir := [iLI1, iLA0, iSL, (iCS2 9 mJs_checkIndex), iLA0, iLI1, iSA, (iSP 255), iAND, iI2C, (iRN .char)]
def tJl_charAt : Tb := [(0, bJl_charAt_0, 15)]
theorem fJl_charAt_0 : tbf tJl_charAt 0 = some (bJl_charAt_0, 15) := rfl
theorem kJl_charAt_0 : Bok "java/lang/StringLatin1" prog_30_method_2_code (0, bJl_charAt_0, 15) := ⟨by decide +kernel, (List.forall_mem_cons.mpr ⟨sLI1, (List.forall_mem_cons.mpr ⟨sLA0, (List.forall_mem_cons.mpr ⟨sSL, (List.forall_mem_cons.mpr ⟨lJl_s9, (List.forall_mem_cons.mpr ⟨sLA0, (List.forall_mem_cons.mpr ⟨sLI1, (List.forall_mem_cons.mpr ⟨sSA, (List.forall_mem_cons.mpr ⟨sSP, (List.forall_mem_cons.mpr ⟨sAND, (List.forall_mem_cons.mpr ⟨sI2C, (List.forall_mem_cons.mpr ⟨sRN, (fun _ h => absurd h List.not_mem_nil)⟩)⟩)⟩)⟩)⟩)⟩)⟩)⟩)⟩)⟩)⟩)⟩
theorem kJl_charAt : ∀ q ∈ tJl_charAt, Bok "java/lang/StringLatin1" prog_30_method_2_code q := (List.forall_mem_cons.mpr ⟨kJl_charAt_0, (fun _ h => absurd h List.not_mem_nil)⟩)
theorem rJl_charAt : mJl_charAt.2.2.2 = some .char := rfl
def mWo_isHerb : Mt := (⟨"HerbWaters$Word", "isHerb", "()Z"⟩, prog_12_method_4_code, 1, some .boolean)
theorem ok_Wo_isHerb : Mok mWo_isHerb := ⟨gtb_mem 1242 (by decide +kernel) rfl, gtb_mem 113 (by decide +kernel) rfl, by decide +kernel, by decide⟩
theorem lWo_g89 : Snd "HerbWaters$Word" (iGW 89 0) := sGWo (gtb_mem 2308 (by decide +kernel) rfl)
def bWo_isHerb_0 : List Ir := [iLA0, (iGW 89 0), (iIFlt (15) 19)]
def bWo_isHerb_7 : List Ir := [iLA0, (iGW 89 0), iC3, (iICge (7) 19)]
def bWo_isHerb_15 : List Ir := [iC1, (iGO (4) 20)]
def bWo_isHerb_19 : List Ir := [iC0]
def bWo_isHerb_20 : List Ir := [iRI]
def tWo_isHerb : Tb := [(0, bWo_isHerb_0, 7), (7, bWo_isHerb_7, 15), (15, bWo_isHerb_15, 19), (19, bWo_isHerb_19, 20), (20, bWo_isHerb_20, 21)]
theorem fWo_isHerb_0 : tbf tWo_isHerb 0 = some (bWo_isHerb_0, 7) := rfl
theorem fWo_isHerb_7 : tbf tWo_isHerb 7 = some (bWo_isHerb_7, 15) := rfl
theorem fWo_isHerb_15 : tbf tWo_isHerb 15 = some (bWo_isHerb_15, 19) := rfl
theorem fWo_isHerb_19 : tbf tWo_isHerb 19 = some (bWo_isHerb_19, 20) := rfl
theorem fWo_isHerb_20 : tbf tWo_isHerb 20 = some (bWo_isHerb_20, 21) := rfl
theorem kWo_isHerb_0 : Bok "HerbWaters$Word" prog_12_method_4_code (0, bWo_isHerb_0, 7) := ⟨by decide +kernel, (List.forall_mem_cons.mpr ⟨sLA0, (List.forall_mem_cons.mpr ⟨lWo_g89, (List.forall_mem_cons.mpr ⟨sIFlt, (fun _ h => absurd h List.not_mem_nil)⟩)⟩)⟩)⟩
theorem kWo_isHerb_7 : Bok "HerbWaters$Word" prog_12_method_4_code (7, bWo_isHerb_7, 15) := ⟨by decide +kernel, (List.forall_mem_cons.mpr ⟨sLA0, (List.forall_mem_cons.mpr ⟨lWo_g89, (List.forall_mem_cons.mpr ⟨sC3, (List.forall_mem_cons.mpr ⟨sICge, (fun _ h => absurd h List.not_mem_nil)⟩)⟩)⟩)⟩)⟩
theorem kWo_isHerb_15 : Bok "HerbWaters$Word" prog_12_method_4_code (15, bWo_isHerb_15, 19) := ⟨by decide +kernel, (List.forall_mem_cons.mpr ⟨sC1, (List.forall_mem_cons.mpr ⟨sGO, (fun _ h => absurd h List.not_mem_nil)⟩)⟩)⟩
theorem kWo_isHerb_19 : Bok "HerbWaters$Word" prog_12_method_4_code (19, bWo_isHerb_19, 20) := ⟨by decide +kernel, (List.forall_mem_cons.mpr ⟨sC0, (fun _ h => absurd h List.not_mem_nil)⟩)⟩
theorem kWo_isHerb_20 : Bok "HerbWaters$Word" prog_12_method_4_code (20, bWo_isHerb_20, 21) := ⟨by decide +kernel, (List.forall_mem_cons.mpr ⟨sRI, (fun _ h => absurd h List.not_mem_nil)⟩)⟩
theorem kWo_isHerb : ∀ q ∈ tWo_isHerb, Bok "HerbWaters$Word" prog_12_method_4_code q := (List.forall_mem_cons.mpr ⟨kWo_isHerb_0, (List.forall_mem_cons.mpr ⟨kWo_isHerb_7, (List.forall_mem_cons.mpr ⟨kWo_isHerb_15, (List.forall_mem_cons.mpr ⟨kWo_isHerb_19, (List.forall_mem_cons.mpr ⟨kWo_isHerb_20, (fun _ h => absurd h List.not_mem_nil)⟩)⟩)⟩)⟩)⟩)
theorem rWo_isHerb : mWo_isHerb.2.2.2 = some .boolean := rfl
def mTp_append : Mt := (⟨"HerbWaters$Tape", "append", "(I)V"⟩, prog_9_method_2_code, 3, none)
theorem ok_Tp_append : Mok mTp_append := ⟨gtb_mem 631 (by decide +kernel) rfl, gtb_mem 94 (by decide +kernel) rfl, by decide +kernel, by decide⟩
theorem lTp_g15 : Snd "HerbWaters$Tape" (iGI 15 7 1) := sGI _ rfl (gtb_mem 139 (by decide +kernel) rfl)
theorem lTp_g11 : Snd "HerbWaters$Tape" (iGR 11 7 0) := sGR _ rfl (gtb_mem 138 (by decide +kernel) rfl)
theorem lTp_p15 : Snd "HerbWaters$Tape" (iPI 15 7 1) := sPI _ rfl rfl (gtb_mem 139 (by decide +kernel) rfl)
def bTp_append_0 : List Ir := [(iBP 24), iSI2]
def bTp_append_3 : List Ir := [iLI2, (iIFlt (42) 46)]
def bTp_append_7 : List Ir := [iLA0, (iGI 15 7 1), (iSP 600), (iICge (32) 46)]
def bTp_append_17 : List Ir := [iLA0, (iGR 11 7 0), iLA0, (iGI 15 7 1), iLI1, iLI2, iSHR, iI2B, iBAST, iLA0, iDUPr, (iGI 15 7 1), iC1, iADD, (iPI 15 7 1), (iDEC2 8), (iGO (-40) 3)]
def bTp_append_46 : List Ir := [iRV]
def tTp_append : Tb := [(0, bTp_append_0, 3), (3, bTp_append_3, 7), (7, bTp_append_7, 17), (17, bTp_append_17, 46), (46, bTp_append_46, 47)]
theorem fTp_append_0 : tbf tTp_append 0 = some (bTp_append_0, 3) := rfl
theorem fTp_append_3 : tbf tTp_append 3 = some (bTp_append_3, 7) := rfl
theorem fTp_append_7 : tbf tTp_append 7 = some (bTp_append_7, 17) := rfl
theorem fTp_append_17 : tbf tTp_append 17 = some (bTp_append_17, 46) := rfl
theorem fTp_append_46 : tbf tTp_append 46 = some (bTp_append_46, 47) := rfl
theorem kTp_append_0 : Bok "HerbWaters$Tape" prog_9_method_2_code (0, bTp_append_0, 3) := ⟨by decide +kernel, (List.forall_mem_cons.mpr ⟨sBP, (List.forall_mem_cons.mpr ⟨sSI2, (fun _ h => absurd h List.not_mem_nil)⟩)⟩)⟩
theorem kTp_append_3 : Bok "HerbWaters$Tape" prog_9_method_2_code (3, bTp_append_3, 7) := ⟨by decide +kernel, (List.forall_mem_cons.mpr ⟨sLI2, (List.forall_mem_cons.mpr ⟨sIFlt, (fun _ h => absurd h List.not_mem_nil)⟩)⟩)⟩
theorem kTp_append_7 : Bok "HerbWaters$Tape" prog_9_method_2_code (7, bTp_append_7, 17) := ⟨by decide +kernel, (List.forall_mem_cons.mpr ⟨sLA0, (List.forall_mem_cons.mpr ⟨lTp_g15, (List.forall_mem_cons.mpr ⟨sSP, (List.forall_mem_cons.mpr ⟨sICge, (fun _ h => absurd h List.not_mem_nil)⟩)⟩)⟩)⟩)⟩
theorem kTp_append_17 : Bok "HerbWaters$Tape" prog_9_method_2_code (17, bTp_append_17, 46) := ⟨by decide +kernel, (List.forall_mem_cons.mpr ⟨sLA0, (List.forall_mem_cons.mpr ⟨lTp_g11, (List.forall_mem_cons.mpr ⟨sLA0, (List.forall_mem_cons.mpr ⟨lTp_g15, (List.forall_mem_cons.mpr ⟨sLI1, (List.forall_mem_cons.mpr ⟨sLI2, (List.forall_mem_cons.mpr ⟨sSHR, (List.forall_mem_cons.mpr ⟨sI2B, (List.forall_mem_cons.mpr ⟨sBAST, (List.forall_mem_cons.mpr ⟨sLA0, (List.forall_mem_cons.mpr ⟨sDUPr, (List.forall_mem_cons.mpr ⟨lTp_g15, (List.forall_mem_cons.mpr ⟨sC1, (List.forall_mem_cons.mpr ⟨sADD, (List.forall_mem_cons.mpr ⟨lTp_p15, (List.forall_mem_cons.mpr ⟨sDEC2, (List.forall_mem_cons.mpr ⟨sGO, (fun _ h => absurd h List.not_mem_nil)⟩)⟩)⟩)⟩)⟩)⟩)⟩)⟩)⟩)⟩)⟩)⟩)⟩)⟩)⟩)⟩)⟩)⟩
theorem kTp_append_46 : Bok "HerbWaters$Tape" prog_9_method_2_code (46, bTp_append_46, 47) := ⟨by decide +kernel, (List.forall_mem_cons.mpr ⟨sRV, (fun _ h => absurd h List.not_mem_nil)⟩)⟩
theorem kTp_append : ∀ q ∈ tTp_append, Bok "HerbWaters$Tape" prog_9_method_2_code q := (List.forall_mem_cons.mpr ⟨kTp_append_0, (List.forall_mem_cons.mpr ⟨kTp_append_3, (List.forall_mem_cons.mpr ⟨kTp_append_7, (List.forall_mem_cons.mpr ⟨kTp_append_17, (List.forall_mem_cons.mpr ⟨kTp_append_46, (fun _ h => absurd h List.not_mem_nil)⟩)⟩)⟩)⟩)⟩)
theorem rTp_append : mTp_append.2.2.2 = none := rfl
def mTp_open : Mt := (⟨"HerbWaters$Tape", "open", "(I)V"⟩, prog_9_method_3_code, 2, none)
theorem ok_Tp_open : Mok mTp_open := ⟨gtb_mem 1126 (by decide +kernel) rfl, gtb_mem 94 (by decide +kernel) rfl, by decide +kernel, by decide⟩
theorem lTp_s34 : Snd "HerbWaters$Tape" (iMIN 34) := sMIN (gtb_mem 1127 (by decide +kernel) rfl) (gtb_mem 792 (by decide +kernel) rfl) (gtb_mem 105 (by decide +kernel) rfl) (gtb_mem 793 (by decide +kernel) rfl)
theorem lTp_p19 : Snd "HerbWaters$Tape" (iPI 19 7 2) := sPI _ rfl rfl (gtb_mem 141 (by decide +kernel) rfl)
theorem lTp_p22 : Snd "HerbWaters$Tape" (iPI 22 7 3) := sPI _ rfl rfl (gtb_mem 142 (by decide +kernel) rfl)
theorem lTp_p25 : Snd "HerbWaters$Tape" (iPI 25 7 4) := sPI _ rfl rfl (gtb_mem 143 (by decide +kernel) rfl)
theorem lTp_p28 : Snd "HerbWaters$Tape" (iPI 28 7 5) := sPI _ rfl rfl (gtb_mem 144 (by decide +kernel) rfl)
theorem lTp_p31 : Snd "HerbWaters$Tape" (iPI 31 7 6) := sPI _ rfl rfl (gtb_mem 146 (by decide +kernel) rfl)
def bTp_open_0 : List Ir := [iLA0, iLI1, iLA0, (iGI 15 7 1), (iMIN 34), (iPI 19 7 2), iLA0, iC0, (iPI 22 7 3), iLA0, iC0, (iPI 25 7 4), iLA0, iC0, (iPI 28 7 5), iLA0, iCm1, (iPI 31 7 6), iRV]
def tTp_open : Tb := [(0, bTp_open_0, 33)]
theorem fTp_open_0 : tbf tTp_open 0 = some (bTp_open_0, 33) := rfl
theorem kTp_open_0 : Bok "HerbWaters$Tape" prog_9_method_3_code (0, bTp_open_0, 33) := ⟨by decide +kernel, (List.forall_mem_cons.mpr ⟨sLA0, (List.forall_mem_cons.mpr ⟨sLI1, (List.forall_mem_cons.mpr ⟨sLA0, (List.forall_mem_cons.mpr ⟨lTp_g15, (List.forall_mem_cons.mpr ⟨lTp_s34, (List.forall_mem_cons.mpr ⟨lTp_p19, (List.forall_mem_cons.mpr ⟨sLA0, (List.forall_mem_cons.mpr ⟨sC0, (List.forall_mem_cons.mpr ⟨lTp_p22, (List.forall_mem_cons.mpr ⟨sLA0, (List.forall_mem_cons.mpr ⟨sC0, (List.forall_mem_cons.mpr ⟨lTp_p25, (List.forall_mem_cons.mpr ⟨sLA0, (List.forall_mem_cons.mpr ⟨sC0, (List.forall_mem_cons.mpr ⟨lTp_p28, (List.forall_mem_cons.mpr ⟨sLA0, (List.forall_mem_cons.mpr ⟨sCm1, (List.forall_mem_cons.mpr ⟨lTp_p31, (List.forall_mem_cons.mpr ⟨sRV, (fun _ h => absurd h List.not_mem_nil)⟩)⟩)⟩)⟩)⟩)⟩)⟩)⟩)⟩)⟩)⟩)⟩)⟩)⟩)⟩)⟩)⟩)⟩)⟩)⟩
theorem kTp_open : ∀ q ∈ tTp_open, Bok "HerbWaters$Tape" prog_9_method_3_code q := (List.forall_mem_cons.mpr ⟨kTp_open_0, (fun _ h => absurd h List.not_mem_nil)⟩)
theorem rTp_open : mTp_open.2.2.2 = none := rfl
def mTp_close : Mt := (⟨"HerbWaters$Tape", "close", "()V"⟩, prog_9_method_4_code, 1, none)
theorem ok_Tp_close : Mok mTp_close := ⟨gtb_mem 1264 (by decide +kernel) rfl, gtb_mem 94 (by decide +kernel) rfl, by decide +kernel, by decide⟩
def bTp_close_0 : List Ir := [iLA0, iC0, (iPI 15 7 1), iRV]
def tTp_close : Tb := [(0, bTp_close_0, 6)]
theorem fTp_close_0 : tbf tTp_close 0 = some (bTp_close_0, 6) := rfl
theorem kTp_close_0 : Bok "HerbWaters$Tape" prog_9_method_4_code (0, bTp_close_0, 6) := ⟨by decide +kernel, (List.forall_mem_cons.mpr ⟨sLA0, (List.forall_mem_cons.mpr ⟨sC0, (List.forall_mem_cons.mpr ⟨lTp_p15, (List.forall_mem_cons.mpr ⟨sRV, (fun _ h => absurd h List.not_mem_nil)⟩)⟩)⟩)⟩)⟩
theorem kTp_close : ∀ q ∈ tTp_close, Bok "HerbWaters$Tape" prog_9_method_4_code q := (List.forall_mem_cons.mpr ⟨kTp_close_0, (fun _ h => absurd h List.not_mem_nil)⟩)
theorem rTp_close : mTp_close.2.2.2 = none := rfl
def mTp_fails : Mt := (⟨"HerbWaters$Tape", "fails", "(I)Z"⟩, prog_9_method_5_code, 2, some .boolean)
theorem ok_Tp_fails : Mok mTp_fails := ⟨gtb_mem 1189 (by decide +kernel) rfl, gtb_mem 94 (by decide +kernel) rfl, by decide +kernel, by decide⟩
theorem lTp_g25 : Snd "HerbWaters$Tape" (iGI 25 7 4) := sGI _ rfl (gtb_mem 143 (by decide +kernel) rfl)
def bTp_fails_0 : List Ir := [iLA0, iLI1, (iPI 28 7 5), iLA0, iLA0, (iGI 25 7 4), (iPI 31 7 6), iC0, iRI]
def tTp_fails : Tb := [(0, bTp_fails_0, 15)]
theorem fTp_fails_0 : tbf tTp_fails 0 = some (bTp_fails_0, 15) := rfl
theorem kTp_fails_0 : Bok "HerbWaters$Tape" prog_9_method_5_code (0, bTp_fails_0, 15) := ⟨by decide +kernel, (List.forall_mem_cons.mpr ⟨sLA0, (List.forall_mem_cons.mpr ⟨sLI1, (List.forall_mem_cons.mpr ⟨lTp_p28, (List.forall_mem_cons.mpr ⟨sLA0, (List.forall_mem_cons.mpr ⟨sLA0, (List.forall_mem_cons.mpr ⟨lTp_g25, (List.forall_mem_cons.mpr ⟨lTp_p31, (List.forall_mem_cons.mpr ⟨sC0, (List.forall_mem_cons.mpr ⟨sRI, (fun _ h => absurd h List.not_mem_nil)⟩)⟩)⟩)⟩)⟩)⟩)⟩)⟩)⟩)⟩
theorem kTp_fails : ∀ q ∈ tTp_fails, Bok "HerbWaters$Tape" prog_9_method_5_code q := (List.forall_mem_cons.mpr ⟨kTp_fails_0, (fun _ h => absurd h List.not_mem_nil)⟩)
theorem rTp_fails : mTp_fails.2.2.2 = some .boolean := rfl
def mTp_seek : Mt := (⟨"HerbWaters$Tape", "seek", "()V"⟩, prog_9_method_6_code, 1, none)
theorem ok_Tp_seek : Mok mTp_seek := ⟨gtb_mem 1144 (by decide +kernel) rfl, gtb_mem 94 (by decide +kernel) rfl, by decide +kernel, by decide⟩
theorem lTp_g22 : Snd "HerbWaters$Tape" (iGI 22 7 3) := sGI _ rfl (gtb_mem 142 (by decide +kernel) rfl)
theorem lTp_g19 : Snd "HerbWaters$Tape" (iGI 19 7 2) := sGI _ rfl (gtb_mem 141 (by decide +kernel) rfl)
def bTp_seek_0 : List Ir := [iLA0, (iGI 22 7 3), iLA0, (iGI 19 7 2), (iICge (30) 38)]
def bTp_seek_11 : List Ir := [iLA0, (iGR 11 7 0), iLA0, (iGI 22 7 3), iBALD, (iBP 32), (iICne (16) 38)]
def bTp_seek_25 : List Ir := [iLA0, iDUPr, (iGI 22 7 3), iC1, iADD, (iPI 22 7 3), (iGO (-35) 0)]
def bTp_seek_38 : List Ir := [iLA0, iLA0, (iGI 22 7 3), (iPI 25 7 4), iRV]
def tTp_seek : Tb := [(0, bTp_seek_0, 11), (11, bTp_seek_11, 25), (25, bTp_seek_25, 38), (38, bTp_seek_38, 47)]
theorem fTp_seek_0 : tbf tTp_seek 0 = some (bTp_seek_0, 11) := rfl
theorem fTp_seek_11 : tbf tTp_seek 11 = some (bTp_seek_11, 25) := rfl
theorem fTp_seek_25 : tbf tTp_seek 25 = some (bTp_seek_25, 38) := rfl
theorem fTp_seek_38 : tbf tTp_seek 38 = some (bTp_seek_38, 47) := rfl
theorem kTp_seek_0 : Bok "HerbWaters$Tape" prog_9_method_6_code (0, bTp_seek_0, 11) := ⟨by decide +kernel, (List.forall_mem_cons.mpr ⟨sLA0, (List.forall_mem_cons.mpr ⟨lTp_g22, (List.forall_mem_cons.mpr ⟨sLA0, (List.forall_mem_cons.mpr ⟨lTp_g19, (List.forall_mem_cons.mpr ⟨sICge, (fun _ h => absurd h List.not_mem_nil)⟩)⟩)⟩)⟩)⟩)⟩
theorem kTp_seek_11 : Bok "HerbWaters$Tape" prog_9_method_6_code (11, bTp_seek_11, 25) := ⟨by decide +kernel, (List.forall_mem_cons.mpr ⟨sLA0, (List.forall_mem_cons.mpr ⟨lTp_g11, (List.forall_mem_cons.mpr ⟨sLA0, (List.forall_mem_cons.mpr ⟨lTp_g22, (List.forall_mem_cons.mpr ⟨sBALD, (List.forall_mem_cons.mpr ⟨sBP, (List.forall_mem_cons.mpr ⟨sICne, (fun _ h => absurd h List.not_mem_nil)⟩)⟩)⟩)⟩)⟩)⟩)⟩)⟩
theorem kTp_seek_25 : Bok "HerbWaters$Tape" prog_9_method_6_code (25, bTp_seek_25, 38) := ⟨by decide +kernel, (List.forall_mem_cons.mpr ⟨sLA0, (List.forall_mem_cons.mpr ⟨sDUPr, (List.forall_mem_cons.mpr ⟨lTp_g22, (List.forall_mem_cons.mpr ⟨sC1, (List.forall_mem_cons.mpr ⟨sADD, (List.forall_mem_cons.mpr ⟨lTp_p22, (List.forall_mem_cons.mpr ⟨sGO, (fun _ h => absurd h List.not_mem_nil)⟩)⟩)⟩)⟩)⟩)⟩)⟩)⟩
theorem kTp_seek_38 : Bok "HerbWaters$Tape" prog_9_method_6_code (38, bTp_seek_38, 47) := ⟨by decide +kernel, (List.forall_mem_cons.mpr ⟨sLA0, (List.forall_mem_cons.mpr ⟨sLA0, (List.forall_mem_cons.mpr ⟨lTp_g22, (List.forall_mem_cons.mpr ⟨lTp_p25, (List.forall_mem_cons.mpr ⟨sRV, (fun _ h => absurd h List.not_mem_nil)⟩)⟩)⟩)⟩)⟩)⟩
theorem kTp_seek : ∀ q ∈ tTp_seek, Bok "HerbWaters$Tape" prog_9_method_6_code q := (List.forall_mem_cons.mpr ⟨kTp_seek_0, (List.forall_mem_cons.mpr ⟨kTp_seek_11, (List.forall_mem_cons.mpr ⟨kTp_seek_25, (List.forall_mem_cons.mpr ⟨kTp_seek_38, (fun _ h => absurd h List.not_mem_nil)⟩)⟩)⟩)⟩)
theorem rTp_seek : mTp_seek.2.2.2 = none := rfl
def mTp_isEnded : Mt := (⟨"HerbWaters$Tape", "isEnded", "()Z"⟩, prog_9_method_7_code, 1, some .boolean)
theorem ok_Tp_isEnded : Mok mTp_isEnded := ⟨gtb_mem 1140 (by decide +kernel) rfl, gtb_mem 94 (by decide +kernel) rfl, by decide +kernel, by decide⟩
theorem lTp_v40 : Snd "HerbWaters$Tape" (iCV0 40 7 mTp_seek) := sCV0 _ rfl rfl ok_Tp_seek (gtb_mem 1143 (by decide +kernel) rfl) (gtb_mem 16 (by decide +kernel) rfl) (gtb_mem 1141 (by decide +kernel) rfl)
def bTp_isEnded_0 : List Ir := [iLA0, (iCV0 40 7 mTp_seek), iLA0, (iGI 22 7 3), iLA0, (iGI 19 7 2), (iIClt (7) 19)]
def bTp_isEnded_15 : List Ir := [iC1, (iGO (4) 20)]
def bTp_isEnded_19 : List Ir := [iC0]
def bTp_isEnded_20 : List Ir := [iRI]
def tTp_isEnded : Tb := [(0, bTp_isEnded_0, 15), (15, bTp_isEnded_15, 19), (19, bTp_isEnded_19, 20), (20, bTp_isEnded_20, 21)]
theorem fTp_isEnded_0 : tbf tTp_isEnded 0 = some (bTp_isEnded_0, 15) := rfl
theorem fTp_isEnded_15 : tbf tTp_isEnded 15 = some (bTp_isEnded_15, 19) := rfl
theorem fTp_isEnded_19 : tbf tTp_isEnded 19 = some (bTp_isEnded_19, 20) := rfl
theorem fTp_isEnded_20 : tbf tTp_isEnded 20 = some (bTp_isEnded_20, 21) := rfl
theorem kTp_isEnded_0 : Bok "HerbWaters$Tape" prog_9_method_7_code (0, bTp_isEnded_0, 15) := ⟨by decide +kernel, (List.forall_mem_cons.mpr ⟨sLA0, (List.forall_mem_cons.mpr ⟨lTp_v40, (List.forall_mem_cons.mpr ⟨sLA0, (List.forall_mem_cons.mpr ⟨lTp_g22, (List.forall_mem_cons.mpr ⟨sLA0, (List.forall_mem_cons.mpr ⟨lTp_g19, (List.forall_mem_cons.mpr ⟨sIClt, (fun _ h => absurd h List.not_mem_nil)⟩)⟩)⟩)⟩)⟩)⟩)⟩)⟩
theorem kTp_isEnded_15 : Bok "HerbWaters$Tape" prog_9_method_7_code (15, bTp_isEnded_15, 19) := ⟨by decide +kernel, (List.forall_mem_cons.mpr ⟨sC1, (List.forall_mem_cons.mpr ⟨sGO, (fun _ h => absurd h List.not_mem_nil)⟩)⟩)⟩
theorem kTp_isEnded_19 : Bok "HerbWaters$Tape" prog_9_method_7_code (19, bTp_isEnded_19, 20) := ⟨by decide +kernel, (List.forall_mem_cons.mpr ⟨sC0, (fun _ h => absurd h List.not_mem_nil)⟩)⟩
theorem kTp_isEnded_20 : Bok "HerbWaters$Tape" prog_9_method_7_code (20, bTp_isEnded_20, 21) := ⟨by decide +kernel, (List.forall_mem_cons.mpr ⟨sRI, (fun _ h => absurd h List.not_mem_nil)⟩)⟩
theorem kTp_isEnded : ∀ q ∈ tTp_isEnded, Bok "HerbWaters$Tape" prog_9_method_7_code q := (List.forall_mem_cons.mpr ⟨kTp_isEnded_0, (List.forall_mem_cons.mpr ⟨kTp_isEnded_15, (List.forall_mem_cons.mpr ⟨kTp_isEnded_19, (List.forall_mem_cons.mpr ⟨kTp_isEnded_20, (fun _ h => absurd h List.not_mem_nil)⟩)⟩)⟩)⟩)
theorem rTp_isEnded : mTp_isEnded.2.2.2 = some .boolean := rfl
def mTp_sign : Mt := (⟨"HerbWaters$Tape", "sign", "(C)Z"⟩, prog_9_method_8_code, 2, some .boolean)
theorem ok_Tp_sign : Mok mTp_sign := ⟨gtb_mem 1260 (by decide +kernel) rfl, gtb_mem 94 (by decide +kernel) rfl, by decide +kernel, by decide⟩
def bTp_sign_0 : List Ir := [iLA0, (iCV0 40 7 mTp_seek), iLA0, (iGI 22 7 3), iLA0, (iGI 19 7 2), (iICge (28) 40)]
def bTp_sign_15 : List Ir := [iLA0, (iGR 11 7 0), iLA0, (iGI 22 7 3), iBALD, iLI1, (iICne (15) 40)]
def bTp_sign_28 : List Ir := [iLA0, iDUPr, (iGI 22 7 3), iC1, iADD, (iPI 22 7 3), iC1, iRI]
def bTp_sign_40 : List Ir := [iC0, iRI]
def tTp_sign : Tb := [(0, bTp_sign_0, 15), (15, bTp_sign_15, 28), (28, bTp_sign_28, 40), (40, bTp_sign_40, 42)]
theorem fTp_sign_0 : tbf tTp_sign 0 = some (bTp_sign_0, 15) := rfl
theorem fTp_sign_15 : tbf tTp_sign 15 = some (bTp_sign_15, 28) := rfl
theorem fTp_sign_28 : tbf tTp_sign 28 = some (bTp_sign_28, 40) := rfl
theorem fTp_sign_40 : tbf tTp_sign 40 = some (bTp_sign_40, 42) := rfl
theorem kTp_sign_0 : Bok "HerbWaters$Tape" prog_9_method_8_code (0, bTp_sign_0, 15) := ⟨by decide +kernel, (List.forall_mem_cons.mpr ⟨sLA0, (List.forall_mem_cons.mpr ⟨lTp_v40, (List.forall_mem_cons.mpr ⟨sLA0, (List.forall_mem_cons.mpr ⟨lTp_g22, (List.forall_mem_cons.mpr ⟨sLA0, (List.forall_mem_cons.mpr ⟨lTp_g19, (List.forall_mem_cons.mpr ⟨sICge, (fun _ h => absurd h List.not_mem_nil)⟩)⟩)⟩)⟩)⟩)⟩)⟩)⟩
theorem kTp_sign_15 : Bok "HerbWaters$Tape" prog_9_method_8_code (15, bTp_sign_15, 28) := ⟨by decide +kernel, (List.forall_mem_cons.mpr ⟨sLA0, (List.forall_mem_cons.mpr ⟨lTp_g11, (List.forall_mem_cons.mpr ⟨sLA0, (List.forall_mem_cons.mpr ⟨lTp_g22, (List.forall_mem_cons.mpr ⟨sBALD, (List.forall_mem_cons.mpr ⟨sLI1, (List.forall_mem_cons.mpr ⟨sICne, (fun _ h => absurd h List.not_mem_nil)⟩)⟩)⟩)⟩)⟩)⟩)⟩)⟩
theorem kTp_sign_28 : Bok "HerbWaters$Tape" prog_9_method_8_code (28, bTp_sign_28, 40) := ⟨by decide +kernel, (List.forall_mem_cons.mpr ⟨sLA0, (List.forall_mem_cons.mpr ⟨sDUPr, (List.forall_mem_cons.mpr ⟨lTp_g22, (List.forall_mem_cons.mpr ⟨sC1, (List.forall_mem_cons.mpr ⟨sADD, (List.forall_mem_cons.mpr ⟨lTp_p22, (List.forall_mem_cons.mpr ⟨sC1, (List.forall_mem_cons.mpr ⟨sRI, (fun _ h => absurd h List.not_mem_nil)⟩)⟩)⟩)⟩)⟩)⟩)⟩)⟩)⟩
theorem kTp_sign_40 : Bok "HerbWaters$Tape" prog_9_method_8_code (40, bTp_sign_40, 42) := ⟨by decide +kernel, (List.forall_mem_cons.mpr ⟨sC0, (List.forall_mem_cons.mpr ⟨sRI, (fun _ h => absurd h List.not_mem_nil)⟩)⟩)⟩
theorem kTp_sign : ∀ q ∈ tTp_sign, Bok "HerbWaters$Tape" prog_9_method_8_code q := (List.forall_mem_cons.mpr ⟨kTp_sign_0, (List.forall_mem_cons.mpr ⟨kTp_sign_15, (List.forall_mem_cons.mpr ⟨kTp_sign_28, (List.forall_mem_cons.mpr ⟨kTp_sign_40, (fun _ h => absurd h List.not_mem_nil)⟩)⟩)⟩)⟩)
theorem rTp_sign : mTp_sign.2.2.2 = some .boolean := rfl
def mTp_needSign : Mt := (⟨"HerbWaters$Tape", "needSign", "(C)Z"⟩, prog_9_method_9_code, 2, some .boolean)
theorem ok_Tp_needSign : Mok mTp_needSign := ⟨gtb_mem 1256 (by decide +kernel) rfl, gtb_mem 94 (by decide +kernel) rfl, by decide +kernel, by decide⟩
theorem lTp_v43 : Snd "HerbWaters$Tape" (iCV1 43 7 mTp_sign) := sCV1 _ rfl rfl ok_Tp_sign (gtb_mem 1258 (by decide +kernel) rfl) (gtb_mem 1259 (by decide +kernel) rfl) (gtb_mem 1257 (by decide +kernel) rfl)
theorem lTp_v47 : Snd "HerbWaters$Tape" (iCV1 47 7 mTp_fails) := sCV1 _ rfl rfl ok_Tp_fails (gtb_mem 1187 (by decide +kernel) rfl) (gtb_mem 1188 (by decide +kernel) rfl) (gtb_mem 1208 (by decide +kernel) rfl)
def bTp_needSign_0 : List Ir := [iLA0, iLI1, (iCV1 43 7 mTp_sign), (iIFne (11) 16)]
def bTp_needSign_8 : List Ir := [iLA0, iC1, (iCV1 47 7 mTp_fails), (iIFeq (7) 20)]
def bTp_needSign_16 : List Ir := [iC1, (iGO (4) 21)]
def bTp_needSign_20 : List Ir := [iC0]
def bTp_needSign_21 : List Ir := [iRI]
def tTp_needSign : Tb := [(0, bTp_needSign_0, 8), (8, bTp_needSign_8, 16), (16, bTp_needSign_16, 20), (20, bTp_needSign_20, 21), (21, bTp_needSign_21, 22)]
theorem fTp_needSign_0 : tbf tTp_needSign 0 = some (bTp_needSign_0, 8) := rfl
theorem fTp_needSign_8 : tbf tTp_needSign 8 = some (bTp_needSign_8, 16) := rfl
theorem fTp_needSign_16 : tbf tTp_needSign 16 = some (bTp_needSign_16, 20) := rfl
theorem fTp_needSign_20 : tbf tTp_needSign 20 = some (bTp_needSign_20, 21) := rfl
theorem fTp_needSign_21 : tbf tTp_needSign 21 = some (bTp_needSign_21, 22) := rfl
theorem kTp_needSign_0 : Bok "HerbWaters$Tape" prog_9_method_9_code (0, bTp_needSign_0, 8) := ⟨by decide +kernel, (List.forall_mem_cons.mpr ⟨sLA0, (List.forall_mem_cons.mpr ⟨sLI1, (List.forall_mem_cons.mpr ⟨lTp_v43, (List.forall_mem_cons.mpr ⟨sIFne, (fun _ h => absurd h List.not_mem_nil)⟩)⟩)⟩)⟩)⟩
theorem kTp_needSign_8 : Bok "HerbWaters$Tape" prog_9_method_9_code (8, bTp_needSign_8, 16) := ⟨by decide +kernel, (List.forall_mem_cons.mpr ⟨sLA0, (List.forall_mem_cons.mpr ⟨sC1, (List.forall_mem_cons.mpr ⟨lTp_v47, (List.forall_mem_cons.mpr ⟨sIFeq, (fun _ h => absurd h List.not_mem_nil)⟩)⟩)⟩)⟩)⟩
theorem kTp_needSign_16 : Bok "HerbWaters$Tape" prog_9_method_9_code (16, bTp_needSign_16, 20) := ⟨by decide +kernel, (List.forall_mem_cons.mpr ⟨sC1, (List.forall_mem_cons.mpr ⟨sGO, (fun _ h => absurd h List.not_mem_nil)⟩)⟩)⟩
theorem kTp_needSign_20 : Bok "HerbWaters$Tape" prog_9_method_9_code (20, bTp_needSign_20, 21) := ⟨by decide +kernel, (List.forall_mem_cons.mpr ⟨sC0, (fun _ h => absurd h List.not_mem_nil)⟩)⟩
theorem kTp_needSign_21 : Bok "HerbWaters$Tape" prog_9_method_9_code (21, bTp_needSign_21, 22) := ⟨by decide +kernel, (List.forall_mem_cons.mpr ⟨sRI, (fun _ h => absurd h List.not_mem_nil)⟩)⟩
theorem kTp_needSign : ∀ q ∈ tTp_needSign, Bok "HerbWaters$Tape" prog_9_method_9_code q := (List.forall_mem_cons.mpr ⟨kTp_needSign_0, (List.forall_mem_cons.mpr ⟨kTp_needSign_8, (List.forall_mem_cons.mpr ⟨kTp_needSign_16, (List.forall_mem_cons.mpr ⟨kTp_needSign_20, (List.forall_mem_cons.mpr ⟨kTp_needSign_21, (fun _ h => absurd h List.not_mem_nil)⟩)⟩)⟩)⟩)⟩)
theorem rTp_needSign : mTp_needSign.2.2.2 = some .boolean := rfl
def mTp_nextWord : Mt := (⟨"HerbWaters$Tape", "nextWord", "()LHerbWaters$Word;"⟩, prog_9_method_10_code, 5, some (.object "HerbWaters$Word"))
theorem ok_Tp_nextWord : Mok mTp_nextWord := ⟨gtb_mem 1152 (by decide +kernel) rfl, gtb_mem 94 (by decide +kernel) rfl, by decide +kernel, by decide⟩
theorem lTp_t51 : Snd "HerbWaters$Tape" (iAL 51) := sAL (List.mem_filter.mpr ⟨List.mem_of_getElem? (i := 1153) (by decide +kernel), rfl⟩)
theorem lTp_g57 : Snd "HerbWaters$Tape" (iGW 57 2) := sGW "HerbWaters" (List.mem_filter.mpr ⟨List.mem_of_getElem? (i := 2306) (by decide +kernel), rfl⟩)
def mTp_stands : Mt := (⟨"HerbWaters$Tape", "stands", "(Ljava/lang/String;)Z"⟩, prog_9_method_11_code, 3, some .boolean)
theorem ok_Tp_stands : Mok mTp_stands := ⟨gtb_mem 1158 (by decide +kernel) rfl, gtb_mem 94 (by decide +kernel) rfl, by decide +kernel, by decide⟩
theorem lTp_v61 : Snd "HerbWaters$Tape" (iCV1 61 7 mTp_stands) := sCV1 _ rfl rfl ok_Tp_stands (gtb_mem 1157 (by decide +kernel) rfl) (gtb_mem 18 (by decide +kernel) rfl) (gtb_mem 1155 (by decide +kernel) rfl)
theorem lTp_t65 : Snd "HerbWaters$Tape" (iGS 65 19) := sGS (gtb_mem 1184 (by decide +kernel) rfl)
def bTp_nextWord_0 : List Ir := [iLA0, (iCV0 40 7 mTp_seek)]
def bTp_nextWord_4 : List Ir := [iLA0, (iGI 22 7 3), iLA0, (iGI 19 7 2), (iICge (44) 56)]
def bTp_nextWord_15 : List Ir := [iLA0, (iGR 11 7 0), iLA0, (iGI 22 7 3), iBALD, (iBP 97), (iIClt (30) 56)]
def bTp_nextWord_29 : List Ir := [iLA0, (iGR 11 7 0), iLA0, (iGI 22 7 3), iBALD, (iBP 122), (iICgt (16) 56)]
def bTp_nextWord_43 : List Ir := [iLA0, iDUPr, (iGI 22 7 3), iC1, iADD, (iPI 22 7 3), (iGO (-49) 4)]
def bTp_nextWord_56 : List Ir := [(iAL 51), iSA1, iLA1, iWL, iSI2, iC0, iSI3]
def bTp_nextWord_65 : List Ir := [iLI3, iLI2, (iICge (29) 96)]
def bTp_nextWord_70 : List Ir := [iLA1, iLI3, iWA, iSA4, iLA0, iLA4, (iGW 57 2), (iCV1 61 7 mTp_stands), (iIFeq (6) 90)]
def bTp_nextWord_87 : List Ir := [iLA4, iRA]
def bTp_nextWord_90 : List Ir := [(iINC3 1), (iGO (-28) 65)]
def bTp_nextWord_96 : List Ir := [(iGS 65 19), iRA]
def tTp_nextWord : Tb := [(0, bTp_nextWord_0, 4), (4, bTp_nextWord_4, 15), (15, bTp_nextWord_15, 29), (29, bTp_nextWord_29, 43), (43, bTp_nextWord_43, 56), (56, bTp_nextWord_56, 65), (65, bTp_nextWord_65, 70), (70, bTp_nextWord_70, 87), (87, bTp_nextWord_87, 90), (90, bTp_nextWord_90, 96), (96, bTp_nextWord_96, 100)]
theorem fTp_nextWord_0 : tbf tTp_nextWord 0 = some (bTp_nextWord_0, 4) := rfl
theorem fTp_nextWord_4 : tbf tTp_nextWord 4 = some (bTp_nextWord_4, 15) := rfl
theorem fTp_nextWord_15 : tbf tTp_nextWord 15 = some (bTp_nextWord_15, 29) := rfl
theorem fTp_nextWord_29 : tbf tTp_nextWord 29 = some (bTp_nextWord_29, 43) := rfl
theorem fTp_nextWord_43 : tbf tTp_nextWord 43 = some (bTp_nextWord_43, 56) := rfl
theorem fTp_nextWord_56 : tbf tTp_nextWord 56 = some (bTp_nextWord_56, 65) := rfl
theorem fTp_nextWord_65 : tbf tTp_nextWord 65 = some (bTp_nextWord_65, 70) := rfl
theorem fTp_nextWord_70 : tbf tTp_nextWord 70 = some (bTp_nextWord_70, 87) := rfl
theorem fTp_nextWord_87 : tbf tTp_nextWord 87 = some (bTp_nextWord_87, 90) := rfl
theorem fTp_nextWord_90 : tbf tTp_nextWord 90 = some (bTp_nextWord_90, 96) := rfl
theorem fTp_nextWord_96 : tbf tTp_nextWord 96 = some (bTp_nextWord_96, 100) := rfl
theorem kTp_nextWord_0 : Bok "HerbWaters$Tape" prog_9_method_10_code (0, bTp_nextWord_0, 4) := ⟨by decide +kernel, (List.forall_mem_cons.mpr ⟨sLA0, (List.forall_mem_cons.mpr ⟨lTp_v40, (fun _ h => absurd h List.not_mem_nil)⟩)⟩)⟩
theorem kTp_nextWord_4 : Bok "HerbWaters$Tape" prog_9_method_10_code (4, bTp_nextWord_4, 15) := ⟨by decide +kernel, (List.forall_mem_cons.mpr ⟨sLA0, (List.forall_mem_cons.mpr ⟨lTp_g22, (List.forall_mem_cons.mpr ⟨sLA0, (List.forall_mem_cons.mpr ⟨lTp_g19, (List.forall_mem_cons.mpr ⟨sICge, (fun _ h => absurd h List.not_mem_nil)⟩)⟩)⟩)⟩)⟩)⟩
theorem kTp_nextWord_15 : Bok "HerbWaters$Tape" prog_9_method_10_code (15, bTp_nextWord_15, 29) := ⟨by decide +kernel, (List.forall_mem_cons.mpr ⟨sLA0, (List.forall_mem_cons.mpr ⟨lTp_g11, (List.forall_mem_cons.mpr ⟨sLA0, (List.forall_mem_cons.mpr ⟨lTp_g22, (List.forall_mem_cons.mpr ⟨sBALD, (List.forall_mem_cons.mpr ⟨sBP, (List.forall_mem_cons.mpr ⟨sIClt, (fun _ h => absurd h List.not_mem_nil)⟩)⟩)⟩)⟩)⟩)⟩)⟩)⟩
theorem kTp_nextWord_29 : Bok "HerbWaters$Tape" prog_9_method_10_code (29, bTp_nextWord_29, 43) := ⟨by decide +kernel, (List.forall_mem_cons.mpr ⟨sLA0, (List.forall_mem_cons.mpr ⟨lTp_g11, (List.forall_mem_cons.mpr ⟨sLA0, (List.forall_mem_cons.mpr ⟨lTp_g22, (List.forall_mem_cons.mpr ⟨sBALD, (List.forall_mem_cons.mpr ⟨sBP, (List.forall_mem_cons.mpr ⟨sICgt, (fun _ h => absurd h List.not_mem_nil)⟩)⟩)⟩)⟩)⟩)⟩)⟩)⟩
theorem kTp_nextWord_43 : Bok "HerbWaters$Tape" prog_9_method_10_code (43, bTp_nextWord_43, 56) := ⟨by decide +kernel, (List.forall_mem_cons.mpr ⟨sLA0, (List.forall_mem_cons.mpr ⟨sDUPr, (List.forall_mem_cons.mpr ⟨lTp_g22, (List.forall_mem_cons.mpr ⟨sC1, (List.forall_mem_cons.mpr ⟨sADD, (List.forall_mem_cons.mpr ⟨lTp_p22, (List.forall_mem_cons.mpr ⟨sGO, (fun _ h => absurd h List.not_mem_nil)⟩)⟩)⟩)⟩)⟩)⟩)⟩)⟩
theorem kTp_nextWord_56 : Bok "HerbWaters$Tape" prog_9_method_10_code (56, bTp_nextWord_56, 65) := ⟨by decide +kernel, (List.forall_mem_cons.mpr ⟨lTp_t51, (List.forall_mem_cons.mpr ⟨sSA1, (List.forall_mem_cons.mpr ⟨sLA1, (List.forall_mem_cons.mpr ⟨sWL, (List.forall_mem_cons.mpr ⟨sSI2, (List.forall_mem_cons.mpr ⟨sC0, (List.forall_mem_cons.mpr ⟨sSI3, (fun _ h => absurd h List.not_mem_nil)⟩)⟩)⟩)⟩)⟩)⟩)⟩)⟩
theorem kTp_nextWord_65 : Bok "HerbWaters$Tape" prog_9_method_10_code (65, bTp_nextWord_65, 70) := ⟨by decide +kernel, (List.forall_mem_cons.mpr ⟨sLI3, (List.forall_mem_cons.mpr ⟨sLI2, (List.forall_mem_cons.mpr ⟨sICge, (fun _ h => absurd h List.not_mem_nil)⟩)⟩)⟩)⟩
theorem kTp_nextWord_70 : Bok "HerbWaters$Tape" prog_9_method_10_code (70, bTp_nextWord_70, 87) := ⟨by decide +kernel, (List.forall_mem_cons.mpr ⟨sLA1, (List.forall_mem_cons.mpr ⟨sLI3, (List.forall_mem_cons.mpr ⟨sWA, (List.forall_mem_cons.mpr ⟨sSA4, (List.forall_mem_cons.mpr ⟨sLA0, (List.forall_mem_cons.mpr ⟨sLA4, (List.forall_mem_cons.mpr ⟨lTp_g57, (List.forall_mem_cons.mpr ⟨lTp_v61, (List.forall_mem_cons.mpr ⟨sIFeq, (fun _ h => absurd h List.not_mem_nil)⟩)⟩)⟩)⟩)⟩)⟩)⟩)⟩)⟩)⟩
theorem kTp_nextWord_87 : Bok "HerbWaters$Tape" prog_9_method_10_code (87, bTp_nextWord_87, 90) := ⟨by decide +kernel, (List.forall_mem_cons.mpr ⟨sLA4, (List.forall_mem_cons.mpr ⟨sRA, (fun _ h => absurd h List.not_mem_nil)⟩)⟩)⟩
theorem kTp_nextWord_90 : Bok "HerbWaters$Tape" prog_9_method_10_code (90, bTp_nextWord_90, 96) := ⟨by decide +kernel, (List.forall_mem_cons.mpr ⟨sINC3, (List.forall_mem_cons.mpr ⟨sGO, (fun _ h => absurd h List.not_mem_nil)⟩)⟩)⟩
theorem kTp_nextWord_96 : Bok "HerbWaters$Tape" prog_9_method_10_code (96, bTp_nextWord_96, 100) := ⟨by decide +kernel, (List.forall_mem_cons.mpr ⟨lTp_t65, (List.forall_mem_cons.mpr ⟨sRA, (fun _ h => absurd h List.not_mem_nil)⟩)⟩)⟩
theorem kTp_nextWord : ∀ q ∈ tTp_nextWord, Bok "HerbWaters$Tape" prog_9_method_10_code q := (List.forall_mem_cons.mpr ⟨kTp_nextWord_0, (List.forall_mem_cons.mpr ⟨kTp_nextWord_4, (List.forall_mem_cons.mpr ⟨kTp_nextWord_15, (List.forall_mem_cons.mpr ⟨kTp_nextWord_29, (List.forall_mem_cons.mpr ⟨kTp_nextWord_43, (List.forall_mem_cons.mpr ⟨kTp_nextWord_56, (List.forall_mem_cons.mpr ⟨kTp_nextWord_65, (List.forall_mem_cons.mpr ⟨kTp_nextWord_70, (List.forall_mem_cons.mpr ⟨kTp_nextWord_87, (List.forall_mem_cons.mpr ⟨kTp_nextWord_90, (List.forall_mem_cons.mpr ⟨kTp_nextWord_96, (fun _ h => absurd h List.not_mem_nil)⟩)⟩)⟩)⟩)⟩)⟩)⟩)⟩)⟩)⟩)⟩)
theorem rTp_nextWord : mTp_nextWord.2.2.2 = some (.object "HerbWaters$Word") := rfl
theorem lTp_v69 : Snd "HerbWaters$Tape" (iCT0 69 mJs_length) := sCT0 rfl ok_Js_length (gtb_mem 827 (by decide +kernel) rfl) (gtb_mem 828 (by decide +kernel) rfl) (gtb_mem 1159 (by decide +kernel) rfl)
theorem lTp_v74 : Snd "HerbWaters$Tape" (iCT1 74 mJs_charAt) := sCT1 rfl ok_Js_charAt (gtb_mem 1161 (by decide +kernel) rfl) (gtb_mem 1162 (by decide +kernel) rfl) (gtb_mem 1160 (by decide +kernel) rfl)
def bTp_stands_0 : List Ir := [iLA1, (iCT0 69 mJs_length), iLA0, (iGI 22 7 3), iLA0, (iGI 25 7 4), iSUB, (iICeq (5) 18)]
def bTp_stands_16 : List Ir := [iC0, iRI]
def bTp_stands_18 : List Ir := [iC0, iSI2]
def bTp_stands_20 : List Ir := [iLI2, iLA1, (iCT0 69 mJs_length), (iICge (30) 55)]
def bTp_stands_28 : List Ir := [iLA0, (iGR 11 7 0), iLA0, (iGI 25 7 4), iLI2, iADD, iBALD, iLA1, iLI2, (iCT1 74 mJs_charAt), (iICeq (5) 49)]
def bTp_stands_47 : List Ir := [iC0, iRI]
def bTp_stands_49 : List Ir := [(iINC2 1), (iGO (-32) 20)]
def bTp_stands_55 : List Ir := [iC1, iRI]
def tTp_stands : Tb := [(0, bTp_stands_0, 16), (16, bTp_stands_16, 18), (18, bTp_stands_18, 20), (20, bTp_stands_20, 28), (28, bTp_stands_28, 47), (47, bTp_stands_47, 49), (49, bTp_stands_49, 55), (55, bTp_stands_55, 57)]
theorem fTp_stands_0 : tbf tTp_stands 0 = some (bTp_stands_0, 16) := rfl
theorem fTp_stands_16 : tbf tTp_stands 16 = some (bTp_stands_16, 18) := rfl
theorem fTp_stands_18 : tbf tTp_stands 18 = some (bTp_stands_18, 20) := rfl
theorem fTp_stands_20 : tbf tTp_stands 20 = some (bTp_stands_20, 28) := rfl
theorem fTp_stands_28 : tbf tTp_stands 28 = some (bTp_stands_28, 47) := rfl
theorem fTp_stands_47 : tbf tTp_stands 47 = some (bTp_stands_47, 49) := rfl
theorem fTp_stands_49 : tbf tTp_stands 49 = some (bTp_stands_49, 55) := rfl
theorem fTp_stands_55 : tbf tTp_stands 55 = some (bTp_stands_55, 57) := rfl
theorem kTp_stands_0 : Bok "HerbWaters$Tape" prog_9_method_11_code (0, bTp_stands_0, 16) := ⟨by decide +kernel, (List.forall_mem_cons.mpr ⟨sLA1, (List.forall_mem_cons.mpr ⟨lTp_v69, (List.forall_mem_cons.mpr ⟨sLA0, (List.forall_mem_cons.mpr ⟨lTp_g22, (List.forall_mem_cons.mpr ⟨sLA0, (List.forall_mem_cons.mpr ⟨lTp_g25, (List.forall_mem_cons.mpr ⟨sSUB, (List.forall_mem_cons.mpr ⟨sICeq, (fun _ h => absurd h List.not_mem_nil)⟩)⟩)⟩)⟩)⟩)⟩)⟩)⟩)⟩
theorem kTp_stands_16 : Bok "HerbWaters$Tape" prog_9_method_11_code (16, bTp_stands_16, 18) := ⟨by decide +kernel, (List.forall_mem_cons.mpr ⟨sC0, (List.forall_mem_cons.mpr ⟨sRI, (fun _ h => absurd h List.not_mem_nil)⟩)⟩)⟩
theorem kTp_stands_18 : Bok "HerbWaters$Tape" prog_9_method_11_code (18, bTp_stands_18, 20) := ⟨by decide +kernel, (List.forall_mem_cons.mpr ⟨sC0, (List.forall_mem_cons.mpr ⟨sSI2, (fun _ h => absurd h List.not_mem_nil)⟩)⟩)⟩
theorem kTp_stands_20 : Bok "HerbWaters$Tape" prog_9_method_11_code (20, bTp_stands_20, 28) := ⟨by decide +kernel, (List.forall_mem_cons.mpr ⟨sLI2, (List.forall_mem_cons.mpr ⟨sLA1, (List.forall_mem_cons.mpr ⟨lTp_v69, (List.forall_mem_cons.mpr ⟨sICge, (fun _ h => absurd h List.not_mem_nil)⟩)⟩)⟩)⟩)⟩
theorem kTp_stands_28 : Bok "HerbWaters$Tape" prog_9_method_11_code (28, bTp_stands_28, 47) := ⟨by decide +kernel, (List.forall_mem_cons.mpr ⟨sLA0, (List.forall_mem_cons.mpr ⟨lTp_g11, (List.forall_mem_cons.mpr ⟨sLA0, (List.forall_mem_cons.mpr ⟨lTp_g25, (List.forall_mem_cons.mpr ⟨sLI2, (List.forall_mem_cons.mpr ⟨sADD, (List.forall_mem_cons.mpr ⟨sBALD, (List.forall_mem_cons.mpr ⟨sLA1, (List.forall_mem_cons.mpr ⟨sLI2, (List.forall_mem_cons.mpr ⟨lTp_v74, (List.forall_mem_cons.mpr ⟨sICeq, (fun _ h => absurd h List.not_mem_nil)⟩)⟩)⟩)⟩)⟩)⟩)⟩)⟩)⟩)⟩)⟩)⟩
theorem kTp_stands_47 : Bok "HerbWaters$Tape" prog_9_method_11_code (47, bTp_stands_47, 49) := ⟨by decide +kernel, (List.forall_mem_cons.mpr ⟨sC0, (List.forall_mem_cons.mpr ⟨sRI, (fun _ h => absurd h List.not_mem_nil)⟩)⟩)⟩
theorem kTp_stands_49 : Bok "HerbWaters$Tape" prog_9_method_11_code (49, bTp_stands_49, 55) := ⟨by decide +kernel, (List.forall_mem_cons.mpr ⟨sINC2, (List.forall_mem_cons.mpr ⟨sGO, (fun _ h => absurd h List.not_mem_nil)⟩)⟩)⟩
theorem kTp_stands_55 : Bok "HerbWaters$Tape" prog_9_method_11_code (55, bTp_stands_55, 57) := ⟨by decide +kernel, (List.forall_mem_cons.mpr ⟨sC1, (List.forall_mem_cons.mpr ⟨sRI, (fun _ h => absurd h List.not_mem_nil)⟩)⟩)⟩
theorem kTp_stands : ∀ q ∈ tTp_stands, Bok "HerbWaters$Tape" prog_9_method_11_code q := (List.forall_mem_cons.mpr ⟨kTp_stands_0, (List.forall_mem_cons.mpr ⟨kTp_stands_16, (List.forall_mem_cons.mpr ⟨kTp_stands_18, (List.forall_mem_cons.mpr ⟨kTp_stands_20, (List.forall_mem_cons.mpr ⟨kTp_stands_28, (List.forall_mem_cons.mpr ⟨kTp_stands_47, (List.forall_mem_cons.mpr ⟨kTp_stands_49, (List.forall_mem_cons.mpr ⟨kTp_stands_55, (fun _ h => absurd h List.not_mem_nil)⟩)⟩)⟩)⟩)⟩)⟩)⟩)⟩)
theorem rTp_stands : mTp_stands.2.2.2 = some .boolean := rfl
def mTp_takes : Mt := (⟨"HerbWaters$Tape", "takes", "(LHerbWaters$Word;)Z"⟩, prog_9_method_12_code, 2, some .boolean)
theorem ok_Tp_takes : Mok mTp_takes := ⟨gtb_mem 1324 (by decide +kernel) rfl, gtb_mem 94 (by decide +kernel) rfl, by decide +kernel, by decide⟩
theorem lTp_v78 : Snd "HerbWaters$Tape" (iCV0 78 7 mTp_nextWord) := sCV0 _ rfl rfl ok_Tp_nextWord (gtb_mem 1150 (by decide +kernel) rfl) (gtb_mem 1151 (by decide +kernel) rfl) (gtb_mem 1238 (by decide +kernel) rfl)
def bTp_takes_0 : List Ir := [iLA0, (iCV0 78 7 mTp_nextWord), iLA1, (iACne (5) 10)]
def bTp_takes_8 : List Ir := [iC1, iRI]
def bTp_takes_10 : List Ir := [iLA0, iLA0, (iGI 25 7 4), (iPI 22 7 3), iC0, iRI]
def tTp_takes : Tb := [(0, bTp_takes_0, 8), (8, bTp_takes_8, 10), (10, bTp_takes_10, 20)]
theorem fTp_takes_0 : tbf tTp_takes 0 = some (bTp_takes_0, 8) := rfl
theorem fTp_takes_8 : tbf tTp_takes 8 = some (bTp_takes_8, 10) := rfl
theorem fTp_takes_10 : tbf tTp_takes 10 = some (bTp_takes_10, 20) := rfl
theorem kTp_takes_0 : Bok "HerbWaters$Tape" prog_9_method_12_code (0, bTp_takes_0, 8) := ⟨by decide +kernel, (List.forall_mem_cons.mpr ⟨sLA0, (List.forall_mem_cons.mpr ⟨lTp_v78, (List.forall_mem_cons.mpr ⟨sLA1, (List.forall_mem_cons.mpr ⟨sACne, (fun _ h => absurd h List.not_mem_nil)⟩)⟩)⟩)⟩)⟩
theorem kTp_takes_8 : Bok "HerbWaters$Tape" prog_9_method_12_code (8, bTp_takes_8, 10) := ⟨by decide +kernel, (List.forall_mem_cons.mpr ⟨sC1, (List.forall_mem_cons.mpr ⟨sRI, (fun _ h => absurd h List.not_mem_nil)⟩)⟩)⟩
theorem kTp_takes_10 : Bok "HerbWaters$Tape" prog_9_method_12_code (10, bTp_takes_10, 20) := ⟨by decide +kernel, (List.forall_mem_cons.mpr ⟨sLA0, (List.forall_mem_cons.mpr ⟨sLA0, (List.forall_mem_cons.mpr ⟨lTp_g25, (List.forall_mem_cons.mpr ⟨lTp_p22, (List.forall_mem_cons.mpr ⟨sC0, (List.forall_mem_cons.mpr ⟨sRI, (fun _ h => absurd h List.not_mem_nil)⟩)⟩)⟩)⟩)⟩)⟩)⟩
theorem kTp_takes : ∀ q ∈ tTp_takes, Bok "HerbWaters$Tape" prog_9_method_12_code q := (List.forall_mem_cons.mpr ⟨kTp_takes_0, (List.forall_mem_cons.mpr ⟨kTp_takes_8, (List.forall_mem_cons.mpr ⟨kTp_takes_10, (fun _ h => absurd h List.not_mem_nil)⟩)⟩)⟩)
theorem rTp_takes : mTp_takes.2.2.2 = some .boolean := rfl
def mTp_isDigit : Mt := (⟨"HerbWaters$Tape", "isDigit", "()Z"⟩, prog_9_method_13_code, 1, some .boolean)
theorem ok_Tp_isDigit : Mok mTp_isDigit := ⟨gtb_mem 1207 (by decide +kernel) rfl, gtb_mem 94 (by decide +kernel) rfl, by decide +kernel, by decide⟩
def bTp_isDigit_0 : List Ir := [iLA0, (iGI 22 7 3), iLA0, (iGI 19 7 2), (iICge (35) 43)]
def bTp_isDigit_11 : List Ir := [iLA0, (iGR 11 7 0), iLA0, (iGI 22 7 3), iBALD, (iBP 48), (iIClt (21) 43)]
def bTp_isDigit_25 : List Ir := [iLA0, (iGR 11 7 0), iLA0, (iGI 22 7 3), iBALD, (iBP 57), (iICgt (7) 43)]
def bTp_isDigit_39 : List Ir := [iC1, (iGO (4) 44)]
def bTp_isDigit_43 : List Ir := [iC0]
def bTp_isDigit_44 : List Ir := [iRI]
def tTp_isDigit : Tb := [(0, bTp_isDigit_0, 11), (11, bTp_isDigit_11, 25), (25, bTp_isDigit_25, 39), (39, bTp_isDigit_39, 43), (43, bTp_isDigit_43, 44), (44, bTp_isDigit_44, 45)]
theorem fTp_isDigit_0 : tbf tTp_isDigit 0 = some (bTp_isDigit_0, 11) := rfl
theorem fTp_isDigit_11 : tbf tTp_isDigit 11 = some (bTp_isDigit_11, 25) := rfl
theorem fTp_isDigit_25 : tbf tTp_isDigit 25 = some (bTp_isDigit_25, 39) := rfl
theorem fTp_isDigit_39 : tbf tTp_isDigit 39 = some (bTp_isDigit_39, 43) := rfl
theorem fTp_isDigit_43 : tbf tTp_isDigit 43 = some (bTp_isDigit_43, 44) := rfl
theorem fTp_isDigit_44 : tbf tTp_isDigit 44 = some (bTp_isDigit_44, 45) := rfl
theorem kTp_isDigit_0 : Bok "HerbWaters$Tape" prog_9_method_13_code (0, bTp_isDigit_0, 11) := ⟨by decide +kernel, (List.forall_mem_cons.mpr ⟨sLA0, (List.forall_mem_cons.mpr ⟨lTp_g22, (List.forall_mem_cons.mpr ⟨sLA0, (List.forall_mem_cons.mpr ⟨lTp_g19, (List.forall_mem_cons.mpr ⟨sICge, (fun _ h => absurd h List.not_mem_nil)⟩)⟩)⟩)⟩)⟩)⟩
theorem kTp_isDigit_11 : Bok "HerbWaters$Tape" prog_9_method_13_code (11, bTp_isDigit_11, 25) := ⟨by decide +kernel, (List.forall_mem_cons.mpr ⟨sLA0, (List.forall_mem_cons.mpr ⟨lTp_g11, (List.forall_mem_cons.mpr ⟨sLA0, (List.forall_mem_cons.mpr ⟨lTp_g22, (List.forall_mem_cons.mpr ⟨sBALD, (List.forall_mem_cons.mpr ⟨sBP, (List.forall_mem_cons.mpr ⟨sIClt, (fun _ h => absurd h List.not_mem_nil)⟩)⟩)⟩)⟩)⟩)⟩)⟩)⟩
theorem kTp_isDigit_25 : Bok "HerbWaters$Tape" prog_9_method_13_code (25, bTp_isDigit_25, 39) := ⟨by decide +kernel, (List.forall_mem_cons.mpr ⟨sLA0, (List.forall_mem_cons.mpr ⟨lTp_g11, (List.forall_mem_cons.mpr ⟨sLA0, (List.forall_mem_cons.mpr ⟨lTp_g22, (List.forall_mem_cons.mpr ⟨sBALD, (List.forall_mem_cons.mpr ⟨sBP, (List.forall_mem_cons.mpr ⟨sICgt, (fun _ h => absurd h List.not_mem_nil)⟩)⟩)⟩)⟩)⟩)⟩)⟩)⟩
theorem kTp_isDigit_39 : Bok "HerbWaters$Tape" prog_9_method_13_code (39, bTp_isDigit_39, 43) := ⟨by decide +kernel, (List.forall_mem_cons.mpr ⟨sC1, (List.forall_mem_cons.mpr ⟨sGO, (fun _ h => absurd h List.not_mem_nil)⟩)⟩)⟩
theorem kTp_isDigit_43 : Bok "HerbWaters$Tape" prog_9_method_13_code (43, bTp_isDigit_43, 44) := ⟨by decide +kernel, (List.forall_mem_cons.mpr ⟨sC0, (fun _ h => absurd h List.not_mem_nil)⟩)⟩
theorem kTp_isDigit_44 : Bok "HerbWaters$Tape" prog_9_method_13_code (44, bTp_isDigit_44, 45) := ⟨by decide +kernel, (List.forall_mem_cons.mpr ⟨sRI, (fun _ h => absurd h List.not_mem_nil)⟩)⟩
theorem kTp_isDigit : ∀ q ∈ tTp_isDigit, Bok "HerbWaters$Tape" prog_9_method_13_code q := (List.forall_mem_cons.mpr ⟨kTp_isDigit_0, (List.forall_mem_cons.mpr ⟨kTp_isDigit_11, (List.forall_mem_cons.mpr ⟨kTp_isDigit_25, (List.forall_mem_cons.mpr ⟨kTp_isDigit_39, (List.forall_mem_cons.mpr ⟨kTp_isDigit_43, (List.forall_mem_cons.mpr ⟨kTp_isDigit_44, (fun _ h => absurd h List.not_mem_nil)⟩)⟩)⟩)⟩)⟩)⟩)
theorem rTp_isDigit : mTp_isDigit.2.2.2 = some .boolean := rfl
def mTp_numberIn : Mt := (⟨"HerbWaters$Tape", "numberIn", "(II)I"⟩, prog_9_method_14_code, 4, some .int)
theorem ok_Tp_numberIn : Mok mTp_numberIn := ⟨gtb_mem 1203 (by decide +kernel) rfl, gtb_mem 94 (by decide +kernel) rfl, by decide +kernel, by decide⟩
theorem lTp_v82 : Snd "HerbWaters$Tape" (iCV0 82 7 mTp_isDigit) := sCV0 _ rfl rfl ok_Tp_isDigit (gtb_mem 1205 (by decide +kernel) rfl) (gtb_mem 1206 (by decide +kernel) rfl) (gtb_mem 1204 (by decide +kernel) rfl)
theorem lTp_k86 : Snd "HerbWaters$Tape" (iLDC 86 1000000) := sLDC (gtb_mem 1209 (by decide +kernel) rfl)
def bTp_numberIn_0 : List Ir := [iLA0, (iCV0 40 7 mTp_seek), iLA0, (iCV0 82 7 mTp_isDigit), (iIFne (11) 19)]
def bTp_numberIn_11 : List Ir := [iLA0, iC1, (iCV1 47 7 mTp_fails), iPOPi, iCm1, iRI]
def bTp_numberIn_19 : List Ir := [iC0, iSI3]
def bTp_numberIn_21 : List Ir := [iLA0, (iGI 22 7 3), iLA0, (iGI 19 7 2), (iICge (46) 75)]
def bTp_numberIn_32 : List Ir := [iLA0, (iCV0 82 7 mTp_isDigit), (iIFeq (39) 75)]
def bTp_numberIn_39 : List Ir := [iLI3, (iBP 10), iMUL, iLA0, (iGR 11 7 0), iLA0, (iGI 22 7 3), iBALD, (iBP 48), iSUB, iADD, (iLDC 86 1000000), (iMIN 34), iSI3, iLA0, iDUPr, (iGI 22 7 3), iC1, iADD, (iPI 22 7 3), (iGO (-51) 21)]
def bTp_numberIn_75 : List Ir := [iLI3, iLI1, (iIClt (8) 85)]
def bTp_numberIn_80 : List Ir := [iLI3, iLI2, (iICle (11) 93)]
def bTp_numberIn_85 : List Ir := [iLA0, iC2, (iCV1 47 7 mTp_fails), iPOPi, iCm1, iRI]
def bTp_numberIn_93 : List Ir := [iLI3, iRI]
def tTp_numberIn : Tb := [(0, bTp_numberIn_0, 11), (11, bTp_numberIn_11, 19), (19, bTp_numberIn_19, 21), (21, bTp_numberIn_21, 32), (32, bTp_numberIn_32, 39), (39, bTp_numberIn_39, 75), (75, bTp_numberIn_75, 80), (80, bTp_numberIn_80, 85), (85, bTp_numberIn_85, 93), (93, bTp_numberIn_93, 95)]
theorem fTp_numberIn_0 : tbf tTp_numberIn 0 = some (bTp_numberIn_0, 11) := rfl
theorem fTp_numberIn_11 : tbf tTp_numberIn 11 = some (bTp_numberIn_11, 19) := rfl
theorem fTp_numberIn_19 : tbf tTp_numberIn 19 = some (bTp_numberIn_19, 21) := rfl
theorem fTp_numberIn_21 : tbf tTp_numberIn 21 = some (bTp_numberIn_21, 32) := rfl
theorem fTp_numberIn_32 : tbf tTp_numberIn 32 = some (bTp_numberIn_32, 39) := rfl
theorem fTp_numberIn_39 : tbf tTp_numberIn 39 = some (bTp_numberIn_39, 75) := rfl
theorem fTp_numberIn_75 : tbf tTp_numberIn 75 = some (bTp_numberIn_75, 80) := rfl
theorem fTp_numberIn_80 : tbf tTp_numberIn 80 = some (bTp_numberIn_80, 85) := rfl
theorem fTp_numberIn_85 : tbf tTp_numberIn 85 = some (bTp_numberIn_85, 93) := rfl
theorem fTp_numberIn_93 : tbf tTp_numberIn 93 = some (bTp_numberIn_93, 95) := rfl
theorem kTp_numberIn_0 : Bok "HerbWaters$Tape" prog_9_method_14_code (0, bTp_numberIn_0, 11) := ⟨by decide +kernel, (List.forall_mem_cons.mpr ⟨sLA0, (List.forall_mem_cons.mpr ⟨lTp_v40, (List.forall_mem_cons.mpr ⟨sLA0, (List.forall_mem_cons.mpr ⟨lTp_v82, (List.forall_mem_cons.mpr ⟨sIFne, (fun _ h => absurd h List.not_mem_nil)⟩)⟩)⟩)⟩)⟩)⟩
theorem kTp_numberIn_11 : Bok "HerbWaters$Tape" prog_9_method_14_code (11, bTp_numberIn_11, 19) := ⟨by decide +kernel, (List.forall_mem_cons.mpr ⟨sLA0, (List.forall_mem_cons.mpr ⟨sC1, (List.forall_mem_cons.mpr ⟨lTp_v47, (List.forall_mem_cons.mpr ⟨sPOPi, (List.forall_mem_cons.mpr ⟨sCm1, (List.forall_mem_cons.mpr ⟨sRI, (fun _ h => absurd h List.not_mem_nil)⟩)⟩)⟩)⟩)⟩)⟩)⟩
theorem kTp_numberIn_19 : Bok "HerbWaters$Tape" prog_9_method_14_code (19, bTp_numberIn_19, 21) := ⟨by decide +kernel, (List.forall_mem_cons.mpr ⟨sC0, (List.forall_mem_cons.mpr ⟨sSI3, (fun _ h => absurd h List.not_mem_nil)⟩)⟩)⟩
theorem kTp_numberIn_21 : Bok "HerbWaters$Tape" prog_9_method_14_code (21, bTp_numberIn_21, 32) := ⟨by decide +kernel, (List.forall_mem_cons.mpr ⟨sLA0, (List.forall_mem_cons.mpr ⟨lTp_g22, (List.forall_mem_cons.mpr ⟨sLA0, (List.forall_mem_cons.mpr ⟨lTp_g19, (List.forall_mem_cons.mpr ⟨sICge, (fun _ h => absurd h List.not_mem_nil)⟩)⟩)⟩)⟩)⟩)⟩
theorem kTp_numberIn_32 : Bok "HerbWaters$Tape" prog_9_method_14_code (32, bTp_numberIn_32, 39) := ⟨by decide +kernel, (List.forall_mem_cons.mpr ⟨sLA0, (List.forall_mem_cons.mpr ⟨lTp_v82, (List.forall_mem_cons.mpr ⟨sIFeq, (fun _ h => absurd h List.not_mem_nil)⟩)⟩)⟩)⟩
theorem kTp_numberIn_39 : Bok "HerbWaters$Tape" prog_9_method_14_code (39, bTp_numberIn_39, 75) := ⟨by decide +kernel, (List.forall_mem_cons.mpr ⟨sLI3, (List.forall_mem_cons.mpr ⟨sBP, (List.forall_mem_cons.mpr ⟨sMUL, (List.forall_mem_cons.mpr ⟨sLA0, (List.forall_mem_cons.mpr ⟨lTp_g11, (List.forall_mem_cons.mpr ⟨sLA0, (List.forall_mem_cons.mpr ⟨lTp_g22, (List.forall_mem_cons.mpr ⟨sBALD, (List.forall_mem_cons.mpr ⟨sBP, (List.forall_mem_cons.mpr ⟨sSUB, (List.forall_mem_cons.mpr ⟨sADD, (List.forall_mem_cons.mpr ⟨lTp_k86, (List.forall_mem_cons.mpr ⟨lTp_s34, (List.forall_mem_cons.mpr ⟨sSI3, (List.forall_mem_cons.mpr ⟨sLA0, (List.forall_mem_cons.mpr ⟨sDUPr, (List.forall_mem_cons.mpr ⟨lTp_g22, (List.forall_mem_cons.mpr ⟨sC1, (List.forall_mem_cons.mpr ⟨sADD, (List.forall_mem_cons.mpr ⟨lTp_p22, (List.forall_mem_cons.mpr ⟨sGO, (fun _ h => absurd h List.not_mem_nil)⟩)⟩)⟩)⟩)⟩)⟩)⟩)⟩)⟩)⟩)⟩)⟩)⟩)⟩)⟩)⟩)⟩)⟩)⟩)⟩)⟩)⟩
theorem kTp_numberIn_75 : Bok "HerbWaters$Tape" prog_9_method_14_code (75, bTp_numberIn_75, 80) := ⟨by decide +kernel, (List.forall_mem_cons.mpr ⟨sLI3, (List.forall_mem_cons.mpr ⟨sLI1, (List.forall_mem_cons.mpr ⟨sIClt, (fun _ h => absurd h List.not_mem_nil)⟩)⟩)⟩)⟩
theorem kTp_numberIn_80 : Bok "HerbWaters$Tape" prog_9_method_14_code (80, bTp_numberIn_80, 85) := ⟨by decide +kernel, (List.forall_mem_cons.mpr ⟨sLI3, (List.forall_mem_cons.mpr ⟨sLI2, (List.forall_mem_cons.mpr ⟨sICle, (fun _ h => absurd h List.not_mem_nil)⟩)⟩)⟩)⟩
theorem kTp_numberIn_85 : Bok "HerbWaters$Tape" prog_9_method_14_code (85, bTp_numberIn_85, 93) := ⟨by decide +kernel, (List.forall_mem_cons.mpr ⟨sLA0, (List.forall_mem_cons.mpr ⟨sC2, (List.forall_mem_cons.mpr ⟨lTp_v47, (List.forall_mem_cons.mpr ⟨sPOPi, (List.forall_mem_cons.mpr ⟨sCm1, (List.forall_mem_cons.mpr ⟨sRI, (fun _ h => absurd h List.not_mem_nil)⟩)⟩)⟩)⟩)⟩)⟩)⟩
theorem kTp_numberIn_93 : Bok "HerbWaters$Tape" prog_9_method_14_code (93, bTp_numberIn_93, 95) := ⟨by decide +kernel, (List.forall_mem_cons.mpr ⟨sLI3, (List.forall_mem_cons.mpr ⟨sRI, (fun _ h => absurd h List.not_mem_nil)⟩)⟩)⟩
theorem kTp_numberIn : ∀ q ∈ tTp_numberIn, Bok "HerbWaters$Tape" prog_9_method_14_code q := (List.forall_mem_cons.mpr ⟨kTp_numberIn_0, (List.forall_mem_cons.mpr ⟨kTp_numberIn_11, (List.forall_mem_cons.mpr ⟨kTp_numberIn_19, (List.forall_mem_cons.mpr ⟨kTp_numberIn_21, (List.forall_mem_cons.mpr ⟨kTp_numberIn_32, (List.forall_mem_cons.mpr ⟨kTp_numberIn_39, (List.forall_mem_cons.mpr ⟨kTp_numberIn_75, (List.forall_mem_cons.mpr ⟨kTp_numberIn_80, (List.forall_mem_cons.mpr ⟨kTp_numberIn_85, (List.forall_mem_cons.mpr ⟨kTp_numberIn_93, (fun _ h => absurd h List.not_mem_nil)⟩)⟩)⟩)⟩)⟩)⟩)⟩)⟩)⟩)⟩)
theorem rTp_numberIn : mTp_numberIn.2.2.2 = some .int := rfl
def mTp_nextHerb : Mt := (⟨"HerbWaters$Tape", "nextHerb", "()I"⟩, prog_9_method_15_code, 2, some .int)
theorem ok_Tp_nextHerb : Mok mTp_nextHerb := ⟨gtb_mem 1237 (by decide +kernel) rfl, gtb_mem 94 (by decide +kernel) rfl, by decide +kernel, by decide⟩
theorem lTp_v87 : Snd "HerbWaters$Tape" (iCW0 87 mWo_isHerb) := sCW0 rfl ok_Wo_isHerb (gtb_mem 1240 (by decide +kernel) rfl) (gtb_mem 1241 (by decide +kernel) rfl) (gtb_mem 1239 (by decide +kernel) rfl)
theorem lTp_g90 : Snd "HerbWaters$Tape" (iGW 90 0) := sGW "HerbWaters" (List.mem_filter.mpr ⟨List.mem_of_getElem? (i := 2309) (by decide +kernel), rfl⟩)
def bTp_nextHerb_0 : List Ir := [iLA0, (iCV0 78 7 mTp_nextWord), iSA1, iLA1, (iCW0 87 mWo_isHerb), (iIFne (11) 20)]
def bTp_nextHerb_12 : List Ir := [iLA0, iC1, (iCV1 47 7 mTp_fails), iPOPi, iCm1, iRI]
def bTp_nextHerb_20 : List Ir := [iLA1, (iGW 90 0), iRI]
def tTp_nextHerb : Tb := [(0, bTp_nextHerb_0, 12), (12, bTp_nextHerb_12, 20), (20, bTp_nextHerb_20, 25)]
theorem fTp_nextHerb_0 : tbf tTp_nextHerb 0 = some (bTp_nextHerb_0, 12) := rfl
theorem fTp_nextHerb_12 : tbf tTp_nextHerb 12 = some (bTp_nextHerb_12, 20) := rfl
theorem fTp_nextHerb_20 : tbf tTp_nextHerb 20 = some (bTp_nextHerb_20, 25) := rfl
theorem kTp_nextHerb_0 : Bok "HerbWaters$Tape" prog_9_method_15_code (0, bTp_nextHerb_0, 12) := ⟨by decide +kernel, (List.forall_mem_cons.mpr ⟨sLA0, (List.forall_mem_cons.mpr ⟨lTp_v78, (List.forall_mem_cons.mpr ⟨sSA1, (List.forall_mem_cons.mpr ⟨sLA1, (List.forall_mem_cons.mpr ⟨lTp_v87, (List.forall_mem_cons.mpr ⟨sIFne, (fun _ h => absurd h List.not_mem_nil)⟩)⟩)⟩)⟩)⟩)⟩)⟩
theorem kTp_nextHerb_12 : Bok "HerbWaters$Tape" prog_9_method_15_code (12, bTp_nextHerb_12, 20) := ⟨by decide +kernel, (List.forall_mem_cons.mpr ⟨sLA0, (List.forall_mem_cons.mpr ⟨sC1, (List.forall_mem_cons.mpr ⟨lTp_v47, (List.forall_mem_cons.mpr ⟨sPOPi, (List.forall_mem_cons.mpr ⟨sCm1, (List.forall_mem_cons.mpr ⟨sRI, (fun _ h => absurd h List.not_mem_nil)⟩)⟩)⟩)⟩)⟩)⟩)⟩
theorem kTp_nextHerb_20 : Bok "HerbWaters$Tape" prog_9_method_15_code (20, bTp_nextHerb_20, 25) := ⟨by decide +kernel, (List.forall_mem_cons.mpr ⟨sLA1, (List.forall_mem_cons.mpr ⟨lTp_g90, (List.forall_mem_cons.mpr ⟨sRI, (fun _ h => absurd h List.not_mem_nil)⟩)⟩)⟩)⟩
theorem kTp_nextHerb : ∀ q ∈ tTp_nextHerb, Bok "HerbWaters$Tape" prog_9_method_15_code q := (List.forall_mem_cons.mpr ⟨kTp_nextHerb_0, (List.forall_mem_cons.mpr ⟨kTp_nextHerb_12, (List.forall_mem_cons.mpr ⟨kTp_nextHerb_20, (fun _ h => absurd h List.not_mem_nil)⟩)⟩)⟩)
theorem rTp_nextHerb : mTp_nextHerb.2.2.2 = some .int := rfl
def mTn_clear : Mt := (⟨"HerbWaters$Town", "clear", "()V"⟩, prog_11_method_2_code, 1, none)
theorem ok_Tn_clear : Mok mTn_clear := ⟨gtb_mem 1135 (by decide +kernel) rfl, gtb_mem 96 (by decide +kernel) rfl, by decide +kernel, by decide⟩
theorem lTn_p42 : Snd "HerbWaters$Town" (iPI 42 9 10) := sPI _ rfl rfl (gtb_mem 200 (by decide +kernel) rfl)
theorem lTn_p46 : Snd "HerbWaters$Town" (iPI 46 9 11) := sPI _ rfl rfl (gtb_mem 205 (by decide +kernel) rfl)
theorem lTn_p49 : Snd "HerbWaters$Town" (iPI 49 9 12) := sPI _ rfl rfl (gtb_mem 208 (by decide +kernel) rfl)
theorem lTn_p52 : Snd "HerbWaters$Town" (iPI 52 9 13) := sPI _ rfl rfl (gtb_mem 211 (by decide +kernel) rfl)
theorem lTn_p55 : Snd "HerbWaters$Town" (iPI 55 9 14) := sPI _ rfl rfl (gtb_mem 213 (by decide +kernel) rfl)
theorem lTn_g15 : Snd "HerbWaters$Town" (iGR 15 9 1) := sGR _ rfl (gtb_mem 178 (by decide +kernel) rfl)
theorem lTn_s58 : Snd "HerbWaters$Town" (iCS2 58 mJa_fill) := sCS2 ok_Ja_fill (gtb_mem 537 (by decide +kernel) rfl) (gtb_mem 1136 (by decide +kernel) rfl)
theorem lTn_g18 : Snd "HerbWaters$Town" (iGR 18 9 2) := sGR _ rfl (gtb_mem 181 (by decide +kernel) rfl)
theorem lTn_g21 : Snd "HerbWaters$Town" (iGR 21 9 3) := sGR _ rfl (gtb_mem 183 (by decide +kernel) rfl)
theorem lTn_g24 : Snd "HerbWaters$Town" (iGR 24 9 4) := sGR _ rfl (gtb_mem 188 (by decide +kernel) rfl)
theorem lTn_g27 : Snd "HerbWaters$Town" (iGR 27 9 5) := sGR _ rfl (gtb_mem 191 (by decide +kernel) rfl)
theorem lTn_g30 : Snd "HerbWaters$Town" (iGR 30 9 6) := sGR _ rfl (gtb_mem 192 (by decide +kernel) rfl)
def bTn_clear_0 : List Ir := [iLA0, iC0, (iPI 42 9 10), iLA0, iC0, (iPI 46 9 11), iLA0, iCm1, (iPI 49 9 12), iLA0, iC0, (iPI 52 9 13), iLA0, (iBP 20), (iPI 55 9 14), iLA0, (iGR 15 9 1), iC0, (iCS2 58 mJa_fill), iLA0, (iGR 18 9 2), iC0, (iCS2 58 mJa_fill), iLA0, (iGR 21 9 3), iC0, (iCS2 58 mJa_fill), iLA0, (iGR 24 9 4), iC0, (iCS2 58 mJa_fill), iLA0, (iGR 27 9 5), iC0, (iCS2 58 mJa_fill), iLA0, (iGR 30 9 6), iC0, (iCS2 58 mJa_fill), iRV]
def tTn_clear : Tb := [(0, bTn_clear_0, 75)]
theorem fTn_clear_0 : tbf tTn_clear 0 = some (bTn_clear_0, 75) := rfl
theorem kTn_clear_0 : Bok "HerbWaters$Town" prog_11_method_2_code (0, bTn_clear_0, 75) := ⟨by decide +kernel, (List.forall_mem_cons.mpr ⟨sLA0, (List.forall_mem_cons.mpr ⟨sC0, (List.forall_mem_cons.mpr ⟨lTn_p42, (List.forall_mem_cons.mpr ⟨sLA0, (List.forall_mem_cons.mpr ⟨sC0, (List.forall_mem_cons.mpr ⟨lTn_p46, (List.forall_mem_cons.mpr ⟨sLA0, (List.forall_mem_cons.mpr ⟨sCm1, (List.forall_mem_cons.mpr ⟨lTn_p49, (List.forall_mem_cons.mpr ⟨sLA0, (List.forall_mem_cons.mpr ⟨sC0, (List.forall_mem_cons.mpr ⟨lTn_p52, (List.forall_mem_cons.mpr ⟨sLA0, (List.forall_mem_cons.mpr ⟨sBP, (List.forall_mem_cons.mpr ⟨lTn_p55, (List.forall_mem_cons.mpr ⟨sLA0, (List.forall_mem_cons.mpr ⟨lTn_g15, (List.forall_mem_cons.mpr ⟨sC0, (List.forall_mem_cons.mpr ⟨lTn_s58, (List.forall_mem_cons.mpr ⟨sLA0, (List.forall_mem_cons.mpr ⟨lTn_g18, (List.forall_mem_cons.mpr ⟨sC0, (List.forall_mem_cons.mpr ⟨lTn_s58, (List.forall_mem_cons.mpr ⟨sLA0, (List.forall_mem_cons.mpr ⟨lTn_g21, (List.forall_mem_cons.mpr ⟨sC0, (List.forall_mem_cons.mpr ⟨lTn_s58, (List.forall_mem_cons.mpr ⟨sLA0, (List.forall_mem_cons.mpr ⟨lTn_g24, (List.forall_mem_cons.mpr ⟨sC0, (List.forall_mem_cons.mpr ⟨lTn_s58, (List.forall_mem_cons.mpr ⟨sLA0, (List.forall_mem_cons.mpr ⟨lTn_g27, (List.forall_mem_cons.mpr ⟨sC0, (List.forall_mem_cons.mpr ⟨lTn_s58, (List.forall_mem_cons.mpr ⟨sLA0, (List.forall_mem_cons.mpr ⟨lTn_g30, (List.forall_mem_cons.mpr ⟨sC0, (List.forall_mem_cons.mpr ⟨lTn_s58, (List.forall_mem_cons.mpr ⟨sRV, (fun _ h => absurd h List.not_mem_nil)⟩)⟩)⟩)⟩)⟩)⟩)⟩)⟩)⟩)⟩)⟩)⟩)⟩)⟩)⟩)⟩)⟩)⟩)⟩)⟩)⟩)⟩)⟩)⟩)⟩)⟩)⟩)⟩)⟩)⟩)⟩)⟩)⟩)⟩)⟩)⟩)⟩)⟩)⟩)⟩)⟩
theorem kTn_clear : ∀ q ∈ tTn_clear, Bok "HerbWaters$Town" prog_11_method_2_code q := (List.forall_mem_cons.mpr ⟨kTn_clear_0, (fun _ h => absurd h List.not_mem_nil)⟩)
theorem rTn_clear : mTn_clear.2.2.2 = none := rfl
def mTn_allBits : Mt := (⟨"HerbWaters$Town", "allBits", "()I"⟩, prog_11_method_3_code, 1, some .int)
theorem ok_Tn_allBits : Mok mTn_allBits := ⟨gtb_mem 651 (by decide +kernel) rfl, gtb_mem 96 (by decide +kernel) rfl, by decide +kernel, by decide⟩
theorem lTn_g42 : Snd "HerbWaters$Town" (iGI 42 9 10) := sGI _ rfl (gtb_mem 200 (by decide +kernel) rfl)
def bTn_allBits_0 : List Ir := [iC1, iLA0, (iGI 42 9 10), iSHL, iC1, iSUB, iRI]
def tTn_allBits : Tb := [(0, bTn_allBits_0, 9)]
theorem fTn_allBits_0 : tbf tTn_allBits 0 = some (bTn_allBits_0, 9) := rfl
theorem kTn_allBits_0 : Bok "HerbWaters$Town" prog_11_method_3_code (0, bTn_allBits_0, 9) := ⟨by decide +kernel, (List.forall_mem_cons.mpr ⟨sC1, (List.forall_mem_cons.mpr ⟨sLA0, (List.forall_mem_cons.mpr ⟨lTn_g42, (List.forall_mem_cons.mpr ⟨sSHL, (List.forall_mem_cons.mpr ⟨sC1, (List.forall_mem_cons.mpr ⟨sSUB, (List.forall_mem_cons.mpr ⟨sRI, (fun _ h => absurd h List.not_mem_nil)⟩)⟩)⟩)⟩)⟩)⟩)⟩)⟩
theorem kTn_allBits : ∀ q ∈ tTn_allBits, Bok "HerbWaters$Town" prog_11_method_3_code q := (List.forall_mem_cons.mpr ⟨kTn_allBits_0, (fun _ h => absurd h List.not_mem_nil)⟩)
theorem rTn_allBits : mTn_allBits.2.2.2 = some .int := rfl
def mTn_partsLeft : Mt := (⟨"HerbWaters$Town", "partsLeft", "(I)I"⟩, prog_11_method_4_code, 2, some .int)
theorem ok_Tn_partsLeft : Mok mTn_partsLeft := ⟨gtb_mem 1227 (by decide +kernel) rfl, gtb_mem 96 (by decide +kernel) rfl, by decide +kernel, by decide⟩
def bTn_partsLeft_0 : List Ir := [(iBP 8), iLA0, (iGR 27 9 5), iLI1, iIALD, iSUB, iLA0, (iGR 18 9 2), iLI1, iIALD, iSUB, iRI]
def tTn_partsLeft : Tb := [(0, bTn_partsLeft_0, 17)]
theorem fTn_partsLeft_0 : tbf tTn_partsLeft 0 = some (bTn_partsLeft_0, 17) := rfl
theorem kTn_partsLeft_0 : Bok "HerbWaters$Town" prog_11_method_4_code (0, bTn_partsLeft_0, 17) := ⟨by decide +kernel, (List.forall_mem_cons.mpr ⟨sBP, (List.forall_mem_cons.mpr ⟨sLA0, (List.forall_mem_cons.mpr ⟨lTn_g27, (List.forall_mem_cons.mpr ⟨sLI1, (List.forall_mem_cons.mpr ⟨sIALD, (List.forall_mem_cons.mpr ⟨sSUB, (List.forall_mem_cons.mpr ⟨sLA0, (List.forall_mem_cons.mpr ⟨lTn_g18, (List.forall_mem_cons.mpr ⟨sLI1, (List.forall_mem_cons.mpr ⟨sIALD, (List.forall_mem_cons.mpr ⟨sSUB, (List.forall_mem_cons.mpr ⟨sRI, (fun _ h => absurd h List.not_mem_nil)⟩)⟩)⟩)⟩)⟩)⟩)⟩)⟩)⟩)⟩)⟩)⟩)⟩
theorem kTn_partsLeft : ∀ q ∈ tTn_partsLeft, Bok "HerbWaters$Town" prog_11_method_4_code q := (List.forall_mem_cons.mpr ⟨kTn_partsLeft_0, (fun _ h => absurd h List.not_mem_nil)⟩)
theorem rTn_partsLeft : mTn_partsLeft.2.2.2 = some .int := rfl
def mTn_read : Mt := (⟨"HerbWaters$Town", "read", "(LHerbWaters$Tape;)Z"⟩, prog_11_method_5_code, 3, some .boolean)
theorem ok_Tn_read : Mok mTn_read := ⟨gtb_mem 1131 (by decide +kernel) rfl, gtb_mem 96 (by decide +kernel) rfl, by decide +kernel, by decide⟩
theorem lTn_v64 : Snd "HerbWaters$Town" (iCV0 64 9 mTn_clear) := sCV0 _ rfl rfl ok_Tn_clear (gtb_mem 1134 (by decide +kernel) rfl) (gtb_mem 15 (by decide +kernel) rfl) (gtb_mem 1132 (by decide +kernel) rfl)
theorem lTn_v67 : Snd "HerbWaters$Town" (iCV0 67 7 mTp_isEnded) := sCV0 _ rfl rfl ok_Tp_isEnded (gtb_mem 1138 (by decide +kernel) rfl) (gtb_mem 1139 (by decide +kernel) rfl) (gtb_mem 1137 (by decide +kernel) rfl)
def mTn_readClause : Mt := (⟨"HerbWaters$Town", "readClause", "(LHerbWaters$Tape;I)Z"⟩, prog_11_method_6_code, 4, some .boolean)
theorem ok_Tn_readClause : Mok mTn_readClause := ⟨gtb_mem 1148 (by decide +kernel) rfl, gtb_mem 96 (by decide +kernel) rfl, by decide +kernel, by decide⟩
theorem lTn_v73 : Snd "HerbWaters$Town" (iCV2 73 9 mTn_readClause) := sCV2 _ rfl rfl ok_Tn_readClause (gtb_mem 1147 (by decide +kernel) rfl) (gtb_mem 17 (by decide +kernel) rfl) (gtb_mem 1145 (by decide +kernel) rfl)
theorem lTn_v77 : Snd "HerbWaters$Town" (iCV1 77 7 mTp_needSign) := sCV1 _ rfl rfl ok_Tp_needSign (gtb_mem 1254 (by decide +kernel) rfl) (gtb_mem 1255 (by decide +kernel) rfl) (gtb_mem 1253 (by decide +kernel) rfl)
def bTn_read_0 : List Ir := [iLA0, (iCV0 64 9 mTn_clear), iC0, iSI2]
def bTn_read_6 : List Ir := [iLI2, (iBP 60), (iICgt (38) 47)]
def bTn_read_12 : List Ir := [iLA1, (iCV0 67 7 mTp_isEnded), (iIFeq (5) 21)]
def bTn_read_19 : List Ir := [iC1, iRI]
def bTn_read_21 : List Ir := [iLA0, iLA1, iLI2, (iCV2 73 9 mTn_readClause), (iIFeq (12) 39)]
def bTn_read_30 : List Ir := [iLA1, (iBP 59), (iCV1 77 7 mTp_needSign), (iIFne (5) 41)]
def bTn_read_39 : List Ir := [iC0, iRI]
def bTn_read_41 : List Ir := [(iINC2 1), (iGO (-38) 6)]
def bTn_read_47 : List Ir := [iC0, iRI]
def tTn_read : Tb := [(0, bTn_read_0, 6), (6, bTn_read_6, 12), (12, bTn_read_12, 19), (19, bTn_read_19, 21), (21, bTn_read_21, 30), (30, bTn_read_30, 39), (39, bTn_read_39, 41), (41, bTn_read_41, 47), (47, bTn_read_47, 49)]
theorem fTn_read_0 : tbf tTn_read 0 = some (bTn_read_0, 6) := rfl
theorem fTn_read_6 : tbf tTn_read 6 = some (bTn_read_6, 12) := rfl
theorem fTn_read_12 : tbf tTn_read 12 = some (bTn_read_12, 19) := rfl
theorem fTn_read_19 : tbf tTn_read 19 = some (bTn_read_19, 21) := rfl
theorem fTn_read_21 : tbf tTn_read 21 = some (bTn_read_21, 30) := rfl
theorem fTn_read_30 : tbf tTn_read 30 = some (bTn_read_30, 39) := rfl
theorem fTn_read_39 : tbf tTn_read 39 = some (bTn_read_39, 41) := rfl
theorem fTn_read_41 : tbf tTn_read 41 = some (bTn_read_41, 47) := rfl
theorem fTn_read_47 : tbf tTn_read 47 = some (bTn_read_47, 49) := rfl
theorem kTn_read_0 : Bok "HerbWaters$Town" prog_11_method_5_code (0, bTn_read_0, 6) := ⟨by decide +kernel, (List.forall_mem_cons.mpr ⟨sLA0, (List.forall_mem_cons.mpr ⟨lTn_v64, (List.forall_mem_cons.mpr ⟨sC0, (List.forall_mem_cons.mpr ⟨sSI2, (fun _ h => absurd h List.not_mem_nil)⟩)⟩)⟩)⟩)⟩
theorem kTn_read_6 : Bok "HerbWaters$Town" prog_11_method_5_code (6, bTn_read_6, 12) := ⟨by decide +kernel, (List.forall_mem_cons.mpr ⟨sLI2, (List.forall_mem_cons.mpr ⟨sBP, (List.forall_mem_cons.mpr ⟨sICgt, (fun _ h => absurd h List.not_mem_nil)⟩)⟩)⟩)⟩
theorem kTn_read_12 : Bok "HerbWaters$Town" prog_11_method_5_code (12, bTn_read_12, 19) := ⟨by decide +kernel, (List.forall_mem_cons.mpr ⟨sLA1, (List.forall_mem_cons.mpr ⟨lTn_v67, (List.forall_mem_cons.mpr ⟨sIFeq, (fun _ h => absurd h List.not_mem_nil)⟩)⟩)⟩)⟩
theorem kTn_read_19 : Bok "HerbWaters$Town" prog_11_method_5_code (19, bTn_read_19, 21) := ⟨by decide +kernel, (List.forall_mem_cons.mpr ⟨sC1, (List.forall_mem_cons.mpr ⟨sRI, (fun _ h => absurd h List.not_mem_nil)⟩)⟩)⟩
theorem kTn_read_21 : Bok "HerbWaters$Town" prog_11_method_5_code (21, bTn_read_21, 30) := ⟨by decide +kernel, (List.forall_mem_cons.mpr ⟨sLA0, (List.forall_mem_cons.mpr ⟨sLA1, (List.forall_mem_cons.mpr ⟨sLI2, (List.forall_mem_cons.mpr ⟨lTn_v73, (List.forall_mem_cons.mpr ⟨sIFeq, (fun _ h => absurd h List.not_mem_nil)⟩)⟩)⟩)⟩)⟩)⟩
theorem kTn_read_30 : Bok "HerbWaters$Town" prog_11_method_5_code (30, bTn_read_30, 39) := ⟨by decide +kernel, (List.forall_mem_cons.mpr ⟨sLA1, (List.forall_mem_cons.mpr ⟨sBP, (List.forall_mem_cons.mpr ⟨lTn_v77, (List.forall_mem_cons.mpr ⟨sIFne, (fun _ h => absurd h List.not_mem_nil)⟩)⟩)⟩)⟩)⟩
theorem kTn_read_39 : Bok "HerbWaters$Town" prog_11_method_5_code (39, bTn_read_39, 41) := ⟨by decide +kernel, (List.forall_mem_cons.mpr ⟨sC0, (List.forall_mem_cons.mpr ⟨sRI, (fun _ h => absurd h List.not_mem_nil)⟩)⟩)⟩
theorem kTn_read_41 : Bok "HerbWaters$Town" prog_11_method_5_code (41, bTn_read_41, 47) := ⟨by decide +kernel, (List.forall_mem_cons.mpr ⟨sINC2, (List.forall_mem_cons.mpr ⟨sGO, (fun _ h => absurd h List.not_mem_nil)⟩)⟩)⟩
theorem kTn_read_47 : Bok "HerbWaters$Town" prog_11_method_5_code (47, bTn_read_47, 49) := ⟨by decide +kernel, (List.forall_mem_cons.mpr ⟨sC0, (List.forall_mem_cons.mpr ⟨sRI, (fun _ h => absurd h List.not_mem_nil)⟩)⟩)⟩
theorem kTn_read : ∀ q ∈ tTn_read, Bok "HerbWaters$Town" prog_11_method_5_code q := (List.forall_mem_cons.mpr ⟨kTn_read_0, (List.forall_mem_cons.mpr ⟨kTn_read_6, (List.forall_mem_cons.mpr ⟨kTn_read_12, (List.forall_mem_cons.mpr ⟨kTn_read_19, (List.forall_mem_cons.mpr ⟨kTn_read_21, (List.forall_mem_cons.mpr ⟨kTn_read_30, (List.forall_mem_cons.mpr ⟨kTn_read_39, (List.forall_mem_cons.mpr ⟨kTn_read_41, (List.forall_mem_cons.mpr ⟨kTn_read_47, (fun _ h => absurd h List.not_mem_nil)⟩)⟩)⟩)⟩)⟩)⟩)⟩)⟩)⟩)
theorem rTn_read : mTn_read.2.2.2 = some .boolean := rfl
theorem lTn_v81 : Snd "HerbWaters$Town" (iCV0 81 7 mTp_nextWord) := sCV0 _ rfl rfl ok_Tp_nextWord (gtb_mem 1150 (by decide +kernel) rfl) (gtb_mem 1151 (by decide +kernel) rfl) (gtb_mem 1149 (by decide +kernel) rfl)
theorem lTn_g85 : Snd "HerbWaters$Town" (iGW 85 1) := sGW "HerbWaters" (List.mem_filter.mpr ⟨List.mem_of_getElem? (i := 2307) (by decide +kernel), rfl⟩)
theorem lTn_v91 : Snd "HerbWaters$Town" (iCV1 91 7 mTp_fails) := sCV1 _ rfl rfl ok_Tp_fails (gtb_mem 1187 (by decide +kernel) rfl) (gtb_mem 1188 (by decide +kernel) rfl) (gtb_mem 1186 (by decide +kernel) rfl)
def mTn_readRest : Mt := (⟨"HerbWaters$Town", "readRest", "(LHerbWaters$Tape;LHerbWaters$Word;)Z"⟩, prog_11_method_7_code, 4, some .boolean)
theorem ok_Tn_readRest : Mok mTn_readRest := ⟨gtb_mem 1193 (by decide +kernel) rfl, gtb_mem 96 (by decide +kernel) rfl, by decide +kernel, by decide⟩
theorem lTn_v95 : Snd "HerbWaters$Town" (iCV2 95 9 mTn_readRest) := sCV2 _ rfl rfl ok_Tn_readRest (gtb_mem 1192 (by decide +kernel) rfl) (gtb_mem 19 (by decide +kernel) rfl) (gtb_mem 1190 (by decide +kernel) rfl)
def bTn_readClause_0 : List Ir := [iLA1, (iCV0 81 7 mTp_nextWord), iSA3, iLA3, (iGW 85 1), (iIFne (9) 18)]
def bTn_readClause_12 : List Ir := [iLA1, iC1, (iCV1 91 7 mTp_fails), iRI]
def bTn_readClause_18 : List Ir := [iLI2, (iBP 60), (iIClt (9) 30)]
def bTn_readClause_24 : List Ir := [iLA1, iC3, (iCV1 91 7 mTp_fails), iRI]
def bTn_readClause_30 : List Ir := [iLA0, iLA1, iLA3, (iCV2 95 9 mTn_readRest), iRI]
def tTn_readClause : Tb := [(0, bTn_readClause_0, 12), (12, bTn_readClause_12, 18), (18, bTn_readClause_18, 24), (24, bTn_readClause_24, 30), (30, bTn_readClause_30, 37)]
theorem fTn_readClause_0 : tbf tTn_readClause 0 = some (bTn_readClause_0, 12) := rfl
theorem fTn_readClause_12 : tbf tTn_readClause 12 = some (bTn_readClause_12, 18) := rfl
theorem fTn_readClause_18 : tbf tTn_readClause 18 = some (bTn_readClause_18, 24) := rfl
theorem fTn_readClause_24 : tbf tTn_readClause 24 = some (bTn_readClause_24, 30) := rfl
theorem fTn_readClause_30 : tbf tTn_readClause 30 = some (bTn_readClause_30, 37) := rfl
theorem kTn_readClause_0 : Bok "HerbWaters$Town" prog_11_method_6_code (0, bTn_readClause_0, 12) := ⟨by decide +kernel, (List.forall_mem_cons.mpr ⟨sLA1, (List.forall_mem_cons.mpr ⟨lTn_v81, (List.forall_mem_cons.mpr ⟨sSA3, (List.forall_mem_cons.mpr ⟨sLA3, (List.forall_mem_cons.mpr ⟨lTn_g85, (List.forall_mem_cons.mpr ⟨sIFne, (fun _ h => absurd h List.not_mem_nil)⟩)⟩)⟩)⟩)⟩)⟩)⟩
theorem kTn_readClause_12 : Bok "HerbWaters$Town" prog_11_method_6_code (12, bTn_readClause_12, 18) := ⟨by decide +kernel, (List.forall_mem_cons.mpr ⟨sLA1, (List.forall_mem_cons.mpr ⟨sC1, (List.forall_mem_cons.mpr ⟨lTn_v91, (List.forall_mem_cons.mpr ⟨sRI, (fun _ h => absurd h List.not_mem_nil)⟩)⟩)⟩)⟩)⟩
theorem kTn_readClause_18 : Bok "HerbWaters$Town" prog_11_method_6_code (18, bTn_readClause_18, 24) := ⟨by decide +kernel, (List.forall_mem_cons.mpr ⟨sLI2, (List.forall_mem_cons.mpr ⟨sBP, (List.forall_mem_cons.mpr ⟨sIClt, (fun _ h => absurd h List.not_mem_nil)⟩)⟩)⟩)⟩
theorem kTn_readClause_24 : Bok "HerbWaters$Town" prog_11_method_6_code (24, bTn_readClause_24, 30) := ⟨by decide +kernel, (List.forall_mem_cons.mpr ⟨sLA1, (List.forall_mem_cons.mpr ⟨sC3, (List.forall_mem_cons.mpr ⟨lTn_v91, (List.forall_mem_cons.mpr ⟨sRI, (fun _ h => absurd h List.not_mem_nil)⟩)⟩)⟩)⟩)⟩
theorem kTn_readClause_30 : Bok "HerbWaters$Town" prog_11_method_6_code (30, bTn_readClause_30, 37) := ⟨by decide +kernel, (List.forall_mem_cons.mpr ⟨sLA0, (List.forall_mem_cons.mpr ⟨sLA1, (List.forall_mem_cons.mpr ⟨sLA3, (List.forall_mem_cons.mpr ⟨lTn_v95, (List.forall_mem_cons.mpr ⟨sRI, (fun _ h => absurd h List.not_mem_nil)⟩)⟩)⟩)⟩)⟩)⟩
theorem kTn_readClause : ∀ q ∈ tTn_readClause, Bok "HerbWaters$Town" prog_11_method_6_code q := (List.forall_mem_cons.mpr ⟨kTn_readClause_0, (List.forall_mem_cons.mpr ⟨kTn_readClause_12, (List.forall_mem_cons.mpr ⟨kTn_readClause_18, (List.forall_mem_cons.mpr ⟨kTn_readClause_24, (List.forall_mem_cons.mpr ⟨kTn_readClause_30, (fun _ h => absurd h List.not_mem_nil)⟩)⟩)⟩)⟩)⟩)
theorem rTn_readClause : mTn_readClause.2.2.2 = some .boolean := rfl
