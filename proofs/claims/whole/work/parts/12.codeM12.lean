/-! code of HerbWatersModel; by program (wip/whole/gen_M.py) -/
theorem lM_v265 : Snd "HerbWatersModel" (iCV0 265 11 mM_opens) := sCV0 _ rfl rfl ok_M_opens (gtb_mem 2022 (by decide +kernel) rfl) (gtb_mem 66 (by decide +kernel) rfl) (gtb_mem 2020 (by decide +kernel) rfl)
theorem lM_v269 : Snd "HerbWatersModel" (iCV0 269 11 mM_anyOf) := sCV0 _ rfl rfl ok_M_anyOf (gtb_mem 2034 (by decide +kernel) rfl) (gtb_mem 69 (by decide +kernel) rfl) (gtb_mem 2032 (by decide +kernel) rfl)
def mM_sum : Mt := (⟨"HerbWatersModel", "sum", "()V"⟩, prog_14_method_38_code, 2, none)
theorem ok_M_sum : Mok mM_sum := ⟨gtb_mem 2011 (by decide +kernel) rfl, gtb_mem 107 (by decide +kernel) rfl, by decide +kernel, by decide⟩
theorem lM_v272 : Snd "HerbWatersModel" (iCV0 272 11 mM_sum) := sCV0 _ rfl rfl ok_M_sum (gtb_mem 2010 (by decide +kernel) rfl) (gtb_mem 63 (by decide +kernel) rfl) (gtb_mem 2008 (by decide +kernel) rfl)
theorem lM_v275 : Snd "HerbWatersModel" (iCV1 275 11 mM_takesSign) := sCV1 _ rfl rfl ok_M_takesSign (gtb_mem 2030 (by decide +kernel) rfl) (gtb_mem 68 (by decide +kernel) rfl) (gtb_mem 2028 (by decide +kernel) rfl)
def bM_oneOf_0 : List Ir := [iLA0, (iGI 139 11 5), (iIFeq (4) 8)]
def bM_oneOf_7 : List Ir := [iRV]
def bM_oneOf_8 : List Ir := [iLA0, (iCV0 145 11 mM_blanks), iLA0, (iBP 14), (iBP 15), (iBP 20), iC0, iC0, iC0, iC0, (iCV7 178 11 mM_isWord), (iIFeq (37) 63)]
def bM_oneOf_29 : List Ir := [iLA0, (iCV0 265 11 mM_opens), (iIFne (4) 37)]
def bM_oneOf_36 : List Ir := [iRV]
def bM_oneOf_37 : List Ir := [iLA0, (iCV0 182 11 mM_skipWord), iLA0, (iCV0 262 11 mM_oneOf), iLA0, (iBP 9), iC0, (iCV2 259 11 mM_says), iLA0, iDUPr, (iGI 188 11 8), iC1, iSUB, (iPI 188 11 8), iRV]
def bM_oneOf_63 : List Ir := [iLA0, iLA0, (iGI 132 11 4), (iCV1 135 11 mM_byteAt), (iBP 91), (iICne (42) 115)]
def bM_oneOf_76 : List Ir := [iLA0, (iCV0 265 11 mM_opens), (iIFne (4) 84)]
def bM_oneOf_83 : List Ir := [iRV]
def bM_oneOf_84 : List Ir := [iLA0, iDUPr, (iGI 132 11 4), iC1, iADD, (iPI 132 11 4), iLA0, (iCV0 269 11 mM_anyOf), iLA0, (iBP 93), (iCV1 208 11 mM_sign), iLA0, iDUPr, (iGI 188 11 8), iC1, iSUB, (iPI 188 11 8), iRV]
def bM_oneOf_115 : List Ir := [iLA0, (iCV0 272 11 mM_sum), iLA0, (iBP 60), (iCV1 275 11 mM_takesSign), (iIFeq (8) 133)]
def bM_oneOf_128 : List Ir := [(iBP 6), (iGO (32) 162)]
def bM_oneOf_133 : List Ir := [iLA0, (iBP 62), (iCV1 275 11 mM_takesSign), (iIFeq (8) 147)]
def bM_oneOf_142 : List Ir := [(iBP 7), (iGO (18) 162)]
def bM_oneOf_147 : List Ir := [iLA0, (iBP 61), (iCV1 275 11 mM_takesSign), (iIFeq (8) 161)]
def bM_oneOf_156 : List Ir := [(iBP 8), (iGO (4) 162)]
def bM_oneOf_161 : List Ir := [iCm1]
def bM_oneOf_162 : List Ir := [iSI1, iLI1, iCm1, (iICne (12) 177)]
def bM_oneOf_168 : List Ir := [iLA0, iC1, iLA0, (iGI 132 11 4), (iCV2 152 11 mM_wrong)]
def bM_oneOf_177 : List Ir := [iLA0, (iCV0 272 11 mM_sum), iLA0, iLI1, iC0, (iCV2 259 11 mM_says), iRV]
def tM_oneOf : Tb := [(0, bM_oneOf_0, 7), (7, bM_oneOf_7, 8), (8, bM_oneOf_8, 29), (29, bM_oneOf_29, 36), (36, bM_oneOf_36, 37), (37, bM_oneOf_37, 63), (63, bM_oneOf_63, 76), (76, bM_oneOf_76, 83), (83, bM_oneOf_83, 84), (84, bM_oneOf_84, 115), (115, bM_oneOf_115, 128), (128, bM_oneOf_128, 133), (133, bM_oneOf_133, 142), (142, bM_oneOf_142, 147), (147, bM_oneOf_147, 156), (156, bM_oneOf_156, 161), (161, bM_oneOf_161, 162), (162, bM_oneOf_162, 168), (168, bM_oneOf_168, 177), (177, bM_oneOf_177, 188)]
theorem fM_oneOf_0 : tbf tM_oneOf 0 = some (bM_oneOf_0, 7) := rfl
theorem fM_oneOf_7 : tbf tM_oneOf 7 = some (bM_oneOf_7, 8) := rfl
theorem fM_oneOf_8 : tbf tM_oneOf 8 = some (bM_oneOf_8, 29) := rfl
theorem fM_oneOf_29 : tbf tM_oneOf 29 = some (bM_oneOf_29, 36) := rfl
theorem fM_oneOf_36 : tbf tM_oneOf 36 = some (bM_oneOf_36, 37) := rfl
theorem fM_oneOf_37 : tbf tM_oneOf 37 = some (bM_oneOf_37, 63) := rfl
theorem fM_oneOf_63 : tbf tM_oneOf 63 = some (bM_oneOf_63, 76) := rfl
theorem fM_oneOf_76 : tbf tM_oneOf 76 = some (bM_oneOf_76, 83) := rfl
theorem fM_oneOf_83 : tbf tM_oneOf 83 = some (bM_oneOf_83, 84) := rfl
theorem fM_oneOf_84 : tbf tM_oneOf 84 = some (bM_oneOf_84, 115) := rfl
theorem fM_oneOf_115 : tbf tM_oneOf 115 = some (bM_oneOf_115, 128) := rfl
theorem fM_oneOf_128 : tbf tM_oneOf 128 = some (bM_oneOf_128, 133) := rfl
theorem fM_oneOf_133 : tbf tM_oneOf 133 = some (bM_oneOf_133, 142) := rfl
theorem fM_oneOf_142 : tbf tM_oneOf 142 = some (bM_oneOf_142, 147) := rfl
theorem fM_oneOf_147 : tbf tM_oneOf 147 = some (bM_oneOf_147, 156) := rfl
theorem fM_oneOf_156 : tbf tM_oneOf 156 = some (bM_oneOf_156, 161) := rfl
theorem fM_oneOf_161 : tbf tM_oneOf 161 = some (bM_oneOf_161, 162) := rfl
theorem fM_oneOf_162 : tbf tM_oneOf 162 = some (bM_oneOf_162, 168) := rfl
theorem fM_oneOf_168 : tbf tM_oneOf 168 = some (bM_oneOf_168, 177) := rfl
theorem fM_oneOf_177 : tbf tM_oneOf 177 = some (bM_oneOf_177, 188) := rfl
theorem kM_oneOf_0 : Bok "HerbWatersModel" prog_14_method_37_code (0, bM_oneOf_0, 7) := ⟨by decide +kernel, (List.forall_mem_cons.mpr ⟨sLA0, (List.forall_mem_cons.mpr ⟨lM_g139, (List.forall_mem_cons.mpr ⟨sIFeq, (fun _ h => absurd h List.not_mem_nil)⟩)⟩)⟩)⟩
theorem kM_oneOf_7 : Bok "HerbWatersModel" prog_14_method_37_code (7, bM_oneOf_7, 8) := ⟨by decide +kernel, (List.forall_mem_cons.mpr ⟨sRV, (fun _ h => absurd h List.not_mem_nil)⟩)⟩
theorem kM_oneOf_8 : Bok "HerbWatersModel" prog_14_method_37_code (8, bM_oneOf_8, 29) := ⟨by decide +kernel, (List.forall_mem_cons.mpr ⟨sLA0, (List.forall_mem_cons.mpr ⟨lM_v145, (List.forall_mem_cons.mpr ⟨sLA0, (List.forall_mem_cons.mpr ⟨sBP, (List.forall_mem_cons.mpr ⟨sBP, (List.forall_mem_cons.mpr ⟨sBP, (List.forall_mem_cons.mpr ⟨sC0, (List.forall_mem_cons.mpr ⟨sC0, (List.forall_mem_cons.mpr ⟨sC0, (List.forall_mem_cons.mpr ⟨sC0, (List.forall_mem_cons.mpr ⟨lM_v178, (List.forall_mem_cons.mpr ⟨sIFeq, (fun _ h => absurd h List.not_mem_nil)⟩)⟩)⟩)⟩)⟩)⟩)⟩)⟩)⟩)⟩)⟩)⟩)⟩
theorem kM_oneOf_29 : Bok "HerbWatersModel" prog_14_method_37_code (29, bM_oneOf_29, 36) := ⟨by decide +kernel, (List.forall_mem_cons.mpr ⟨sLA0, (List.forall_mem_cons.mpr ⟨lM_v265, (List.forall_mem_cons.mpr ⟨sIFne, (fun _ h => absurd h List.not_mem_nil)⟩)⟩)⟩)⟩
theorem kM_oneOf_36 : Bok "HerbWatersModel" prog_14_method_37_code (36, bM_oneOf_36, 37) := ⟨by decide +kernel, (List.forall_mem_cons.mpr ⟨sRV, (fun _ h => absurd h List.not_mem_nil)⟩)⟩
theorem kM_oneOf_37 : Bok "HerbWatersModel" prog_14_method_37_code (37, bM_oneOf_37, 63) := ⟨by decide +kernel, (List.forall_mem_cons.mpr ⟨sLA0, (List.forall_mem_cons.mpr ⟨lM_v182, (List.forall_mem_cons.mpr ⟨sLA0, (List.forall_mem_cons.mpr ⟨lM_v262, (List.forall_mem_cons.mpr ⟨sLA0, (List.forall_mem_cons.mpr ⟨sBP, (List.forall_mem_cons.mpr ⟨sC0, (List.forall_mem_cons.mpr ⟨lM_v259, (List.forall_mem_cons.mpr ⟨sLA0, (List.forall_mem_cons.mpr ⟨sDUPr, (List.forall_mem_cons.mpr ⟨lM_g188, (List.forall_mem_cons.mpr ⟨sC1, (List.forall_mem_cons.mpr ⟨sSUB, (List.forall_mem_cons.mpr ⟨lM_p188, (List.forall_mem_cons.mpr ⟨sRV, (fun _ h => absurd h List.not_mem_nil)⟩)⟩)⟩)⟩)⟩)⟩)⟩)⟩)⟩)⟩)⟩)⟩)⟩)⟩)⟩)⟩
theorem kM_oneOf_63 : Bok "HerbWatersModel" prog_14_method_37_code (63, bM_oneOf_63, 76) := ⟨by decide +kernel, (List.forall_mem_cons.mpr ⟨sLA0, (List.forall_mem_cons.mpr ⟨sLA0, (List.forall_mem_cons.mpr ⟨lM_g132, (List.forall_mem_cons.mpr ⟨lM_v135, (List.forall_mem_cons.mpr ⟨sBP, (List.forall_mem_cons.mpr ⟨sICne, (fun _ h => absurd h List.not_mem_nil)⟩)⟩)⟩)⟩)⟩)⟩)⟩
theorem kM_oneOf_76 : Bok "HerbWatersModel" prog_14_method_37_code (76, bM_oneOf_76, 83) := ⟨by decide +kernel, (List.forall_mem_cons.mpr ⟨sLA0, (List.forall_mem_cons.mpr ⟨lM_v265, (List.forall_mem_cons.mpr ⟨sIFne, (fun _ h => absurd h List.not_mem_nil)⟩)⟩)⟩)⟩
theorem kM_oneOf_83 : Bok "HerbWatersModel" prog_14_method_37_code (83, bM_oneOf_83, 84) := ⟨by decide +kernel, (List.forall_mem_cons.mpr ⟨sRV, (fun _ h => absurd h List.not_mem_nil)⟩)⟩
theorem kM_oneOf_84 : Bok "HerbWatersModel" prog_14_method_37_code (84, bM_oneOf_84, 115) := ⟨by decide +kernel, (List.forall_mem_cons.mpr ⟨sLA0, (List.forall_mem_cons.mpr ⟨sDUPr, (List.forall_mem_cons.mpr ⟨lM_g132, (List.forall_mem_cons.mpr ⟨sC1, (List.forall_mem_cons.mpr ⟨sADD, (List.forall_mem_cons.mpr ⟨lM_p132, (List.forall_mem_cons.mpr ⟨sLA0, (List.forall_mem_cons.mpr ⟨lM_v269, (List.forall_mem_cons.mpr ⟨sLA0, (List.forall_mem_cons.mpr ⟨sBP, (List.forall_mem_cons.mpr ⟨lM_v208, (List.forall_mem_cons.mpr ⟨sLA0, (List.forall_mem_cons.mpr ⟨sDUPr, (List.forall_mem_cons.mpr ⟨lM_g188, (List.forall_mem_cons.mpr ⟨sC1, (List.forall_mem_cons.mpr ⟨sSUB, (List.forall_mem_cons.mpr ⟨lM_p188, (List.forall_mem_cons.mpr ⟨sRV, (fun _ h => absurd h List.not_mem_nil)⟩)⟩)⟩)⟩)⟩)⟩)⟩)⟩)⟩)⟩)⟩)⟩)⟩)⟩)⟩)⟩)⟩)⟩)⟩
theorem kM_oneOf_115 : Bok "HerbWatersModel" prog_14_method_37_code (115, bM_oneOf_115, 128) := ⟨by decide +kernel, (List.forall_mem_cons.mpr ⟨sLA0, (List.forall_mem_cons.mpr ⟨lM_v272, (List.forall_mem_cons.mpr ⟨sLA0, (List.forall_mem_cons.mpr ⟨sBP, (List.forall_mem_cons.mpr ⟨lM_v275, (List.forall_mem_cons.mpr ⟨sIFeq, (fun _ h => absurd h List.not_mem_nil)⟩)⟩)⟩)⟩)⟩)⟩)⟩
theorem kM_oneOf_128 : Bok "HerbWatersModel" prog_14_method_37_code (128, bM_oneOf_128, 133) := ⟨by decide +kernel, (List.forall_mem_cons.mpr ⟨sBP, (List.forall_mem_cons.mpr ⟨sGO, (fun _ h => absurd h List.not_mem_nil)⟩)⟩)⟩
theorem kM_oneOf_133 : Bok "HerbWatersModel" prog_14_method_37_code (133, bM_oneOf_133, 142) := ⟨by decide +kernel, (List.forall_mem_cons.mpr ⟨sLA0, (List.forall_mem_cons.mpr ⟨sBP, (List.forall_mem_cons.mpr ⟨lM_v275, (List.forall_mem_cons.mpr ⟨sIFeq, (fun _ h => absurd h List.not_mem_nil)⟩)⟩)⟩)⟩)⟩
theorem kM_oneOf_142 : Bok "HerbWatersModel" prog_14_method_37_code (142, bM_oneOf_142, 147) := ⟨by decide +kernel, (List.forall_mem_cons.mpr ⟨sBP, (List.forall_mem_cons.mpr ⟨sGO, (fun _ h => absurd h List.not_mem_nil)⟩)⟩)⟩
theorem kM_oneOf_147 : Bok "HerbWatersModel" prog_14_method_37_code (147, bM_oneOf_147, 156) := ⟨by decide +kernel, (List.forall_mem_cons.mpr ⟨sLA0, (List.forall_mem_cons.mpr ⟨sBP, (List.forall_mem_cons.mpr ⟨lM_v275, (List.forall_mem_cons.mpr ⟨sIFeq, (fun _ h => absurd h List.not_mem_nil)⟩)⟩)⟩)⟩)⟩
theorem kM_oneOf_156 : Bok "HerbWatersModel" prog_14_method_37_code (156, bM_oneOf_156, 161) := ⟨by decide +kernel, (List.forall_mem_cons.mpr ⟨sBP, (List.forall_mem_cons.mpr ⟨sGO, (fun _ h => absurd h List.not_mem_nil)⟩)⟩)⟩
theorem kM_oneOf_161 : Bok "HerbWatersModel" prog_14_method_37_code (161, bM_oneOf_161, 162) := ⟨by decide +kernel, (List.forall_mem_cons.mpr ⟨sCm1, (fun _ h => absurd h List.not_mem_nil)⟩)⟩
theorem kM_oneOf_162 : Bok "HerbWatersModel" prog_14_method_37_code (162, bM_oneOf_162, 168) := ⟨by decide +kernel, (List.forall_mem_cons.mpr ⟨sSI1, (List.forall_mem_cons.mpr ⟨sLI1, (List.forall_mem_cons.mpr ⟨sCm1, (List.forall_mem_cons.mpr ⟨sICne, (fun _ h => absurd h List.not_mem_nil)⟩)⟩)⟩)⟩)⟩
theorem kM_oneOf_168 : Bok "HerbWatersModel" prog_14_method_37_code (168, bM_oneOf_168, 177) := ⟨by decide +kernel, (List.forall_mem_cons.mpr ⟨sLA0, (List.forall_mem_cons.mpr ⟨sC1, (List.forall_mem_cons.mpr ⟨sLA0, (List.forall_mem_cons.mpr ⟨lM_g132, (List.forall_mem_cons.mpr ⟨lM_v152, (fun _ h => absurd h List.not_mem_nil)⟩)⟩)⟩)⟩)⟩)⟩
theorem kM_oneOf_177 : Bok "HerbWatersModel" prog_14_method_37_code (177, bM_oneOf_177, 188) := ⟨by decide +kernel, (List.forall_mem_cons.mpr ⟨sLA0, (List.forall_mem_cons.mpr ⟨lM_v272, (List.forall_mem_cons.mpr ⟨sLA0, (List.forall_mem_cons.mpr ⟨sLI1, (List.forall_mem_cons.mpr ⟨sC0, (List.forall_mem_cons.mpr ⟨lM_v259, (List.forall_mem_cons.mpr ⟨sRV, (fun _ h => absurd h List.not_mem_nil)⟩)⟩)⟩)⟩)⟩)⟩)⟩)⟩
theorem kM_oneOf : ∀ q ∈ tM_oneOf, Bok "HerbWatersModel" prog_14_method_37_code q := (List.forall_mem_cons.mpr ⟨kM_oneOf_0, (List.forall_mem_cons.mpr ⟨kM_oneOf_7, (List.forall_mem_cons.mpr ⟨kM_oneOf_8, (List.forall_mem_cons.mpr ⟨kM_oneOf_29, (List.forall_mem_cons.mpr ⟨kM_oneOf_36, (List.forall_mem_cons.mpr ⟨kM_oneOf_37, (List.forall_mem_cons.mpr ⟨kM_oneOf_63, (List.forall_mem_cons.mpr ⟨kM_oneOf_76, (List.forall_mem_cons.mpr ⟨kM_oneOf_83, (List.forall_mem_cons.mpr ⟨kM_oneOf_84, (List.forall_mem_cons.mpr ⟨kM_oneOf_115, (List.forall_mem_cons.mpr ⟨kM_oneOf_128, (List.forall_mem_cons.mpr ⟨kM_oneOf_133, (List.forall_mem_cons.mpr ⟨kM_oneOf_142, (List.forall_mem_cons.mpr ⟨kM_oneOf_147, (List.forall_mem_cons.mpr ⟨kM_oneOf_156, (List.forall_mem_cons.mpr ⟨kM_oneOf_161, (List.forall_mem_cons.mpr ⟨kM_oneOf_162, (List.forall_mem_cons.mpr ⟨kM_oneOf_168, (List.forall_mem_cons.mpr ⟨kM_oneOf_177, (fun _ h => absurd h List.not_mem_nil)⟩)⟩)⟩)⟩)⟩)⟩)⟩)⟩)⟩)⟩)⟩)⟩)⟩)⟩)⟩)⟩)⟩)⟩)⟩)⟩)
def mM_product : Mt := (⟨"HerbWatersModel", "product", "()V"⟩, prog_14_method_39_code, 2, none)
theorem ok_M_product : Mok mM_product := ⟨gtb_mem 2015 (by decide +kernel) rfl, gtb_mem 107 (by decide +kernel) rfl, by decide +kernel, by decide⟩
theorem lM_v278 : Snd "HerbWatersModel" (iCV0 278 11 mM_product) := sCV0 _ rfl rfl ok_M_product (gtb_mem 2014 (by decide +kernel) rfl) (gtb_mem 64 (by decide +kernel) rfl) (gtb_mem 2012 (by decide +kernel) rfl)
def bM_sum_0 : List Ir := [iLA0, (iCV0 278 11 mM_product)]
def bM_sum_4 : List Ir := [iLA0, (iGI 139 11 5), (iIFne (50) 58)]
def bM_sum_11 : List Ir := [iLA0, (iBP 43), (iCV1 275 11 mM_takesSign), (iIFeq (7) 24)]
def bM_sum_20 : List Ir := [iC2, (iGO (17) 38)]
def bM_sum_24 : List Ir := [iLA0, (iBP 45), (iCV1 275 11 mM_takesSign), (iIFeq (7) 37)]
def bM_sum_33 : List Ir := [iC3, (iGO (4) 38)]
def bM_sum_37 : List Ir := [iCm1]
def bM_sum_38 : List Ir := [iSI1, iLI1, iCm1, (iICne (4) 45)]
def bM_sum_44 : List Ir := [iRV]
def bM_sum_45 : List Ir := [iLA0, (iCV0 278 11 mM_product), iLA0, iLI1, iC0, (iCV2 259 11 mM_says), (iGO (-51) 4)]
def bM_sum_58 : List Ir := [iRV]
def tM_sum : Tb := [(0, bM_sum_0, 4), (4, bM_sum_4, 11), (11, bM_sum_11, 20), (20, bM_sum_20, 24), (24, bM_sum_24, 33), (33, bM_sum_33, 37), (37, bM_sum_37, 38), (38, bM_sum_38, 44), (44, bM_sum_44, 45), (45, bM_sum_45, 58), (58, bM_sum_58, 59)]
theorem fM_sum_0 : tbf tM_sum 0 = some (bM_sum_0, 4) := rfl
theorem fM_sum_4 : tbf tM_sum 4 = some (bM_sum_4, 11) := rfl
theorem fM_sum_11 : tbf tM_sum 11 = some (bM_sum_11, 20) := rfl
theorem fM_sum_20 : tbf tM_sum 20 = some (bM_sum_20, 24) := rfl
theorem fM_sum_24 : tbf tM_sum 24 = some (bM_sum_24, 33) := rfl
theorem fM_sum_33 : tbf tM_sum 33 = some (bM_sum_33, 37) := rfl
theorem fM_sum_37 : tbf tM_sum 37 = some (bM_sum_37, 38) := rfl
theorem fM_sum_38 : tbf tM_sum 38 = some (bM_sum_38, 44) := rfl
theorem fM_sum_44 : tbf tM_sum 44 = some (bM_sum_44, 45) := rfl
theorem fM_sum_45 : tbf tM_sum 45 = some (bM_sum_45, 58) := rfl
theorem fM_sum_58 : tbf tM_sum 58 = some (bM_sum_58, 59) := rfl
theorem kM_sum_0 : Bok "HerbWatersModel" prog_14_method_38_code (0, bM_sum_0, 4) := ⟨by decide +kernel, (List.forall_mem_cons.mpr ⟨sLA0, (List.forall_mem_cons.mpr ⟨lM_v278, (fun _ h => absurd h List.not_mem_nil)⟩)⟩)⟩
theorem kM_sum_4 : Bok "HerbWatersModel" prog_14_method_38_code (4, bM_sum_4, 11) := ⟨by decide +kernel, (List.forall_mem_cons.mpr ⟨sLA0, (List.forall_mem_cons.mpr ⟨lM_g139, (List.forall_mem_cons.mpr ⟨sIFne, (fun _ h => absurd h List.not_mem_nil)⟩)⟩)⟩)⟩
theorem kM_sum_11 : Bok "HerbWatersModel" prog_14_method_38_code (11, bM_sum_11, 20) := ⟨by decide +kernel, (List.forall_mem_cons.mpr ⟨sLA0, (List.forall_mem_cons.mpr ⟨sBP, (List.forall_mem_cons.mpr ⟨lM_v275, (List.forall_mem_cons.mpr ⟨sIFeq, (fun _ h => absurd h List.not_mem_nil)⟩)⟩)⟩)⟩)⟩
theorem kM_sum_20 : Bok "HerbWatersModel" prog_14_method_38_code (20, bM_sum_20, 24) := ⟨by decide +kernel, (List.forall_mem_cons.mpr ⟨sC2, (List.forall_mem_cons.mpr ⟨sGO, (fun _ h => absurd h List.not_mem_nil)⟩)⟩)⟩
theorem kM_sum_24 : Bok "HerbWatersModel" prog_14_method_38_code (24, bM_sum_24, 33) := ⟨by decide +kernel, (List.forall_mem_cons.mpr ⟨sLA0, (List.forall_mem_cons.mpr ⟨sBP, (List.forall_mem_cons.mpr ⟨lM_v275, (List.forall_mem_cons.mpr ⟨sIFeq, (fun _ h => absurd h List.not_mem_nil)⟩)⟩)⟩)⟩)⟩
theorem kM_sum_33 : Bok "HerbWatersModel" prog_14_method_38_code (33, bM_sum_33, 37) := ⟨by decide +kernel, (List.forall_mem_cons.mpr ⟨sC3, (List.forall_mem_cons.mpr ⟨sGO, (fun _ h => absurd h List.not_mem_nil)⟩)⟩)⟩
theorem kM_sum_37 : Bok "HerbWatersModel" prog_14_method_38_code (37, bM_sum_37, 38) := ⟨by decide +kernel, (List.forall_mem_cons.mpr ⟨sCm1, (fun _ h => absurd h List.not_mem_nil)⟩)⟩
theorem kM_sum_38 : Bok "HerbWatersModel" prog_14_method_38_code (38, bM_sum_38, 44) := ⟨by decide +kernel, (List.forall_mem_cons.mpr ⟨sSI1, (List.forall_mem_cons.mpr ⟨sLI1, (List.forall_mem_cons.mpr ⟨sCm1, (List.forall_mem_cons.mpr ⟨sICne, (fun _ h => absurd h List.not_mem_nil)⟩)⟩)⟩)⟩)⟩
theorem kM_sum_44 : Bok "HerbWatersModel" prog_14_method_38_code (44, bM_sum_44, 45) := ⟨by decide +kernel, (List.forall_mem_cons.mpr ⟨sRV, (fun _ h => absurd h List.not_mem_nil)⟩)⟩
theorem kM_sum_45 : Bok "HerbWatersModel" prog_14_method_38_code (45, bM_sum_45, 58) := ⟨by decide +kernel, (List.forall_mem_cons.mpr ⟨sLA0, (List.forall_mem_cons.mpr ⟨lM_v278, (List.forall_mem_cons.mpr ⟨sLA0, (List.forall_mem_cons.mpr ⟨sLI1, (List.forall_mem_cons.mpr ⟨sC0, (List.forall_mem_cons.mpr ⟨lM_v259, (List.forall_mem_cons.mpr ⟨sGO, (fun _ h => absurd h List.not_mem_nil)⟩)⟩)⟩)⟩)⟩)⟩)⟩)⟩
theorem kM_sum_58 : Bok "HerbWatersModel" prog_14_method_38_code (58, bM_sum_58, 59) := ⟨by decide +kernel, (List.forall_mem_cons.mpr ⟨sRV, (fun _ h => absurd h List.not_mem_nil)⟩)⟩
theorem kM_sum : ∀ q ∈ tM_sum, Bok "HerbWatersModel" prog_14_method_38_code q := (List.forall_mem_cons.mpr ⟨kM_sum_0, (List.forall_mem_cons.mpr ⟨kM_sum_4, (List.forall_mem_cons.mpr ⟨kM_sum_11, (List.forall_mem_cons.mpr ⟨kM_sum_20, (List.forall_mem_cons.mpr ⟨kM_sum_24, (List.forall_mem_cons.mpr ⟨kM_sum_33, (List.forall_mem_cons.mpr ⟨kM_sum_37, (List.forall_mem_cons.mpr ⟨kM_sum_38, (List.forall_mem_cons.mpr ⟨kM_sum_44, (List.forall_mem_cons.mpr ⟨kM_sum_45, (List.forall_mem_cons.mpr ⟨kM_sum_58, (fun _ h => absurd h List.not_mem_nil)⟩)⟩)⟩)⟩)⟩)⟩)⟩)⟩)⟩)⟩)⟩)
def mM_value : Mt := (⟨"HerbWatersModel", "value", "()V"⟩, prog_14_method_40_code, 3, none)
theorem ok_M_value : Mok mM_value := ⟨gtb_mem 2019 (by decide +kernel) rfl, gtb_mem 107 (by decide +kernel) rfl, by decide +kernel, by decide⟩
theorem lM_v281 : Snd "HerbWatersModel" (iCV0 281 11 mM_value) := sCV0 _ rfl rfl ok_M_value (gtb_mem 2018 (by decide +kernel) rfl) (gtb_mem 65 (by decide +kernel) rfl) (gtb_mem 2016 (by decide +kernel) rfl)
def bM_product_0 : List Ir := [iLA0, (iCV0 281 11 mM_value)]
def bM_product_4 : List Ir := [iLA0, (iGI 139 11 5), (iIFne (50) 58)]
def bM_product_11 : List Ir := [iLA0, (iBP 42), (iCV1 275 11 mM_takesSign), (iIFeq (7) 24)]
def bM_product_20 : List Ir := [iC4, (iGO (17) 38)]
def bM_product_24 : List Ir := [iLA0, (iBP 47), (iCV1 275 11 mM_takesSign), (iIFeq (7) 37)]
def bM_product_33 : List Ir := [iC5, (iGO (4) 38)]
def bM_product_37 : List Ir := [iCm1]
def bM_product_38 : List Ir := [iSI1, iLI1, iCm1, (iICne (4) 45)]
def bM_product_44 : List Ir := [iRV]
def bM_product_45 : List Ir := [iLA0, (iCV0 281 11 mM_value), iLA0, iLI1, iC0, (iCV2 259 11 mM_says), (iGO (-51) 4)]
def bM_product_58 : List Ir := [iRV]
def tM_product : Tb := [(0, bM_product_0, 4), (4, bM_product_4, 11), (11, bM_product_11, 20), (20, bM_product_20, 24), (24, bM_product_24, 33), (33, bM_product_33, 37), (37, bM_product_37, 38), (38, bM_product_38, 44), (44, bM_product_44, 45), (45, bM_product_45, 58), (58, bM_product_58, 59)]
theorem fM_product_0 : tbf tM_product 0 = some (bM_product_0, 4) := rfl
theorem fM_product_4 : tbf tM_product 4 = some (bM_product_4, 11) := rfl
theorem fM_product_11 : tbf tM_product 11 = some (bM_product_11, 20) := rfl
theorem fM_product_20 : tbf tM_product 20 = some (bM_product_20, 24) := rfl
theorem fM_product_24 : tbf tM_product 24 = some (bM_product_24, 33) := rfl
theorem fM_product_33 : tbf tM_product 33 = some (bM_product_33, 37) := rfl
theorem fM_product_37 : tbf tM_product 37 = some (bM_product_37, 38) := rfl
theorem fM_product_38 : tbf tM_product 38 = some (bM_product_38, 44) := rfl
theorem fM_product_44 : tbf tM_product 44 = some (bM_product_44, 45) := rfl
theorem fM_product_45 : tbf tM_product 45 = some (bM_product_45, 58) := rfl
theorem fM_product_58 : tbf tM_product 58 = some (bM_product_58, 59) := rfl
theorem kM_product_0 : Bok "HerbWatersModel" prog_14_method_39_code (0, bM_product_0, 4) := ⟨by decide +kernel, (List.forall_mem_cons.mpr ⟨sLA0, (List.forall_mem_cons.mpr ⟨lM_v281, (fun _ h => absurd h List.not_mem_nil)⟩)⟩)⟩
theorem kM_product_4 : Bok "HerbWatersModel" prog_14_method_39_code (4, bM_product_4, 11) := ⟨by decide +kernel, (List.forall_mem_cons.mpr ⟨sLA0, (List.forall_mem_cons.mpr ⟨lM_g139, (List.forall_mem_cons.mpr ⟨sIFne, (fun _ h => absurd h List.not_mem_nil)⟩)⟩)⟩)⟩
theorem kM_product_11 : Bok "HerbWatersModel" prog_14_method_39_code (11, bM_product_11, 20) := ⟨by decide +kernel, (List.forall_mem_cons.mpr ⟨sLA0, (List.forall_mem_cons.mpr ⟨sBP, (List.forall_mem_cons.mpr ⟨lM_v275, (List.forall_mem_cons.mpr ⟨sIFeq, (fun _ h => absurd h List.not_mem_nil)⟩)⟩)⟩)⟩)⟩
theorem kM_product_20 : Bok "HerbWatersModel" prog_14_method_39_code (20, bM_product_20, 24) := ⟨by decide +kernel, (List.forall_mem_cons.mpr ⟨sC4, (List.forall_mem_cons.mpr ⟨sGO, (fun _ h => absurd h List.not_mem_nil)⟩)⟩)⟩
theorem kM_product_24 : Bok "HerbWatersModel" prog_14_method_39_code (24, bM_product_24, 33) := ⟨by decide +kernel, (List.forall_mem_cons.mpr ⟨sLA0, (List.forall_mem_cons.mpr ⟨sBP, (List.forall_mem_cons.mpr ⟨lM_v275, (List.forall_mem_cons.mpr ⟨sIFeq, (fun _ h => absurd h List.not_mem_nil)⟩)⟩)⟩)⟩)⟩
theorem kM_product_33 : Bok "HerbWatersModel" prog_14_method_39_code (33, bM_product_33, 37) := ⟨by decide +kernel, (List.forall_mem_cons.mpr ⟨sC5, (List.forall_mem_cons.mpr ⟨sGO, (fun _ h => absurd h List.not_mem_nil)⟩)⟩)⟩
theorem kM_product_37 : Bok "HerbWatersModel" prog_14_method_39_code (37, bM_product_37, 38) := ⟨by decide +kernel, (List.forall_mem_cons.mpr ⟨sCm1, (fun _ h => absurd h List.not_mem_nil)⟩)⟩
theorem kM_product_38 : Bok "HerbWatersModel" prog_14_method_39_code (38, bM_product_38, 44) := ⟨by decide +kernel, (List.forall_mem_cons.mpr ⟨sSI1, (List.forall_mem_cons.mpr ⟨sLI1, (List.forall_mem_cons.mpr ⟨sCm1, (List.forall_mem_cons.mpr ⟨sICne, (fun _ h => absurd h List.not_mem_nil)⟩)⟩)⟩)⟩)⟩
theorem kM_product_44 : Bok "HerbWatersModel" prog_14_method_39_code (44, bM_product_44, 45) := ⟨by decide +kernel, (List.forall_mem_cons.mpr ⟨sRV, (fun _ h => absurd h List.not_mem_nil)⟩)⟩
theorem kM_product_45 : Bok "HerbWatersModel" prog_14_method_39_code (45, bM_product_45, 58) := ⟨by decide +kernel, (List.forall_mem_cons.mpr ⟨sLA0, (List.forall_mem_cons.mpr ⟨lM_v281, (List.forall_mem_cons.mpr ⟨sLA0, (List.forall_mem_cons.mpr ⟨sLI1, (List.forall_mem_cons.mpr ⟨sC0, (List.forall_mem_cons.mpr ⟨lM_v259, (List.forall_mem_cons.mpr ⟨sGO, (fun _ h => absurd h List.not_mem_nil)⟩)⟩)⟩)⟩)⟩)⟩)⟩)⟩
theorem kM_product_58 : Bok "HerbWatersModel" prog_14_method_39_code (58, bM_product_58, 59) := ⟨by decide +kernel, (List.forall_mem_cons.mpr ⟨sRV, (fun _ h => absurd h List.not_mem_nil)⟩)⟩
theorem kM_product : ∀ q ∈ tM_product, Bok "HerbWatersModel" prog_14_method_39_code q := (List.forall_mem_cons.mpr ⟨kM_product_0, (List.forall_mem_cons.mpr ⟨kM_product_4, (List.forall_mem_cons.mpr ⟨kM_product_11, (List.forall_mem_cons.mpr ⟨kM_product_20, (List.forall_mem_cons.mpr ⟨kM_product_24, (List.forall_mem_cons.mpr ⟨kM_product_33, (List.forall_mem_cons.mpr ⟨kM_product_37, (List.forall_mem_cons.mpr ⟨kM_product_38, (List.forall_mem_cons.mpr ⟨kM_product_44, (List.forall_mem_cons.mpr ⟨kM_product_45, (List.forall_mem_cons.mpr ⟨kM_product_58, (fun _ h => absurd h List.not_mem_nil)⟩)⟩)⟩)⟩)⟩)⟩)⟩)⟩)⟩)⟩)⟩)
theorem lM_g284 : Snd "HerbWatersModel" (iGI 284 11 27) := sGI _ rfl (gtb_mem 1750 (by decide +kernel) rfl)
theorem lM_p284 : Snd "HerbWatersModel" (iPZ 284 11 27) := sPZ _ rfl rfl (gtb_mem 1750 (by decide +kernel) rfl)
def bM_value_0 : List Ir := [iLA0, (iGI 139 11 5), (iIFeq (4) 8)]
def bM_value_7 : List Ir := [iRV]
def bM_value_8 : List Ir := [iLA0, (iCV0 145 11 mM_blanks), iLA0, iLA0, (iGI 132 11 4), (iCV1 135 11 mM_byteAt), (iBP 40), (iICne (42) 64)]
def bM_value_25 : List Ir := [iLA0, (iCV0 265 11 mM_opens), (iIFne (4) 33)]
def bM_value_32 : List Ir := [iRV]
def bM_value_33 : List Ir := [iLA0, iDUPr, (iGI 132 11 4), iC1, iADD, (iPI 132 11 4), iLA0, (iCV0 272 11 mM_sum), iLA0, (iBP 41), (iCV1 208 11 mM_sign), iLA0, iDUPr, (iGI 188 11 8), iC1, iSUB, (iPI 188 11 8), iRV]
def bM_value_64 : List Ir := [iLA0, (iCV0 218 11 mM_herbHere), iSI1, iLI1, iCm1, (iICeq (9) 80)]
def bM_value_74 : List Ir := [iC1, iLI1, iADD, (iGO (90) 167)]
def bM_value_80 : List Ir := [iLA0, (iBP 23), iC1, (iBP 20), iC5, (iBP 18), iC0, iC0, (iCV7 195 11 mM_takes), (iIFeq (7) 101)]
def bM_value_97 : List Ir := [iC0, (iGO (69) 167)]
def bM_value_101 : List Ir := [iLA0, iC4, iC1, (iBP 25), iC0, iC0, iC0, iC0, (iCV7 195 11 mM_takes), (iIFeq (7) 120)]
def bM_value_116 : List Ir := [iC4, (iGO (50) 167)]
def bM_value_120 : List Ir := [iLA0, (iBP 16), (iBP 21), (iBP 20), iC0, iC0, iC0, iC0, (iCV7 195 11 mM_takes), (iIFeq (7) 141)]
def bM_value_137 : List Ir := [iC5, (iGO (29) 167)]
def bM_value_141 : List Ir := [iLA0, (iBP 19), (iBP 16), (iBP 18), (iBP 9), (iBP 14), (iBP 7), iC0, (iCV7 195 11 mM_takes), (iIFeq (8) 166)]
def bM_value_161 : List Ir := [(iBP 6), (iGO (4) 167)]
def bM_value_166 : List Ir := [iCm1]
def bM_value_167 : List Ir := [iSI2, iLA0, iLA0, (iGI 284 11 27), (iIFne (8) 181)]
def bM_value_176 : List Ir := [iLI2, iC4, (iICne (7) 185)]
def bM_value_181 : List Ir := [iC1, (iGO (4) 186)]
def bM_value_185 : List Ir := [iC0]
def bM_value_186 : List Ir := [(iPZ 284 11 27), iLI2, iCm1, (iICne (19) 210)]
def bM_value_194 : List Ir := [iLA0, iC0, iLA0, iC0, (iSP 999), (iCV2 191 11 mM_number), (iCV2 259 11 mM_says), (iGO (9) 216)]
def bM_value_210 : List Ir := [iLA0, iC1, iLI2, (iCV2 259 11 mM_says)]
def bM_value_216 : List Ir := [iRV]
def tM_value : Tb := [(0, bM_value_0, 7), (7, bM_value_7, 8), (8, bM_value_8, 25), (25, bM_value_25, 32), (32, bM_value_32, 33), (33, bM_value_33, 64), (64, bM_value_64, 74), (74, bM_value_74, 80), (80, bM_value_80, 97), (97, bM_value_97, 101), (101, bM_value_101, 116), (116, bM_value_116, 120), (120, bM_value_120, 137), (137, bM_value_137, 141), (141, bM_value_141, 161), (161, bM_value_161, 166), (166, bM_value_166, 167), (167, bM_value_167, 176), (176, bM_value_176, 181), (181, bM_value_181, 185), (185, bM_value_185, 186), (186, bM_value_186, 194), (194, bM_value_194, 210), (210, bM_value_210, 216), (216, bM_value_216, 217)]
theorem fM_value_0 : tbf tM_value 0 = some (bM_value_0, 7) := rfl
theorem fM_value_7 : tbf tM_value 7 = some (bM_value_7, 8) := rfl
theorem fM_value_8 : tbf tM_value 8 = some (bM_value_8, 25) := rfl
theorem fM_value_25 : tbf tM_value 25 = some (bM_value_25, 32) := rfl
theorem fM_value_32 : tbf tM_value 32 = some (bM_value_32, 33) := rfl
theorem fM_value_33 : tbf tM_value 33 = some (bM_value_33, 64) := rfl
theorem fM_value_64 : tbf tM_value 64 = some (bM_value_64, 74) := rfl
theorem fM_value_74 : tbf tM_value 74 = some (bM_value_74, 80) := rfl
theorem fM_value_80 : tbf tM_value 80 = some (bM_value_80, 97) := rfl
theorem fM_value_97 : tbf tM_value 97 = some (bM_value_97, 101) := rfl
theorem fM_value_101 : tbf tM_value 101 = some (bM_value_101, 116) := rfl
theorem fM_value_116 : tbf tM_value 116 = some (bM_value_116, 120) := rfl
theorem fM_value_120 : tbf tM_value 120 = some (bM_value_120, 137) := rfl
theorem fM_value_137 : tbf tM_value 137 = some (bM_value_137, 141) := rfl
theorem fM_value_141 : tbf tM_value 141 = some (bM_value_141, 161) := rfl
theorem fM_value_161 : tbf tM_value 161 = some (bM_value_161, 166) := rfl
theorem fM_value_166 : tbf tM_value 166 = some (bM_value_166, 167) := rfl
theorem fM_value_167 : tbf tM_value 167 = some (bM_value_167, 176) := rfl
theorem fM_value_176 : tbf tM_value 176 = some (bM_value_176, 181) := rfl
theorem fM_value_181 : tbf tM_value 181 = some (bM_value_181, 185) := rfl
theorem fM_value_185 : tbf tM_value 185 = some (bM_value_185, 186) := rfl
theorem fM_value_186 : tbf tM_value 186 = some (bM_value_186, 194) := rfl
theorem fM_value_194 : tbf tM_value 194 = some (bM_value_194, 210) := rfl
theorem fM_value_210 : tbf tM_value 210 = some (bM_value_210, 216) := rfl
theorem fM_value_216 : tbf tM_value 216 = some (bM_value_216, 217) := rfl
theorem kM_value_0 : Bok "HerbWatersModel" prog_14_method_40_code (0, bM_value_0, 7) := ⟨by decide +kernel, (List.forall_mem_cons.mpr ⟨sLA0, (List.forall_mem_cons.mpr ⟨lM_g139, (List.forall_mem_cons.mpr ⟨sIFeq, (fun _ h => absurd h List.not_mem_nil)⟩)⟩)⟩)⟩
theorem kM_value_7 : Bok "HerbWatersModel" prog_14_method_40_code (7, bM_value_7, 8) := ⟨by decide +kernel, (List.forall_mem_cons.mpr ⟨sRV, (fun _ h => absurd h List.not_mem_nil)⟩)⟩
theorem kM_value_8 : Bok "HerbWatersModel" prog_14_method_40_code (8, bM_value_8, 25) := ⟨by decide +kernel, (List.forall_mem_cons.mpr ⟨sLA0, (List.forall_mem_cons.mpr ⟨lM_v145, (List.forall_mem_cons.mpr ⟨sLA0, (List.forall_mem_cons.mpr ⟨sLA0, (List.forall_mem_cons.mpr ⟨lM_g132, (List.forall_mem_cons.mpr ⟨lM_v135, (List.forall_mem_cons.mpr ⟨sBP, (List.forall_mem_cons.mpr ⟨sICne, (fun _ h => absurd h List.not_mem_nil)⟩)⟩)⟩)⟩)⟩)⟩)⟩)⟩)⟩
theorem kM_value_25 : Bok "HerbWatersModel" prog_14_method_40_code (25, bM_value_25, 32) := ⟨by decide +kernel, (List.forall_mem_cons.mpr ⟨sLA0, (List.forall_mem_cons.mpr ⟨lM_v265, (List.forall_mem_cons.mpr ⟨sIFne, (fun _ h => absurd h List.not_mem_nil)⟩)⟩)⟩)⟩
theorem kM_value_32 : Bok "HerbWatersModel" prog_14_method_40_code (32, bM_value_32, 33) := ⟨by decide +kernel, (List.forall_mem_cons.mpr ⟨sRV, (fun _ h => absurd h List.not_mem_nil)⟩)⟩
theorem kM_value_33 : Bok "HerbWatersModel" prog_14_method_40_code (33, bM_value_33, 64) := ⟨by decide +kernel, (List.forall_mem_cons.mpr ⟨sLA0, (List.forall_mem_cons.mpr ⟨sDUPr, (List.forall_mem_cons.mpr ⟨lM_g132, (List.forall_mem_cons.mpr ⟨sC1, (List.forall_mem_cons.mpr ⟨sADD, (List.forall_mem_cons.mpr ⟨lM_p132, (List.forall_mem_cons.mpr ⟨sLA0, (List.forall_mem_cons.mpr ⟨lM_v272, (List.forall_mem_cons.mpr ⟨sLA0, (List.forall_mem_cons.mpr ⟨sBP, (List.forall_mem_cons.mpr ⟨lM_v208, (List.forall_mem_cons.mpr ⟨sLA0, (List.forall_mem_cons.mpr ⟨sDUPr, (List.forall_mem_cons.mpr ⟨lM_g188, (List.forall_mem_cons.mpr ⟨sC1, (List.forall_mem_cons.mpr ⟨sSUB, (List.forall_mem_cons.mpr ⟨lM_p188, (List.forall_mem_cons.mpr ⟨sRV, (fun _ h => absurd h List.not_mem_nil)⟩)⟩)⟩)⟩)⟩)⟩)⟩)⟩)⟩)⟩)⟩)⟩)⟩)⟩)⟩)⟩)⟩)⟩)⟩
theorem kM_value_64 : Bok "HerbWatersModel" prog_14_method_40_code (64, bM_value_64, 74) := ⟨by decide +kernel, (List.forall_mem_cons.mpr ⟨sLA0, (List.forall_mem_cons.mpr ⟨lM_v218, (List.forall_mem_cons.mpr ⟨sSI1, (List.forall_mem_cons.mpr ⟨sLI1, (List.forall_mem_cons.mpr ⟨sCm1, (List.forall_mem_cons.mpr ⟨sICeq, (fun _ h => absurd h List.not_mem_nil)⟩)⟩)⟩)⟩)⟩)⟩)⟩
theorem kM_value_74 : Bok "HerbWatersModel" prog_14_method_40_code (74, bM_value_74, 80) := ⟨by decide +kernel, (List.forall_mem_cons.mpr ⟨sC1, (List.forall_mem_cons.mpr ⟨sLI1, (List.forall_mem_cons.mpr ⟨sADD, (List.forall_mem_cons.mpr ⟨sGO, (fun _ h => absurd h List.not_mem_nil)⟩)⟩)⟩)⟩)⟩
theorem kM_value_80 : Bok "HerbWatersModel" prog_14_method_40_code (80, bM_value_80, 97) := ⟨by decide +kernel, (List.forall_mem_cons.mpr ⟨sLA0, (List.forall_mem_cons.mpr ⟨sBP, (List.forall_mem_cons.mpr ⟨sC1, (List.forall_mem_cons.mpr ⟨sBP, (List.forall_mem_cons.mpr ⟨sC5, (List.forall_mem_cons.mpr ⟨sBP, (List.forall_mem_cons.mpr ⟨sC0, (List.forall_mem_cons.mpr ⟨sC0, (List.forall_mem_cons.mpr ⟨lM_v195, (List.forall_mem_cons.mpr ⟨sIFeq, (fun _ h => absurd h List.not_mem_nil)⟩)⟩)⟩)⟩)⟩)⟩)⟩)⟩)⟩)⟩)⟩
theorem kM_value_97 : Bok "HerbWatersModel" prog_14_method_40_code (97, bM_value_97, 101) := ⟨by decide +kernel, (List.forall_mem_cons.mpr ⟨sC0, (List.forall_mem_cons.mpr ⟨sGO, (fun _ h => absurd h List.not_mem_nil)⟩)⟩)⟩
theorem kM_value_101 : Bok "HerbWatersModel" prog_14_method_40_code (101, bM_value_101, 116) := ⟨by decide +kernel, (List.forall_mem_cons.mpr ⟨sLA0, (List.forall_mem_cons.mpr ⟨sC4, (List.forall_mem_cons.mpr ⟨sC1, (List.forall_mem_cons.mpr ⟨sBP, (List.forall_mem_cons.mpr ⟨sC0, (List.forall_mem_cons.mpr ⟨sC0, (List.forall_mem_cons.mpr ⟨sC0, (List.forall_mem_cons.mpr ⟨sC0, (List.forall_mem_cons.mpr ⟨lM_v195, (List.forall_mem_cons.mpr ⟨sIFeq, (fun _ h => absurd h List.not_mem_nil)⟩)⟩)⟩)⟩)⟩)⟩)⟩)⟩)⟩)⟩)⟩
theorem kM_value_116 : Bok "HerbWatersModel" prog_14_method_40_code (116, bM_value_116, 120) := ⟨by decide +kernel, (List.forall_mem_cons.mpr ⟨sC4, (List.forall_mem_cons.mpr ⟨sGO, (fun _ h => absurd h List.not_mem_nil)⟩)⟩)⟩
theorem kM_value_120 : Bok "HerbWatersModel" prog_14_method_40_code (120, bM_value_120, 137) := ⟨by decide +kernel, (List.forall_mem_cons.mpr ⟨sLA0, (List.forall_mem_cons.mpr ⟨sBP, (List.forall_mem_cons.mpr ⟨sBP, (List.forall_mem_cons.mpr ⟨sBP, (List.forall_mem_cons.mpr ⟨sC0, (List.forall_mem_cons.mpr ⟨sC0, (List.forall_mem_cons.mpr ⟨sC0, (List.forall_mem_cons.mpr ⟨sC0, (List.forall_mem_cons.mpr ⟨lM_v195, (List.forall_mem_cons.mpr ⟨sIFeq, (fun _ h => absurd h List.not_mem_nil)⟩)⟩)⟩)⟩)⟩)⟩)⟩)⟩)⟩)⟩)⟩
theorem kM_value_137 : Bok "HerbWatersModel" prog_14_method_40_code (137, bM_value_137, 141) := ⟨by decide +kernel, (List.forall_mem_cons.mpr ⟨sC5, (List.forall_mem_cons.mpr ⟨sGO, (fun _ h => absurd h List.not_mem_nil)⟩)⟩)⟩
theorem kM_value_141 : Bok "HerbWatersModel" prog_14_method_40_code (141, bM_value_141, 161) := ⟨by decide +kernel, (List.forall_mem_cons.mpr ⟨sLA0, (List.forall_mem_cons.mpr ⟨sBP, (List.forall_mem_cons.mpr ⟨sBP, (List.forall_mem_cons.mpr ⟨sBP, (List.forall_mem_cons.mpr ⟨sBP, (List.forall_mem_cons.mpr ⟨sBP, (List.forall_mem_cons.mpr ⟨sBP, (List.forall_mem_cons.mpr ⟨sC0, (List.forall_mem_cons.mpr ⟨lM_v195, (List.forall_mem_cons.mpr ⟨sIFeq, (fun _ h => absurd h List.not_mem_nil)⟩)⟩)⟩)⟩)⟩)⟩)⟩)⟩)⟩)⟩)⟩
theorem kM_value_161 : Bok "HerbWatersModel" prog_14_method_40_code (161, bM_value_161, 166) := ⟨by decide +kernel, (List.forall_mem_cons.mpr ⟨sBP, (List.forall_mem_cons.mpr ⟨sGO, (fun _ h => absurd h List.not_mem_nil)⟩)⟩)⟩
theorem kM_value_166 : Bok "HerbWatersModel" prog_14_method_40_code (166, bM_value_166, 167) := ⟨by decide +kernel, (List.forall_mem_cons.mpr ⟨sCm1, (fun _ h => absurd h List.not_mem_nil)⟩)⟩
theorem kM_value_167 : Bok "HerbWatersModel" prog_14_method_40_code (167, bM_value_167, 176) := ⟨by decide +kernel, (List.forall_mem_cons.mpr ⟨sSI2, (List.forall_mem_cons.mpr ⟨sLA0, (List.forall_mem_cons.mpr ⟨sLA0, (List.forall_mem_cons.mpr ⟨lM_g284, (List.forall_mem_cons.mpr ⟨sIFne, (fun _ h => absurd h List.not_mem_nil)⟩)⟩)⟩)⟩)⟩)⟩
theorem kM_value_176 : Bok "HerbWatersModel" prog_14_method_40_code (176, bM_value_176, 181) := ⟨by decide +kernel, (List.forall_mem_cons.mpr ⟨sLI2, (List.forall_mem_cons.mpr ⟨sC4, (List.forall_mem_cons.mpr ⟨sICne, (fun _ h => absurd h List.not_mem_nil)⟩)⟩)⟩)⟩
theorem kM_value_181 : Bok "HerbWatersModel" prog_14_method_40_code (181, bM_value_181, 185) := ⟨by decide +kernel, (List.forall_mem_cons.mpr ⟨sC1, (List.forall_mem_cons.mpr ⟨sGO, (fun _ h => absurd h List.not_mem_nil)⟩)⟩)⟩
theorem kM_value_185 : Bok "HerbWatersModel" prog_14_method_40_code (185, bM_value_185, 186) := ⟨by decide +kernel, (List.forall_mem_cons.mpr ⟨sC0, (fun _ h => absurd h List.not_mem_nil)⟩)⟩
theorem kM_value_186 : Bok "HerbWatersModel" prog_14_method_40_code (186, bM_value_186, 194) := ⟨by decide +kernel, (List.forall_mem_cons.mpr ⟨lM_p284, (List.forall_mem_cons.mpr ⟨sLI2, (List.forall_mem_cons.mpr ⟨sCm1, (List.forall_mem_cons.mpr ⟨sICne, (fun _ h => absurd h List.not_mem_nil)⟩)⟩)⟩)⟩)⟩
theorem kM_value_194 : Bok "HerbWatersModel" prog_14_method_40_code (194, bM_value_194, 210) := ⟨by decide +kernel, (List.forall_mem_cons.mpr ⟨sLA0, (List.forall_mem_cons.mpr ⟨sC0, (List.forall_mem_cons.mpr ⟨sLA0, (List.forall_mem_cons.mpr ⟨sC0, (List.forall_mem_cons.mpr ⟨sSP, (List.forall_mem_cons.mpr ⟨lM_v191, (List.forall_mem_cons.mpr ⟨lM_v259, (List.forall_mem_cons.mpr ⟨sGO, (fun _ h => absurd h List.not_mem_nil)⟩)⟩)⟩)⟩)⟩)⟩)⟩)⟩)⟩
theorem kM_value_210 : Bok "HerbWatersModel" prog_14_method_40_code (210, bM_value_210, 216) := ⟨by decide +kernel, (List.forall_mem_cons.mpr ⟨sLA0, (List.forall_mem_cons.mpr ⟨sC1, (List.forall_mem_cons.mpr ⟨sLI2, (List.forall_mem_cons.mpr ⟨lM_v259, (fun _ h => absurd h List.not_mem_nil)⟩)⟩)⟩)⟩)⟩
theorem kM_value_216 : Bok "HerbWatersModel" prog_14_method_40_code (216, bM_value_216, 217) := ⟨by decide +kernel, (List.forall_mem_cons.mpr ⟨sRV, (fun _ h => absurd h List.not_mem_nil)⟩)⟩
theorem kM_value : ∀ q ∈ tM_value, Bok "HerbWatersModel" prog_14_method_40_code q := (List.forall_mem_cons.mpr ⟨kM_value_0, (List.forall_mem_cons.mpr ⟨kM_value_7, (List.forall_mem_cons.mpr ⟨kM_value_8, (List.forall_mem_cons.mpr ⟨kM_value_25, (List.forall_mem_cons.mpr ⟨kM_value_32, (List.forall_mem_cons.mpr ⟨kM_value_33, (List.forall_mem_cons.mpr ⟨kM_value_64, (List.forall_mem_cons.mpr ⟨kM_value_74, (List.forall_mem_cons.mpr ⟨kM_value_80, (List.forall_mem_cons.mpr ⟨kM_value_97, (List.forall_mem_cons.mpr ⟨kM_value_101, (List.forall_mem_cons.mpr ⟨kM_value_116, (List.forall_mem_cons.mpr ⟨kM_value_120, (List.forall_mem_cons.mpr ⟨kM_value_137, (List.forall_mem_cons.mpr ⟨kM_value_141, (List.forall_mem_cons.mpr ⟨kM_value_161, (List.forall_mem_cons.mpr ⟨kM_value_166, (List.forall_mem_cons.mpr ⟨kM_value_167, (List.forall_mem_cons.mpr ⟨kM_value_176, (List.forall_mem_cons.mpr ⟨kM_value_181, (List.forall_mem_cons.mpr ⟨kM_value_185, (List.forall_mem_cons.mpr ⟨kM_value_186, (List.forall_mem_cons.mpr ⟨kM_value_194, (List.forall_mem_cons.mpr ⟨kM_value_210, (List.forall_mem_cons.mpr ⟨kM_value_216, (fun _ h => absurd h List.not_mem_nil)⟩)⟩)⟩)⟩)⟩)⟩)⟩)⟩)⟩)⟩)⟩)⟩)⟩)⟩)⟩)⟩)⟩)⟩)⟩)⟩)⟩)⟩)⟩)⟩)⟩)
def mM_partHere : Mt := (⟨"HerbWatersModel", "partHere", "()V"⟩, prog_14_method_41_code, 3, none)
theorem ok_M_partHere : Mok mM_partHere := ⟨gtb_mem 2007 (by decide +kernel) rfl, gtb_mem 107 (by decide +kernel) rfl, by decide +kernel, by decide⟩
theorem lM_g287 : Snd "HerbWatersModel" (iGI 287 11 25) := sGI _ rfl (gtb_mem 1748 (by decide +kernel) rfl)
theorem lM_p287 : Snd "HerbWatersModel" (iPI 287 11 25) := sPI _ rfl rfl (gtb_mem 1748 (by decide +kernel) rfl)
theorem lM_g53 : Snd "HerbWatersModel" (iGR 53 11 21) := sGR _ rfl (gtb_mem 1744 (by decide +kernel) rfl)
def bM_partHere_0 : List Ir := [iLA0, (iBP 16), (iBP 21), (iBP 20), iC0, iC0, iC0, iC0, (iCV7 178 11 mM_isWord), (iIFne (15) 29)]
def bM_partHere_17 : List Ir := [iLA0, iC1, iLA0, (iGI 132 11 4), (iCV2 152 11 mM_wrong), (iGO (21) 47)]
def bM_partHere_29 : List Ir := [iLA0, (iGI 287 11 25), (iBP 6), (iICne (12) 47)]
def bM_partHere_38 : List Ir := [iLA0, iC3, iLA0, (iGI 132 11 4), (iCV2 152 11 mM_wrong)]
def bM_partHere_47 : List Ir := [iLA0, (iGI 139 11 5), (iIFeq (4) 55)]
def bM_partHere_54 : List Ir := [iRV]
def bM_partHere_55 : List Ir := [iLA0, (iCV0 182 11 mM_skipWord), iLA0, (iCV0 218 11 mM_herbHere), iSI1, iC4, iLA0, (iGI 287 11 25), iMUL, iSI2, iLI1, iCm1, (iICne (12) 85)]
def bM_partHere_76 : List Ir := [iLA0, iC1, iLA0, (iGI 132 11 4), (iCV2 152 11 mM_wrong)]
def bM_partHere_85 : List Ir := [iLA0, (iGI 139 11 5), (iIFeq (4) 93)]
def bM_partHere_92 : List Ir := [iRV]
def bM_partHere_93 : List Ir := [iLA0, iDUPr, (iGI 287 11 25), iC1, iADD, (iPI 287 11 25), iLA0, (iGR 53 11 21), iLI2, iLI1, iIAST, iLA0, (iGR 53 11 21), iLI2, iC1, iADD, iLA0, (iGI 253 11 26), iIAST, iLA0, (iCV0 272 11 mM_sum), iLA0, (iGR 53 11 21), iLI2, iC2, iADD, iLA0, (iGI 253 11 26), iIAST, iLA0, (iBP 9), (iBP 6), iC0, iC0, iC0, iC0, iC0, (iCV7 195 11 mM_takes), (iIFeq (7) 158)]
def bM_partHere_154 : List Ir := [iLA0, (iCV0 269 11 mM_anyOf)]
def bM_partHere_158 : List Ir := [iLA0, (iGR 53 11 21), iLI2, iC3, iADD, iLA0, (iGI 253 11 26), iIAST, iLA0, (iBP 59), (iCV1 208 11 mM_sign), iRV]
def tM_partHere : Tb := [(0, bM_partHere_0, 17), (17, bM_partHere_17, 29), (29, bM_partHere_29, 38), (38, bM_partHere_38, 47), (47, bM_partHere_47, 54), (54, bM_partHere_54, 55), (55, bM_partHere_55, 76), (76, bM_partHere_76, 85), (85, bM_partHere_85, 92), (92, bM_partHere_92, 93), (93, bM_partHere_93, 154), (154, bM_partHere_154, 158), (158, bM_partHere_158, 177)]
theorem fM_partHere_0 : tbf tM_partHere 0 = some (bM_partHere_0, 17) := rfl
theorem fM_partHere_17 : tbf tM_partHere 17 = some (bM_partHere_17, 29) := rfl
theorem fM_partHere_29 : tbf tM_partHere 29 = some (bM_partHere_29, 38) := rfl
theorem fM_partHere_38 : tbf tM_partHere 38 = some (bM_partHere_38, 47) := rfl
theorem fM_partHere_47 : tbf tM_partHere 47 = some (bM_partHere_47, 54) := rfl
theorem fM_partHere_54 : tbf tM_partHere 54 = some (bM_partHere_54, 55) := rfl
theorem fM_partHere_55 : tbf tM_partHere 55 = some (bM_partHere_55, 76) := rfl
theorem fM_partHere_76 : tbf tM_partHere 76 = some (bM_partHere_76, 85) := rfl
theorem fM_partHere_85 : tbf tM_partHere 85 = some (bM_partHere_85, 92) := rfl
theorem fM_partHere_92 : tbf tM_partHere 92 = some (bM_partHere_92, 93) := rfl
theorem fM_partHere_93 : tbf tM_partHere 93 = some (bM_partHere_93, 154) := rfl
theorem fM_partHere_154 : tbf tM_partHere 154 = some (bM_partHere_154, 158) := rfl
theorem fM_partHere_158 : tbf tM_partHere 158 = some (bM_partHere_158, 177) := rfl
theorem kM_partHere_0 : Bok "HerbWatersModel" prog_14_method_41_code (0, bM_partHere_0, 17) := ⟨by decide +kernel, (List.forall_mem_cons.mpr ⟨sLA0, (List.forall_mem_cons.mpr ⟨sBP, (List.forall_mem_cons.mpr ⟨sBP, (List.forall_mem_cons.mpr ⟨sBP, (List.forall_mem_cons.mpr ⟨sC0, (List.forall_mem_cons.mpr ⟨sC0, (List.forall_mem_cons.mpr ⟨sC0, (List.forall_mem_cons.mpr ⟨sC0, (List.forall_mem_cons.mpr ⟨lM_v178, (List.forall_mem_cons.mpr ⟨sIFne, (fun _ h => absurd h List.not_mem_nil)⟩)⟩)⟩)⟩)⟩)⟩)⟩)⟩)⟩)⟩)⟩
theorem kM_partHere_17 : Bok "HerbWatersModel" prog_14_method_41_code (17, bM_partHere_17, 29) := ⟨by decide +kernel, (List.forall_mem_cons.mpr ⟨sLA0, (List.forall_mem_cons.mpr ⟨sC1, (List.forall_mem_cons.mpr ⟨sLA0, (List.forall_mem_cons.mpr ⟨lM_g132, (List.forall_mem_cons.mpr ⟨lM_v152, (List.forall_mem_cons.mpr ⟨sGO, (fun _ h => absurd h List.not_mem_nil)⟩)⟩)⟩)⟩)⟩)⟩)⟩
theorem kM_partHere_29 : Bok "HerbWatersModel" prog_14_method_41_code (29, bM_partHere_29, 38) := ⟨by decide +kernel, (List.forall_mem_cons.mpr ⟨sLA0, (List.forall_mem_cons.mpr ⟨lM_g287, (List.forall_mem_cons.mpr ⟨sBP, (List.forall_mem_cons.mpr ⟨sICne, (fun _ h => absurd h List.not_mem_nil)⟩)⟩)⟩)⟩)⟩
theorem kM_partHere_38 : Bok "HerbWatersModel" prog_14_method_41_code (38, bM_partHere_38, 47) := ⟨by decide +kernel, (List.forall_mem_cons.mpr ⟨sLA0, (List.forall_mem_cons.mpr ⟨sC3, (List.forall_mem_cons.mpr ⟨sLA0, (List.forall_mem_cons.mpr ⟨lM_g132, (List.forall_mem_cons.mpr ⟨lM_v152, (fun _ h => absurd h List.not_mem_nil)⟩)⟩)⟩)⟩)⟩)⟩
theorem kM_partHere_47 : Bok "HerbWatersModel" prog_14_method_41_code (47, bM_partHere_47, 54) := ⟨by decide +kernel, (List.forall_mem_cons.mpr ⟨sLA0, (List.forall_mem_cons.mpr ⟨lM_g139, (List.forall_mem_cons.mpr ⟨sIFeq, (fun _ h => absurd h List.not_mem_nil)⟩)⟩)⟩)⟩
theorem kM_partHere_54 : Bok "HerbWatersModel" prog_14_method_41_code (54, bM_partHere_54, 55) := ⟨by decide +kernel, (List.forall_mem_cons.mpr ⟨sRV, (fun _ h => absurd h List.not_mem_nil)⟩)⟩
theorem kM_partHere_55 : Bok "HerbWatersModel" prog_14_method_41_code (55, bM_partHere_55, 76) := ⟨by decide +kernel, (List.forall_mem_cons.mpr ⟨sLA0, (List.forall_mem_cons.mpr ⟨lM_v182, (List.forall_mem_cons.mpr ⟨sLA0, (List.forall_mem_cons.mpr ⟨lM_v218, (List.forall_mem_cons.mpr ⟨sSI1, (List.forall_mem_cons.mpr ⟨sC4, (List.forall_mem_cons.mpr ⟨sLA0, (List.forall_mem_cons.mpr ⟨lM_g287, (List.forall_mem_cons.mpr ⟨sMUL, (List.forall_mem_cons.mpr ⟨sSI2, (List.forall_mem_cons.mpr ⟨sLI1, (List.forall_mem_cons.mpr ⟨sCm1, (List.forall_mem_cons.mpr ⟨sICne, (fun _ h => absurd h List.not_mem_nil)⟩)⟩)⟩)⟩)⟩)⟩)⟩)⟩)⟩)⟩)⟩)⟩)⟩)⟩
theorem kM_partHere_76 : Bok "HerbWatersModel" prog_14_method_41_code (76, bM_partHere_76, 85) := ⟨by decide +kernel, (List.forall_mem_cons.mpr ⟨sLA0, (List.forall_mem_cons.mpr ⟨sC1, (List.forall_mem_cons.mpr ⟨sLA0, (List.forall_mem_cons.mpr ⟨lM_g132, (List.forall_mem_cons.mpr ⟨lM_v152, (fun _ h => absurd h List.not_mem_nil)⟩)⟩)⟩)⟩)⟩)⟩
theorem kM_partHere_85 : Bok "HerbWatersModel" prog_14_method_41_code (85, bM_partHere_85, 92) := ⟨by decide +kernel, (List.forall_mem_cons.mpr ⟨sLA0, (List.forall_mem_cons.mpr ⟨lM_g139, (List.forall_mem_cons.mpr ⟨sIFeq, (fun _ h => absurd h List.not_mem_nil)⟩)⟩)⟩)⟩
theorem kM_partHere_92 : Bok "HerbWatersModel" prog_14_method_41_code (92, bM_partHere_92, 93) := ⟨by decide +kernel, (List.forall_mem_cons.mpr ⟨sRV, (fun _ h => absurd h List.not_mem_nil)⟩)⟩
theorem kM_partHere_93 : Bok "HerbWatersModel" prog_14_method_41_code (93, bM_partHere_93, 154) := ⟨by decide +kernel, (List.forall_mem_cons.mpr ⟨sLA0, (List.forall_mem_cons.mpr ⟨sDUPr, (List.forall_mem_cons.mpr ⟨lM_g287, (List.forall_mem_cons.mpr ⟨sC1, (List.forall_mem_cons.mpr ⟨sADD, (List.forall_mem_cons.mpr ⟨lM_p287, (List.forall_mem_cons.mpr ⟨sLA0, (List.forall_mem_cons.mpr ⟨lM_g53, (List.forall_mem_cons.mpr ⟨sLI2, (List.forall_mem_cons.mpr ⟨sLI1, (List.forall_mem_cons.mpr ⟨sIAST, (List.forall_mem_cons.mpr ⟨sLA0, (List.forall_mem_cons.mpr ⟨lM_g53, (List.forall_mem_cons.mpr ⟨sLI2, (List.forall_mem_cons.mpr ⟨sC1, (List.forall_mem_cons.mpr ⟨sADD, (List.forall_mem_cons.mpr ⟨sLA0, (List.forall_mem_cons.mpr ⟨lM_g253, (List.forall_mem_cons.mpr ⟨sIAST, (List.forall_mem_cons.mpr ⟨sLA0, (List.forall_mem_cons.mpr ⟨lM_v272, (List.forall_mem_cons.mpr ⟨sLA0, (List.forall_mem_cons.mpr ⟨lM_g53, (List.forall_mem_cons.mpr ⟨sLI2, (List.forall_mem_cons.mpr ⟨sC2, (List.forall_mem_cons.mpr ⟨sADD, (List.forall_mem_cons.mpr ⟨sLA0, (List.forall_mem_cons.mpr ⟨lM_g253, (List.forall_mem_cons.mpr ⟨sIAST, (List.forall_mem_cons.mpr ⟨sLA0, (List.forall_mem_cons.mpr ⟨sBP, (List.forall_mem_cons.mpr ⟨sBP, (List.forall_mem_cons.mpr ⟨sC0, (List.forall_mem_cons.mpr ⟨sC0, (List.forall_mem_cons.mpr ⟨sC0, (List.forall_mem_cons.mpr ⟨sC0, (List.forall_mem_cons.mpr ⟨sC0, (List.forall_mem_cons.mpr ⟨lM_v195, (List.forall_mem_cons.mpr ⟨sIFeq, (fun _ h => absurd h List.not_mem_nil)⟩)⟩)⟩)⟩)⟩)⟩)⟩)⟩)⟩)⟩)⟩)⟩)⟩)⟩)⟩)⟩)⟩)⟩)⟩)⟩)⟩)⟩)⟩)⟩)⟩)⟩)⟩)⟩)⟩)⟩)⟩)⟩)⟩)⟩)⟩)⟩)⟩)⟩)⟩)⟩
theorem kM_partHere_154 : Bok "HerbWatersModel" prog_14_method_41_code (154, bM_partHere_154, 158) := ⟨by decide +kernel, (List.forall_mem_cons.mpr ⟨sLA0, (List.forall_mem_cons.mpr ⟨lM_v269, (fun _ h => absurd h List.not_mem_nil)⟩)⟩)⟩
theorem kM_partHere_158 : Bok "HerbWatersModel" prog_14_method_41_code (158, bM_partHere_158, 177) := ⟨by decide +kernel, (List.forall_mem_cons.mpr ⟨sLA0, (List.forall_mem_cons.mpr ⟨lM_g53, (List.forall_mem_cons.mpr ⟨sLI2, (List.forall_mem_cons.mpr ⟨sC3, (List.forall_mem_cons.mpr ⟨sADD, (List.forall_mem_cons.mpr ⟨sLA0, (List.forall_mem_cons.mpr ⟨lM_g253, (List.forall_mem_cons.mpr ⟨sIAST, (List.forall_mem_cons.mpr ⟨sLA0, (List.forall_mem_cons.mpr ⟨sBP, (List.forall_mem_cons.mpr ⟨lM_v208, (List.forall_mem_cons.mpr ⟨sRV, (fun _ h => absurd h List.not_mem_nil)⟩)⟩)⟩)⟩)⟩)⟩)⟩)⟩)⟩)⟩)⟩)⟩)⟩
theorem kM_partHere : ∀ q ∈ tM_partHere, Bok "HerbWatersModel" prog_14_method_41_code q := (List.forall_mem_cons.mpr ⟨kM_partHere_0, (List.forall_mem_cons.mpr ⟨kM_partHere_17, (List.forall_mem_cons.mpr ⟨kM_partHere_29, (List.forall_mem_cons.mpr ⟨kM_partHere_38, (List.forall_mem_cons.mpr ⟨kM_partHere_47, (List.forall_mem_cons.mpr ⟨kM_partHere_54, (List.forall_mem_cons.mpr ⟨kM_partHere_55, (List.forall_mem_cons.mpr ⟨kM_partHere_76, (List.forall_mem_cons.mpr ⟨kM_partHere_85, (List.forall_mem_cons.mpr ⟨kM_partHere_92, (List.forall_mem_cons.mpr ⟨kM_partHere_93, (List.forall_mem_cons.mpr ⟨kM_partHere_154, (List.forall_mem_cons.mpr ⟨kM_partHere_158, (fun _ h => absurd h List.not_mem_nil)⟩)⟩)⟩)⟩)⟩)⟩)⟩)⟩)⟩)⟩)⟩)⟩)⟩)
def mM_isVillage : Mt := (⟨"HerbWatersModel", "isVillage", "(I)Z"⟩, prog_14_method_42_code, 2, some .boolean)
theorem ok_M_isVillage : Mok mM_isVillage := ⟨gtb_mem 2003 (by decide +kernel) rfl, gtb_mem 107 (by decide +kernel) rfl, by decide +kernel, by decide⟩
def bM_isVillage_0 : List Ir := [iLI1, iC0, iLA0, (iGR 23 11 12), iC0, iIALD, iC1, iSUB, (iCS3 157 mM_in), iRI]
def tM_isVillage : Tb := [(0, bM_isVillage_0, 14)]
theorem fM_isVillage_0 : tbf tM_isVillage 0 = some (bM_isVillage_0, 14) := rfl
theorem kM_isVillage_0 : Bok "HerbWatersModel" prog_14_method_42_code (0, bM_isVillage_0, 14) := ⟨by decide +kernel, (List.forall_mem_cons.mpr ⟨sLI1, (List.forall_mem_cons.mpr ⟨sC0, (List.forall_mem_cons.mpr ⟨sLA0, (List.forall_mem_cons.mpr ⟨lM_g23, (List.forall_mem_cons.mpr ⟨sC0, (List.forall_mem_cons.mpr ⟨sIALD, (List.forall_mem_cons.mpr ⟨sC1, (List.forall_mem_cons.mpr ⟨sSUB, (List.forall_mem_cons.mpr ⟨lM_s157, (List.forall_mem_cons.mpr ⟨sRI, (fun _ h => absurd h List.not_mem_nil)⟩)⟩)⟩)⟩)⟩)⟩)⟩)⟩)⟩)⟩)⟩
theorem kM_isVillage : ∀ q ∈ tM_isVillage, Bok "HerbWatersModel" prog_14_method_42_code q := (List.forall_mem_cons.mpr ⟨kM_isVillage_0, (fun _ h => absurd h List.not_mem_nil)⟩)
def mM_opinion : Mt := (⟨"HerbWatersModel", "opinion", "(II)I"⟩, prog_14_method_43_code, 4, some .int)
theorem ok_M_opinion : Mok mM_opinion := ⟨gtb_mem 1999 (by decide +kernel) rfl, gtb_mem 107 (by decide +kernel) rfl, by decide +kernel, by decide⟩
theorem lM_v290 : Snd "HerbWatersModel" (iCV1 290 11 mM_isVillage) := sCV1 _ rfl rfl ok_M_isVillage (gtb_mem 2002 (by decide +kernel) rfl) (gtb_mem 61 (by decide +kernel) rfl) (gtb_mem 2000 (by decide +kernel) rfl)
theorem lM_v293 : Snd "HerbWatersModel" (iCV0 293 11 mM_partHere) := sCV0 _ rfl rfl ok_M_partHere (gtb_mem 2006 (by decide +kernel) rfl) (gtb_mem 62 (by decide +kernel) rfl) (gtb_mem 2004 (by decide +kernel) rfl)
theorem lM_g47 : Snd "HerbWatersModel" (iGR 47 11 19) := sGR _ rfl (gtb_mem 1742 (by decide +kernel) rfl)
theorem lM_g50 : Snd "HerbWatersModel" (iGR 50 11 20) := sGR _ rfl (gtb_mem 1743 (by decide +kernel) rfl)
def bM_opinion_0 : List Ir := [iLA0, iC0, (iPI 123 11 0), iLA0, iLA0, iLI1, (iCV1 290 11 mM_isVillage), (iIFne (7) 18)]
def bM_opinion_14 : List Ir := [iC1, (iGO (4) 19)]
def bM_opinion_18 : List Ir := [iC0]
def bM_opinion_19 : List Ir := [iC1, iC0, (iCV3 221 11 mM_bad), (iIFne (36) 60)]
def bM_opinion_27 : List Ir := [iLA0, iLI2, iC0, iLA0, (iGI 126 11 1), (iCS3 157 mM_in), (iIFeq (10) 47)]
def bM_opinion_40 : List Ir := [iLI2, (iSP 150), (iICle (7) 51)]
def bM_opinion_47 : List Ir := [iC1, (iGO (4) 52)]
def bM_opinion_51 : List Ir := [iC0]
def bM_opinion_52 : List Ir := [iC2, iC1, (iCV3 221 11 mM_bad), (iIFeq (5) 62)]
def bM_opinion_60 : List Ir := [iC0, iRI]
def bM_opinion_62 : List Ir := [iLA0, iLI2, (iCV1 225 11 mM_starts), iLA0, iC0, (iPI 287 11 25), iLA0, iC0, (iPI 253 11 26), iLA0, iC0, (iPZ 284 11 27)]
def bM_opinion_82 : List Ir := [iLA0, (iGI 139 11 5), (iIFne (25) 111)]
def bM_opinion_89 : List Ir := [iLA0, (iGI 132 11 4), iLA0, (iGI 129 11 2), (iICge (14) 111)]
def bM_opinion_100 : List Ir := [iLA0, (iCV0 293 11 mM_partHere), iLA0, (iCV0 145 11 mM_blanks), (iGO (-26) 82)]
def bM_opinion_111 : List Ir := [iLA0, iLA0, (iGI 142 11 6), (iPI 9 11 3), iLA0, (iGI 139 11 5), (iIFeq (11) 134)]
def bM_opinion_126 : List Ir := [iLA0, (iGI 139 11 5), (iBP 10), iSUB, iRI]
def bM_opinion_134 : List Ir := [iLA0, (iGR 40 11 17), iLI1, iLA0, (iGI 287 11 25), iIAST, iLA0, (iGR 43 11 18), iLI1, iLA0, (iGI 284 11 27), iZAST, iC0, iSI3]
def bM_opinion_156 : List Ir := [iLI3, iC4, iLA0, (iGI 287 11 25), iMUL, (iICge (23) 186)]
def bM_opinion_166 : List Ir := [iLA0, (iGR 47 11 19), iLI1, iAALD107, iLI3, iLA0, (iGR 53 11 21), iLI3, iIALD, iIAST, (iINC3 1), (iGO (-27) 156)]
def bM_opinion_186 : List Ir := [iC0, iSI3]
def bM_opinion_188 : List Ir := [iLI3, iC2, iLA0, (iGI 253 11 26), iMUL, (iICge (23) 218)]
def bM_opinion_198 : List Ir := [iLA0, (iGR 50 11 20), iLI1, iAALD107, iLI3, iLA0, (iGR 56 11 22), iLI3, iIALD, iIAST, (iINC3 1), (iGO (-27) 188)]
def bM_opinion_218 : List Ir := [iLA0, (iCV0 247 11 mM_settles), iLA0, (iGI 287 11 25), iRI]
def tM_opinion : Tb := [(0, bM_opinion_0, 14), (14, bM_opinion_14, 18), (18, bM_opinion_18, 19), (19, bM_opinion_19, 27), (27, bM_opinion_27, 40), (40, bM_opinion_40, 47), (47, bM_opinion_47, 51), (51, bM_opinion_51, 52), (52, bM_opinion_52, 60), (60, bM_opinion_60, 62), (62, bM_opinion_62, 82), (82, bM_opinion_82, 89), (89, bM_opinion_89, 100), (100, bM_opinion_100, 111), (111, bM_opinion_111, 126), (126, bM_opinion_126, 134), (134, bM_opinion_134, 156), (156, bM_opinion_156, 166), (166, bM_opinion_166, 186), (186, bM_opinion_186, 188), (188, bM_opinion_188, 198), (198, bM_opinion_198, 218), (218, bM_opinion_218, 227)]
theorem fM_opinion_0 : tbf tM_opinion 0 = some (bM_opinion_0, 14) := rfl
theorem fM_opinion_14 : tbf tM_opinion 14 = some (bM_opinion_14, 18) := rfl
theorem fM_opinion_18 : tbf tM_opinion 18 = some (bM_opinion_18, 19) := rfl
theorem fM_opinion_19 : tbf tM_opinion 19 = some (bM_opinion_19, 27) := rfl
theorem fM_opinion_27 : tbf tM_opinion 27 = some (bM_opinion_27, 40) := rfl
theorem fM_opinion_40 : tbf tM_opinion 40 = some (bM_opinion_40, 47) := rfl
theorem fM_opinion_47 : tbf tM_opinion 47 = some (bM_opinion_47, 51) := rfl
theorem fM_opinion_51 : tbf tM_opinion 51 = some (bM_opinion_51, 52) := rfl
theorem fM_opinion_52 : tbf tM_opinion 52 = some (bM_opinion_52, 60) := rfl
theorem fM_opinion_60 : tbf tM_opinion 60 = some (bM_opinion_60, 62) := rfl
theorem fM_opinion_62 : tbf tM_opinion 62 = some (bM_opinion_62, 82) := rfl
theorem fM_opinion_82 : tbf tM_opinion 82 = some (bM_opinion_82, 89) := rfl
theorem fM_opinion_89 : tbf tM_opinion 89 = some (bM_opinion_89, 100) := rfl
theorem fM_opinion_100 : tbf tM_opinion 100 = some (bM_opinion_100, 111) := rfl
theorem fM_opinion_111 : tbf tM_opinion 111 = some (bM_opinion_111, 126) := rfl
theorem fM_opinion_126 : tbf tM_opinion 126 = some (bM_opinion_126, 134) := rfl
theorem fM_opinion_134 : tbf tM_opinion 134 = some (bM_opinion_134, 156) := rfl
theorem fM_opinion_156 : tbf tM_opinion 156 = some (bM_opinion_156, 166) := rfl
theorem fM_opinion_166 : tbf tM_opinion 166 = some (bM_opinion_166, 186) := rfl
theorem fM_opinion_186 : tbf tM_opinion 186 = some (bM_opinion_186, 188) := rfl
theorem fM_opinion_188 : tbf tM_opinion 188 = some (bM_opinion_188, 198) := rfl
theorem fM_opinion_198 : tbf tM_opinion 198 = some (bM_opinion_198, 218) := rfl
theorem fM_opinion_218 : tbf tM_opinion 218 = some (bM_opinion_218, 227) := rfl
theorem kM_opinion_0 : Bok "HerbWatersModel" prog_14_method_43_code (0, bM_opinion_0, 14) := ⟨by decide +kernel, (List.forall_mem_cons.mpr ⟨sLA0, (List.forall_mem_cons.mpr ⟨sC0, (List.forall_mem_cons.mpr ⟨lM_p123, (List.forall_mem_cons.mpr ⟨sLA0, (List.forall_mem_cons.mpr ⟨sLA0, (List.forall_mem_cons.mpr ⟨sLI1, (List.forall_mem_cons.mpr ⟨lM_v290, (List.forall_mem_cons.mpr ⟨sIFne, (fun _ h => absurd h List.not_mem_nil)⟩)⟩)⟩)⟩)⟩)⟩)⟩)⟩)⟩
theorem kM_opinion_14 : Bok "HerbWatersModel" prog_14_method_43_code (14, bM_opinion_14, 18) := ⟨by decide +kernel, (List.forall_mem_cons.mpr ⟨sC1, (List.forall_mem_cons.mpr ⟨sGO, (fun _ h => absurd h List.not_mem_nil)⟩)⟩)⟩
theorem kM_opinion_18 : Bok "HerbWatersModel" prog_14_method_43_code (18, bM_opinion_18, 19) := ⟨by decide +kernel, (List.forall_mem_cons.mpr ⟨sC0, (fun _ h => absurd h List.not_mem_nil)⟩)⟩
theorem kM_opinion_19 : Bok "HerbWatersModel" prog_14_method_43_code (19, bM_opinion_19, 27) := ⟨by decide +kernel, (List.forall_mem_cons.mpr ⟨sC1, (List.forall_mem_cons.mpr ⟨sC0, (List.forall_mem_cons.mpr ⟨lM_v221, (List.forall_mem_cons.mpr ⟨sIFne, (fun _ h => absurd h List.not_mem_nil)⟩)⟩)⟩)⟩)⟩
theorem kM_opinion_27 : Bok "HerbWatersModel" prog_14_method_43_code (27, bM_opinion_27, 40) := ⟨by decide +kernel, (List.forall_mem_cons.mpr ⟨sLA0, (List.forall_mem_cons.mpr ⟨sLI2, (List.forall_mem_cons.mpr ⟨sC0, (List.forall_mem_cons.mpr ⟨sLA0, (List.forall_mem_cons.mpr ⟨lM_g126, (List.forall_mem_cons.mpr ⟨lM_s157, (List.forall_mem_cons.mpr ⟨sIFeq, (fun _ h => absurd h List.not_mem_nil)⟩)⟩)⟩)⟩)⟩)⟩)⟩)⟩
theorem kM_opinion_40 : Bok "HerbWatersModel" prog_14_method_43_code (40, bM_opinion_40, 47) := ⟨by decide +kernel, (List.forall_mem_cons.mpr ⟨sLI2, (List.forall_mem_cons.mpr ⟨sSP, (List.forall_mem_cons.mpr ⟨sICle, (fun _ h => absurd h List.not_mem_nil)⟩)⟩)⟩)⟩
theorem kM_opinion_47 : Bok "HerbWatersModel" prog_14_method_43_code (47, bM_opinion_47, 51) := ⟨by decide +kernel, (List.forall_mem_cons.mpr ⟨sC1, (List.forall_mem_cons.mpr ⟨sGO, (fun _ h => absurd h List.not_mem_nil)⟩)⟩)⟩
theorem kM_opinion_51 : Bok "HerbWatersModel" prog_14_method_43_code (51, bM_opinion_51, 52) := ⟨by decide +kernel, (List.forall_mem_cons.mpr ⟨sC0, (fun _ h => absurd h List.not_mem_nil)⟩)⟩
theorem kM_opinion_52 : Bok "HerbWatersModel" prog_14_method_43_code (52, bM_opinion_52, 60) := ⟨by decide +kernel, (List.forall_mem_cons.mpr ⟨sC2, (List.forall_mem_cons.mpr ⟨sC1, (List.forall_mem_cons.mpr ⟨lM_v221, (List.forall_mem_cons.mpr ⟨sIFeq, (fun _ h => absurd h List.not_mem_nil)⟩)⟩)⟩)⟩)⟩
theorem kM_opinion_60 : Bok "HerbWatersModel" prog_14_method_43_code (60, bM_opinion_60, 62) := ⟨by decide +kernel, (List.forall_mem_cons.mpr ⟨sC0, (List.forall_mem_cons.mpr ⟨sRI, (fun _ h => absurd h List.not_mem_nil)⟩)⟩)⟩
theorem kM_opinion_62 : Bok "HerbWatersModel" prog_14_method_43_code (62, bM_opinion_62, 82) := ⟨by decide +kernel, (List.forall_mem_cons.mpr ⟨sLA0, (List.forall_mem_cons.mpr ⟨sLI2, (List.forall_mem_cons.mpr ⟨lM_v225, (List.forall_mem_cons.mpr ⟨sLA0, (List.forall_mem_cons.mpr ⟨sC0, (List.forall_mem_cons.mpr ⟨lM_p287, (List.forall_mem_cons.mpr ⟨sLA0, (List.forall_mem_cons.mpr ⟨sC0, (List.forall_mem_cons.mpr ⟨lM_p253, (List.forall_mem_cons.mpr ⟨sLA0, (List.forall_mem_cons.mpr ⟨sC0, (List.forall_mem_cons.mpr ⟨lM_p284, (fun _ h => absurd h List.not_mem_nil)⟩)⟩)⟩)⟩)⟩)⟩)⟩)⟩)⟩)⟩)⟩)⟩)⟩
theorem kM_opinion_82 : Bok "HerbWatersModel" prog_14_method_43_code (82, bM_opinion_82, 89) := ⟨by decide +kernel, (List.forall_mem_cons.mpr ⟨sLA0, (List.forall_mem_cons.mpr ⟨lM_g139, (List.forall_mem_cons.mpr ⟨sIFne, (fun _ h => absurd h List.not_mem_nil)⟩)⟩)⟩)⟩
theorem kM_opinion_89 : Bok "HerbWatersModel" prog_14_method_43_code (89, bM_opinion_89, 100) := ⟨by decide +kernel, (List.forall_mem_cons.mpr ⟨sLA0, (List.forall_mem_cons.mpr ⟨lM_g132, (List.forall_mem_cons.mpr ⟨sLA0, (List.forall_mem_cons.mpr ⟨lM_g129, (List.forall_mem_cons.mpr ⟨sICge, (fun _ h => absurd h List.not_mem_nil)⟩)⟩)⟩)⟩)⟩)⟩
theorem kM_opinion_100 : Bok "HerbWatersModel" prog_14_method_43_code (100, bM_opinion_100, 111) := ⟨by decide +kernel, (List.forall_mem_cons.mpr ⟨sLA0, (List.forall_mem_cons.mpr ⟨lM_v293, (List.forall_mem_cons.mpr ⟨sLA0, (List.forall_mem_cons.mpr ⟨lM_v145, (List.forall_mem_cons.mpr ⟨sGO, (fun _ h => absurd h List.not_mem_nil)⟩)⟩)⟩)⟩)⟩)⟩
theorem kM_opinion_111 : Bok "HerbWatersModel" prog_14_method_43_code (111, bM_opinion_111, 126) := ⟨by decide +kernel, (List.forall_mem_cons.mpr ⟨sLA0, (List.forall_mem_cons.mpr ⟨sLA0, (List.forall_mem_cons.mpr ⟨lM_g142, (List.forall_mem_cons.mpr ⟨lM_p9, (List.forall_mem_cons.mpr ⟨sLA0, (List.forall_mem_cons.mpr ⟨lM_g139, (List.forall_mem_cons.mpr ⟨sIFeq, (fun _ h => absurd h List.not_mem_nil)⟩)⟩)⟩)⟩)⟩)⟩)⟩)⟩
theorem kM_opinion_126 : Bok "HerbWatersModel" prog_14_method_43_code (126, bM_opinion_126, 134) := ⟨by decide +kernel, (List.forall_mem_cons.mpr ⟨sLA0, (List.forall_mem_cons.mpr ⟨lM_g139, (List.forall_mem_cons.mpr ⟨sBP, (List.forall_mem_cons.mpr ⟨sSUB, (List.forall_mem_cons.mpr ⟨sRI, (fun _ h => absurd h List.not_mem_nil)⟩)⟩)⟩)⟩)⟩)⟩
theorem kM_opinion_134 : Bok "HerbWatersModel" prog_14_method_43_code (134, bM_opinion_134, 156) := ⟨by decide +kernel, (List.forall_mem_cons.mpr ⟨sLA0, (List.forall_mem_cons.mpr ⟨lM_g40, (List.forall_mem_cons.mpr ⟨sLI1, (List.forall_mem_cons.mpr ⟨sLA0, (List.forall_mem_cons.mpr ⟨lM_g287, (List.forall_mem_cons.mpr ⟨sIAST, (List.forall_mem_cons.mpr ⟨sLA0, (List.forall_mem_cons.mpr ⟨lM_g43, (List.forall_mem_cons.mpr ⟨sLI1, (List.forall_mem_cons.mpr ⟨sLA0, (List.forall_mem_cons.mpr ⟨lM_g284, (List.forall_mem_cons.mpr ⟨sZAST, (List.forall_mem_cons.mpr ⟨sC0, (List.forall_mem_cons.mpr ⟨sSI3, (fun _ h => absurd h List.not_mem_nil)⟩)⟩)⟩)⟩)⟩)⟩)⟩)⟩)⟩)⟩)⟩)⟩)⟩)⟩)⟩
theorem kM_opinion_156 : Bok "HerbWatersModel" prog_14_method_43_code (156, bM_opinion_156, 166) := ⟨by decide +kernel, (List.forall_mem_cons.mpr ⟨sLI3, (List.forall_mem_cons.mpr ⟨sC4, (List.forall_mem_cons.mpr ⟨sLA0, (List.forall_mem_cons.mpr ⟨lM_g287, (List.forall_mem_cons.mpr ⟨sMUL, (List.forall_mem_cons.mpr ⟨sICge, (fun _ h => absurd h List.not_mem_nil)⟩)⟩)⟩)⟩)⟩)⟩)⟩
theorem kM_opinion_166 : Bok "HerbWatersModel" prog_14_method_43_code (166, bM_opinion_166, 186) := ⟨by decide +kernel, (List.forall_mem_cons.mpr ⟨sLA0, (List.forall_mem_cons.mpr ⟨lM_g47, (List.forall_mem_cons.mpr ⟨sLI1, (List.forall_mem_cons.mpr ⟨sAALD107, (List.forall_mem_cons.mpr ⟨sLI3, (List.forall_mem_cons.mpr ⟨sLA0, (List.forall_mem_cons.mpr ⟨lM_g53, (List.forall_mem_cons.mpr ⟨sLI3, (List.forall_mem_cons.mpr ⟨sIALD, (List.forall_mem_cons.mpr ⟨sIAST, (List.forall_mem_cons.mpr ⟨sINC3, (List.forall_mem_cons.mpr ⟨sGO, (fun _ h => absurd h List.not_mem_nil)⟩)⟩)⟩)⟩)⟩)⟩)⟩)⟩)⟩)⟩)⟩)⟩)⟩
theorem kM_opinion_186 : Bok "HerbWatersModel" prog_14_method_43_code (186, bM_opinion_186, 188) := ⟨by decide +kernel, (List.forall_mem_cons.mpr ⟨sC0, (List.forall_mem_cons.mpr ⟨sSI3, (fun _ h => absurd h List.not_mem_nil)⟩)⟩)⟩
theorem kM_opinion_188 : Bok "HerbWatersModel" prog_14_method_43_code (188, bM_opinion_188, 198) := ⟨by decide +kernel, (List.forall_mem_cons.mpr ⟨sLI3, (List.forall_mem_cons.mpr ⟨sC2, (List.forall_mem_cons.mpr ⟨sLA0, (List.forall_mem_cons.mpr ⟨lM_g253, (List.forall_mem_cons.mpr ⟨sMUL, (List.forall_mem_cons.mpr ⟨sICge, (fun _ h => absurd h List.not_mem_nil)⟩)⟩)⟩)⟩)⟩)⟩)⟩
theorem kM_opinion_198 : Bok "HerbWatersModel" prog_14_method_43_code (198, bM_opinion_198, 218) := ⟨by decide +kernel, (List.forall_mem_cons.mpr ⟨sLA0, (List.forall_mem_cons.mpr ⟨lM_g50, (List.forall_mem_cons.mpr ⟨sLI1, (List.forall_mem_cons.mpr ⟨sAALD107, (List.forall_mem_cons.mpr ⟨sLI3, (List.forall_mem_cons.mpr ⟨sLA0, (List.forall_mem_cons.mpr ⟨lM_g56, (List.forall_mem_cons.mpr ⟨sLI3, (List.forall_mem_cons.mpr ⟨sIALD, (List.forall_mem_cons.mpr ⟨sIAST, (List.forall_mem_cons.mpr ⟨sINC3, (List.forall_mem_cons.mpr ⟨sGO, (fun _ h => absurd h List.not_mem_nil)⟩)⟩)⟩)⟩)⟩)⟩)⟩)⟩)⟩)⟩)⟩)⟩)⟩
theorem kM_opinion_218 : Bok "HerbWatersModel" prog_14_method_43_code (218, bM_opinion_218, 227) := ⟨by decide +kernel, (List.forall_mem_cons.mpr ⟨sLA0, (List.forall_mem_cons.mpr ⟨lM_v247, (List.forall_mem_cons.mpr ⟨sLA0, (List.forall_mem_cons.mpr ⟨lM_g287, (List.forall_mem_cons.mpr ⟨sRI, (fun _ h => absurd h List.not_mem_nil)⟩)⟩)⟩)⟩)⟩)⟩
theorem kM_opinion : ∀ q ∈ tM_opinion, Bok "HerbWatersModel" prog_14_method_43_code q := (List.forall_mem_cons.mpr ⟨kM_opinion_0, (List.forall_mem_cons.mpr ⟨kM_opinion_14, (List.forall_mem_cons.mpr ⟨kM_opinion_18, (List.forall_mem_cons.mpr ⟨kM_opinion_19, (List.forall_mem_cons.mpr ⟨kM_opinion_27, (List.forall_mem_cons.mpr ⟨kM_opinion_40, (List.forall_mem_cons.mpr ⟨kM_opinion_47, (List.forall_mem_cons.mpr ⟨kM_opinion_51, (List.forall_mem_cons.mpr ⟨kM_opinion_52, (List.forall_mem_cons.mpr ⟨kM_opinion_60, (List.forall_mem_cons.mpr ⟨kM_opinion_62, (List.forall_mem_cons.mpr ⟨kM_opinion_82, (List.forall_mem_cons.mpr ⟨kM_opinion_89, (List.forall_mem_cons.mpr ⟨kM_opinion_100, (List.forall_mem_cons.mpr ⟨kM_opinion_111, (List.forall_mem_cons.mpr ⟨kM_opinion_126, (List.forall_mem_cons.mpr ⟨kM_opinion_134, (List.forall_mem_cons.mpr ⟨kM_opinion_156, (List.forall_mem_cons.mpr ⟨kM_opinion_166, (List.forall_mem_cons.mpr ⟨kM_opinion_186, (List.forall_mem_cons.mpr ⟨kM_opinion_188, (List.forall_mem_cons.mpr ⟨kM_opinion_198, (List.forall_mem_cons.mpr ⟨kM_opinion_218, (fun _ h => absurd h List.not_mem_nil)⟩)⟩)⟩)⟩)⟩)⟩)⟩)⟩)⟩)⟩)⟩)⟩)⟩)⟩)⟩)⟩)⟩)⟩)⟩)⟩)⟩)⟩)⟩)
def mM_book : Mt := (⟨"HerbWatersModel", "book", "(I)I"⟩, prog_14_method_44_code, 6, some .int)
theorem ok_M_book : Mok mM_book := ⟨gtb_mem 2047 (by decide +kernel) rfl, gtb_mem 107 (by decide +kernel) rfl, by decide +kernel, by decide⟩
theorem lM_g68 : Snd "HerbWatersModel" (iGR 68 11 29) := sGR _ rfl (gtb_mem 1752 (by decide +kernel) rfl)
theorem lM_g65 : Snd "HerbWatersModel" (iGR 65 11 28) := sGR _ rfl (gtb_mem 1751 (by decide +kernel) rfl)
def bM_book_0 : List Ir := [iLA0, iC0, (iPI 123 11 0), iLA0, iLI1, iC0, iLA0, (iGI 126 11 1), (iCS3 157 mM_in), (iIFeq (10) 25)]
def bM_book_18 : List Ir := [iLI1, (iSP 150), (iICle (7) 29)]
def bM_book_25 : List Ir := [iC1, (iGO (4) 30)]
def bM_book_29 : List Ir := [iC0]
def bM_book_30 : List Ir := [iC1, iC1, (iCV3 221 11 mM_bad), (iIFeq (5) 40)]
def bM_book_38 : List Ir := [iC0, iRI]
def bM_book_40 : List Ir := [iLA0, iLI1, (iCV1 225 11 mM_starts), iC0, iSI2]
def bM_book_47 : List Ir := [iLA0, (iGI 139 11 5), (iIFne (99) 150)]
def bM_book_54 : List Ir := [iLA0, (iGI 132 11 4), iLA0, (iGI 129 11 2), (iICge (88) 150)]
def bM_book_65 : List Ir := [iLA0, (iGI 132 11 4), iSI3, iLA0, iC1, (iBP 99), (iCV2 191 11 mM_number), iSI4, iLA0, (iGI 139 11 5), (iIFne (15) 98)]
def bM_book_86 : List Ir := [iLI2, (iBP 12), (iICne (9) 98)]
def bM_book_92 : List Ir := [iLA0, iC3, iLI3, (iCV2 152 11 mM_wrong)]
def bM_book_98 : List Ir := [iLA0, iC0, (iBP 7), (iCV2 191 11 mM_number), iSI5, iLA0, (iBP 59), (iCV1 208 11 mM_sign), iLA0, (iGI 139 11 5), (iIFne (26) 143)]
def bM_book_120 : List Ir := [iLA0, (iGR 68 11 29), iLI2, iAALD107, iC0, iLI4, iIAST, iLA0, (iGR 68 11 29), iLI2, iAALD107, iC1, iLI5, iIAST, (iINC2 1)]
def bM_book_143 : List Ir := [iLA0, (iCV0 145 11 mM_blanks), (iGO (-100) 47)]
def bM_book_150 : List Ir := [iLA0, iLA0, (iGI 142 11 6), (iPI 9 11 3), iLA0, (iGI 139 11 5), (iIFeq (11) 173)]
def bM_book_165 : List Ir := [iLA0, (iGI 139 11 5), (iBP 10), iSUB, iRI]
def bM_book_173 : List Ir := [iLA0, iLI2, (iPI 235 11 36), iC0, iSI3]
def bM_book_180 : List Ir := [iLI3, iLI2, (iICge (42) 224)]
def bM_book_185 : List Ir := [iC0, iSI4]
def bM_book_188 : List Ir := [iLI4, iC2, (iICge (27) 218)]
def bM_book_194 : List Ir := [iLA0, (iGR 65 11 28), iLI3, iAALD107, iLI4, iLA0, (iGR 68 11 29), iLI3, iAALD107, iLI4, iIALD, iIAST, (iINC4 1), (iGO (-27) 188)]
def bM_book_218 : List Ir := [(iINC3 1), (iGO (-41) 180)]
def bM_book_224 : List Ir := [iLI2, iRI]
def tM_book : Tb := [(0, bM_book_0, 18), (18, bM_book_18, 25), (25, bM_book_25, 29), (29, bM_book_29, 30), (30, bM_book_30, 38), (38, bM_book_38, 40), (40, bM_book_40, 47), (47, bM_book_47, 54), (54, bM_book_54, 65), (65, bM_book_65, 86), (86, bM_book_86, 92), (92, bM_book_92, 98), (98, bM_book_98, 120), (120, bM_book_120, 143), (143, bM_book_143, 150), (150, bM_book_150, 165), (165, bM_book_165, 173), (173, bM_book_173, 180), (180, bM_book_180, 185), (185, bM_book_185, 188), (188, bM_book_188, 194), (194, bM_book_194, 218), (218, bM_book_218, 224), (224, bM_book_224, 226)]
theorem fM_book_0 : tbf tM_book 0 = some (bM_book_0, 18) := rfl
theorem fM_book_18 : tbf tM_book 18 = some (bM_book_18, 25) := rfl
theorem fM_book_25 : tbf tM_book 25 = some (bM_book_25, 29) := rfl
theorem fM_book_29 : tbf tM_book 29 = some (bM_book_29, 30) := rfl
theorem fM_book_30 : tbf tM_book 30 = some (bM_book_30, 38) := rfl
theorem fM_book_38 : tbf tM_book 38 = some (bM_book_38, 40) := rfl
theorem fM_book_40 : tbf tM_book 40 = some (bM_book_40, 47) := rfl
theorem fM_book_47 : tbf tM_book 47 = some (bM_book_47, 54) := rfl
theorem fM_book_54 : tbf tM_book 54 = some (bM_book_54, 65) := rfl
theorem fM_book_65 : tbf tM_book 65 = some (bM_book_65, 86) := rfl
theorem fM_book_86 : tbf tM_book 86 = some (bM_book_86, 92) := rfl
theorem fM_book_92 : tbf tM_book 92 = some (bM_book_92, 98) := rfl
theorem fM_book_98 : tbf tM_book 98 = some (bM_book_98, 120) := rfl
theorem fM_book_120 : tbf tM_book 120 = some (bM_book_120, 143) := rfl
theorem fM_book_143 : tbf tM_book 143 = some (bM_book_143, 150) := rfl
theorem fM_book_150 : tbf tM_book 150 = some (bM_book_150, 165) := rfl
theorem fM_book_165 : tbf tM_book 165 = some (bM_book_165, 173) := rfl
theorem fM_book_173 : tbf tM_book 173 = some (bM_book_173, 180) := rfl
theorem fM_book_180 : tbf tM_book 180 = some (bM_book_180, 185) := rfl
theorem fM_book_185 : tbf tM_book 185 = some (bM_book_185, 188) := rfl
theorem fM_book_188 : tbf tM_book 188 = some (bM_book_188, 194) := rfl
theorem fM_book_194 : tbf tM_book 194 = some (bM_book_194, 218) := rfl
theorem fM_book_218 : tbf tM_book 218 = some (bM_book_218, 224) := rfl
theorem fM_book_224 : tbf tM_book 224 = some (bM_book_224, 226) := rfl
theorem kM_book_0 : Bok "HerbWatersModel" prog_14_method_44_code (0, bM_book_0, 18) := ⟨by decide +kernel, (List.forall_mem_cons.mpr ⟨sLA0, (List.forall_mem_cons.mpr ⟨sC0, (List.forall_mem_cons.mpr ⟨lM_p123, (List.forall_mem_cons.mpr ⟨sLA0, (List.forall_mem_cons.mpr ⟨sLI1, (List.forall_mem_cons.mpr ⟨sC0, (List.forall_mem_cons.mpr ⟨sLA0, (List.forall_mem_cons.mpr ⟨lM_g126, (List.forall_mem_cons.mpr ⟨lM_s157, (List.forall_mem_cons.mpr ⟨sIFeq, (fun _ h => absurd h List.not_mem_nil)⟩)⟩)⟩)⟩)⟩)⟩)⟩)⟩)⟩)⟩)⟩
theorem kM_book_18 : Bok "HerbWatersModel" prog_14_method_44_code (18, bM_book_18, 25) := ⟨by decide +kernel, (List.forall_mem_cons.mpr ⟨sLI1, (List.forall_mem_cons.mpr ⟨sSP, (List.forall_mem_cons.mpr ⟨sICle, (fun _ h => absurd h List.not_mem_nil)⟩)⟩)⟩)⟩
theorem kM_book_25 : Bok "HerbWatersModel" prog_14_method_44_code (25, bM_book_25, 29) := ⟨by decide +kernel, (List.forall_mem_cons.mpr ⟨sC1, (List.forall_mem_cons.mpr ⟨sGO, (fun _ h => absurd h List.not_mem_nil)⟩)⟩)⟩
theorem kM_book_29 : Bok "HerbWatersModel" prog_14_method_44_code (29, bM_book_29, 30) := ⟨by decide +kernel, (List.forall_mem_cons.mpr ⟨sC0, (fun _ h => absurd h List.not_mem_nil)⟩)⟩
theorem kM_book_30 : Bok "HerbWatersModel" prog_14_method_44_code (30, bM_book_30, 38) := ⟨by decide +kernel, (List.forall_mem_cons.mpr ⟨sC1, (List.forall_mem_cons.mpr ⟨sC1, (List.forall_mem_cons.mpr ⟨lM_v221, (List.forall_mem_cons.mpr ⟨sIFeq, (fun _ h => absurd h List.not_mem_nil)⟩)⟩)⟩)⟩)⟩
theorem kM_book_38 : Bok "HerbWatersModel" prog_14_method_44_code (38, bM_book_38, 40) := ⟨by decide +kernel, (List.forall_mem_cons.mpr ⟨sC0, (List.forall_mem_cons.mpr ⟨sRI, (fun _ h => absurd h List.not_mem_nil)⟩)⟩)⟩
theorem kM_book_40 : Bok "HerbWatersModel" prog_14_method_44_code (40, bM_book_40, 47) := ⟨by decide +kernel, (List.forall_mem_cons.mpr ⟨sLA0, (List.forall_mem_cons.mpr ⟨sLI1, (List.forall_mem_cons.mpr ⟨lM_v225, (List.forall_mem_cons.mpr ⟨sC0, (List.forall_mem_cons.mpr ⟨sSI2, (fun _ h => absurd h List.not_mem_nil)⟩)⟩)⟩)⟩)⟩)⟩
theorem kM_book_47 : Bok "HerbWatersModel" prog_14_method_44_code (47, bM_book_47, 54) := ⟨by decide +kernel, (List.forall_mem_cons.mpr ⟨sLA0, (List.forall_mem_cons.mpr ⟨lM_g139, (List.forall_mem_cons.mpr ⟨sIFne, (fun _ h => absurd h List.not_mem_nil)⟩)⟩)⟩)⟩
theorem kM_book_54 : Bok "HerbWatersModel" prog_14_method_44_code (54, bM_book_54, 65) := ⟨by decide +kernel, (List.forall_mem_cons.mpr ⟨sLA0, (List.forall_mem_cons.mpr ⟨lM_g132, (List.forall_mem_cons.mpr ⟨sLA0, (List.forall_mem_cons.mpr ⟨lM_g129, (List.forall_mem_cons.mpr ⟨sICge, (fun _ h => absurd h List.not_mem_nil)⟩)⟩)⟩)⟩)⟩)⟩
theorem kM_book_65 : Bok "HerbWatersModel" prog_14_method_44_code (65, bM_book_65, 86) := ⟨by decide +kernel, (List.forall_mem_cons.mpr ⟨sLA0, (List.forall_mem_cons.mpr ⟨lM_g132, (List.forall_mem_cons.mpr ⟨sSI3, (List.forall_mem_cons.mpr ⟨sLA0, (List.forall_mem_cons.mpr ⟨sC1, (List.forall_mem_cons.mpr ⟨sBP, (List.forall_mem_cons.mpr ⟨lM_v191, (List.forall_mem_cons.mpr ⟨sSI4, (List.forall_mem_cons.mpr ⟨sLA0, (List.forall_mem_cons.mpr ⟨lM_g139, (List.forall_mem_cons.mpr ⟨sIFne, (fun _ h => absurd h List.not_mem_nil)⟩)⟩)⟩)⟩)⟩)⟩)⟩)⟩)⟩)⟩)⟩)⟩
theorem kM_book_86 : Bok "HerbWatersModel" prog_14_method_44_code (86, bM_book_86, 92) := ⟨by decide +kernel, (List.forall_mem_cons.mpr ⟨sLI2, (List.forall_mem_cons.mpr ⟨sBP, (List.forall_mem_cons.mpr ⟨sICne, (fun _ h => absurd h List.not_mem_nil)⟩)⟩)⟩)⟩
theorem kM_book_92 : Bok "HerbWatersModel" prog_14_method_44_code (92, bM_book_92, 98) := ⟨by decide +kernel, (List.forall_mem_cons.mpr ⟨sLA0, (List.forall_mem_cons.mpr ⟨sC3, (List.forall_mem_cons.mpr ⟨sLI3, (List.forall_mem_cons.mpr ⟨lM_v152, (fun _ h => absurd h List.not_mem_nil)⟩)⟩)⟩)⟩)⟩
theorem kM_book_98 : Bok "HerbWatersModel" prog_14_method_44_code (98, bM_book_98, 120) := ⟨by decide +kernel, (List.forall_mem_cons.mpr ⟨sLA0, (List.forall_mem_cons.mpr ⟨sC0, (List.forall_mem_cons.mpr ⟨sBP, (List.forall_mem_cons.mpr ⟨lM_v191, (List.forall_mem_cons.mpr ⟨sSI5, (List.forall_mem_cons.mpr ⟨sLA0, (List.forall_mem_cons.mpr ⟨sBP, (List.forall_mem_cons.mpr ⟨lM_v208, (List.forall_mem_cons.mpr ⟨sLA0, (List.forall_mem_cons.mpr ⟨lM_g139, (List.forall_mem_cons.mpr ⟨sIFne, (fun _ h => absurd h List.not_mem_nil)⟩)⟩)⟩)⟩)⟩)⟩)⟩)⟩)⟩)⟩)⟩)⟩
theorem kM_book_120 : Bok "HerbWatersModel" prog_14_method_44_code (120, bM_book_120, 143) := ⟨by decide +kernel, (List.forall_mem_cons.mpr ⟨sLA0, (List.forall_mem_cons.mpr ⟨lM_g68, (List.forall_mem_cons.mpr ⟨sLI2, (List.forall_mem_cons.mpr ⟨sAALD107, (List.forall_mem_cons.mpr ⟨sC0, (List.forall_mem_cons.mpr ⟨sLI4, (List.forall_mem_cons.mpr ⟨sIAST, (List.forall_mem_cons.mpr ⟨sLA0, (List.forall_mem_cons.mpr ⟨lM_g68, (List.forall_mem_cons.mpr ⟨sLI2, (List.forall_mem_cons.mpr ⟨sAALD107, (List.forall_mem_cons.mpr ⟨sC1, (List.forall_mem_cons.mpr ⟨sLI5, (List.forall_mem_cons.mpr ⟨sIAST, (List.forall_mem_cons.mpr ⟨sINC2, (fun _ h => absurd h List.not_mem_nil)⟩)⟩)⟩)⟩)⟩)⟩)⟩)⟩)⟩)⟩)⟩)⟩)⟩)⟩)⟩)⟩
theorem kM_book_143 : Bok "HerbWatersModel" prog_14_method_44_code (143, bM_book_143, 150) := ⟨by decide +kernel, (List.forall_mem_cons.mpr ⟨sLA0, (List.forall_mem_cons.mpr ⟨lM_v145, (List.forall_mem_cons.mpr ⟨sGO, (fun _ h => absurd h List.not_mem_nil)⟩)⟩)⟩)⟩
theorem kM_book_150 : Bok "HerbWatersModel" prog_14_method_44_code (150, bM_book_150, 165) := ⟨by decide +kernel, (List.forall_mem_cons.mpr ⟨sLA0, (List.forall_mem_cons.mpr ⟨sLA0, (List.forall_mem_cons.mpr ⟨lM_g142, (List.forall_mem_cons.mpr ⟨lM_p9, (List.forall_mem_cons.mpr ⟨sLA0, (List.forall_mem_cons.mpr ⟨lM_g139, (List.forall_mem_cons.mpr ⟨sIFeq, (fun _ h => absurd h List.not_mem_nil)⟩)⟩)⟩)⟩)⟩)⟩)⟩)⟩
theorem kM_book_165 : Bok "HerbWatersModel" prog_14_method_44_code (165, bM_book_165, 173) := ⟨by decide +kernel, (List.forall_mem_cons.mpr ⟨sLA0, (List.forall_mem_cons.mpr ⟨lM_g139, (List.forall_mem_cons.mpr ⟨sBP, (List.forall_mem_cons.mpr ⟨sSUB, (List.forall_mem_cons.mpr ⟨sRI, (fun _ h => absurd h List.not_mem_nil)⟩)⟩)⟩)⟩)⟩)⟩
theorem kM_book_173 : Bok "HerbWatersModel" prog_14_method_44_code (173, bM_book_173, 180) := ⟨by decide +kernel, (List.forall_mem_cons.mpr ⟨sLA0, (List.forall_mem_cons.mpr ⟨sLI2, (List.forall_mem_cons.mpr ⟨lM_p235, (List.forall_mem_cons.mpr ⟨sC0, (List.forall_mem_cons.mpr ⟨sSI3, (fun _ h => absurd h List.not_mem_nil)⟩)⟩)⟩)⟩)⟩)⟩
theorem kM_book_180 : Bok "HerbWatersModel" prog_14_method_44_code (180, bM_book_180, 185) := ⟨by decide +kernel, (List.forall_mem_cons.mpr ⟨sLI3, (List.forall_mem_cons.mpr ⟨sLI2, (List.forall_mem_cons.mpr ⟨sICge, (fun _ h => absurd h List.not_mem_nil)⟩)⟩)⟩)⟩
theorem kM_book_185 : Bok "HerbWatersModel" prog_14_method_44_code (185, bM_book_185, 188) := ⟨by decide +kernel, (List.forall_mem_cons.mpr ⟨sC0, (List.forall_mem_cons.mpr ⟨sSI4, (fun _ h => absurd h List.not_mem_nil)⟩)⟩)⟩
theorem kM_book_188 : Bok "HerbWatersModel" prog_14_method_44_code (188, bM_book_188, 194) := ⟨by decide +kernel, (List.forall_mem_cons.mpr ⟨sLI4, (List.forall_mem_cons.mpr ⟨sC2, (List.forall_mem_cons.mpr ⟨sICge, (fun _ h => absurd h List.not_mem_nil)⟩)⟩)⟩)⟩
theorem kM_book_194 : Bok "HerbWatersModel" prog_14_method_44_code (194, bM_book_194, 218) := ⟨by decide +kernel, (List.forall_mem_cons.mpr ⟨sLA0, (List.forall_mem_cons.mpr ⟨lM_g65, (List.forall_mem_cons.mpr ⟨sLI3, (List.forall_mem_cons.mpr ⟨sAALD107, (List.forall_mem_cons.mpr ⟨sLI4, (List.forall_mem_cons.mpr ⟨sLA0, (List.forall_mem_cons.mpr ⟨lM_g68, (List.forall_mem_cons.mpr ⟨sLI3, (List.forall_mem_cons.mpr ⟨sAALD107, (List.forall_mem_cons.mpr ⟨sLI4, (List.forall_mem_cons.mpr ⟨sIALD, (List.forall_mem_cons.mpr ⟨sIAST, (List.forall_mem_cons.mpr ⟨sINC4, (List.forall_mem_cons.mpr ⟨sGO, (fun _ h => absurd h List.not_mem_nil)⟩)⟩)⟩)⟩)⟩)⟩)⟩)⟩)⟩)⟩)⟩)⟩)⟩)⟩)⟩
theorem kM_book_218 : Bok "HerbWatersModel" prog_14_method_44_code (218, bM_book_218, 224) := ⟨by decide +kernel, (List.forall_mem_cons.mpr ⟨sINC3, (List.forall_mem_cons.mpr ⟨sGO, (fun _ h => absurd h List.not_mem_nil)⟩)⟩)⟩
theorem kM_book_224 : Bok "HerbWatersModel" prog_14_method_44_code (224, bM_book_224, 226) := ⟨by decide +kernel, (List.forall_mem_cons.mpr ⟨sLI2, (List.forall_mem_cons.mpr ⟨sRI, (fun _ h => absurd h List.not_mem_nil)⟩)⟩)⟩
theorem kM_book : ∀ q ∈ tM_book, Bok "HerbWatersModel" prog_14_method_44_code q := (List.forall_mem_cons.mpr ⟨kM_book_0, (List.forall_mem_cons.mpr ⟨kM_book_18, (List.forall_mem_cons.mpr ⟨kM_book_25, (List.forall_mem_cons.mpr ⟨kM_book_29, (List.forall_mem_cons.mpr ⟨kM_book_30, (List.forall_mem_cons.mpr ⟨kM_book_38, (List.forall_mem_cons.mpr ⟨kM_book_40, (List.forall_mem_cons.mpr ⟨kM_book_47, (List.forall_mem_cons.mpr ⟨kM_book_54, (List.forall_mem_cons.mpr ⟨kM_book_65, (List.forall_mem_cons.mpr ⟨kM_book_86, (List.forall_mem_cons.mpr ⟨kM_book_92, (List.forall_mem_cons.mpr ⟨kM_book_98, (List.forall_mem_cons.mpr ⟨kM_book_120, (List.forall_mem_cons.mpr ⟨kM_book_143, (List.forall_mem_cons.mpr ⟨kM_book_150, (List.forall_mem_cons.mpr ⟨kM_book_165, (List.forall_mem_cons.mpr ⟨kM_book_173, (List.forall_mem_cons.mpr ⟨kM_book_180, (List.forall_mem_cons.mpr ⟨kM_book_185, (List.forall_mem_cons.mpr ⟨kM_book_188, (List.forall_mem_cons.mpr ⟨kM_book_194, (List.forall_mem_cons.mpr ⟨kM_book_218, (List.forall_mem_cons.mpr ⟨kM_book_224, (fun _ h => absurd h List.not_mem_nil)⟩)⟩)⟩)⟩)⟩)⟩)⟩)⟩)⟩)⟩)⟩)⟩)⟩)⟩)⟩)⟩)⟩)⟩)⟩)⟩)⟩)⟩)⟩)⟩)
def mM_fault : Mt := (⟨"HerbWatersModel", "fault", "()I"⟩, prog_14_method_45_code, 1, some .int)
theorem ok_M_fault : Mok mM_fault := ⟨gtb_mem 2051 (by decide +kernel) rfl, gtb_mem 107 (by decide +kernel) rfl, by decide +kernel, by decide⟩
theorem lM_g9 : Snd "HerbWatersModel" (iGI 9 11 3) := sGI _ rfl (gtb_mem 1726 (by decide +kernel) rfl)
def bM_fault_0 : List Ir := [iLA0, iC0, (iPI 123 11 0), iLA0, (iGI 9 11 3), iRI]
def tM_fault : Tb := [(0, bM_fault_0, 10)]
theorem fM_fault_0 : tbf tM_fault 0 = some (bM_fault_0, 10) := rfl
theorem kM_fault_0 : Bok "HerbWatersModel" prog_14_method_45_code (0, bM_fault_0, 10) := ⟨by decide +kernel, (List.forall_mem_cons.mpr ⟨sLA0, (List.forall_mem_cons.mpr ⟨sC0, (List.forall_mem_cons.mpr ⟨lM_p123, (List.forall_mem_cons.mpr ⟨sLA0, (List.forall_mem_cons.mpr ⟨lM_g9, (List.forall_mem_cons.mpr ⟨sRI, (fun _ h => absurd h List.not_mem_nil)⟩)⟩)⟩)⟩)⟩)⟩)⟩
theorem kM_fault : ∀ q ∈ tM_fault, Bok "HerbWatersModel" prog_14_method_45_code q := (List.forall_mem_cons.mpr ⟨kM_fault_0, (fun _ h => absurd h List.not_mem_nil)⟩)
def mM_by : Mt := (⟨"HerbWatersModel", "by", "(III)I"⟩, prog_14_method_46_code, 3, some .int)
theorem ok_M_by : Mok mM_by := ⟨gtb_mem 2066 (by decide +kernel) rfl, gtb_mem 107 (by decide +kernel) rfl, by decide +kernel, by decide⟩
def bM_by_0 : List Ir := [iLI0, (iSW 2 (118) #[(51), (55), (59), (63), (85), (96), (107), (118), (59)] 51 [52, 56, 60, 64, 86, 97, 108, 119, 60] 119)]
def bM_by_52 : List Ir := [iLI1, iLI2, iADD, iRI]
def bM_by_56 : List Ir := [iLI1, iLI2, iSUB, iRI]
def bM_by_60 : List Ir := [iLI1, iLI2, iMUL, iRI]
def bM_by_64 : List Ir := [iLI2, (iIFne (7) 72)]
def bM_by_68 : List Ir := [iC0, (iGO (16) 85)]
def bM_by_72 : List Ir := [iLI2, iCm1, (iICne (8) 82)]
def bM_by_77 : List Ir := [iLI1, iNEG, (iGO (6) 85)]
def bM_by_82 : List Ir := [iLI1, iLI2, iDIV]
def bM_by_85 : List Ir := [iRI]
def bM_by_86 : List Ir := [iLI1, iLI2, (iICge (7) 95)]
def bM_by_91 : List Ir := [iC1, (iGO (4) 96)]
def bM_by_95 : List Ir := [iC0]
def bM_by_96 : List Ir := [iRI]
def bM_by_97 : List Ir := [iLI1, iLI2, (iICle (7) 106)]
def bM_by_102 : List Ir := [iC1, (iGO (4) 107)]
def bM_by_106 : List Ir := [iC0]
def bM_by_107 : List Ir := [iRI]
def bM_by_108 : List Ir := [iLI1, iLI2, (iICne (7) 117)]
def bM_by_113 : List Ir := [iC1, (iGO (4) 118)]
def bM_by_117 : List Ir := [iC0]
def bM_by_118 : List Ir := [iRI]
def bM_by_119 : List Ir := [iLI1, iLI2, iADD, (iIFle (7) 129)]
def bM_by_125 : List Ir := [iC1, (iGO (4) 130)]
def bM_by_129 : List Ir := [iC0]
def bM_by_130 : List Ir := [iRI]
def tM_by : Tb := [(0, bM_by_0, 52), (52, bM_by_52, 56), (56, bM_by_56, 60), (60, bM_by_60, 64), (64, bM_by_64, 68), (68, bM_by_68, 72), (72, bM_by_72, 77), (77, bM_by_77, 82), (82, bM_by_82, 85), (85, bM_by_85, 86), (86, bM_by_86, 91), (91, bM_by_91, 95), (95, bM_by_95, 96), (96, bM_by_96, 97), (97, bM_by_97, 102), (102, bM_by_102, 106), (106, bM_by_106, 107), (107, bM_by_107, 108), (108, bM_by_108, 113), (113, bM_by_113, 117), (117, bM_by_117, 118), (118, bM_by_118, 119), (119, bM_by_119, 125), (125, bM_by_125, 129), (129, bM_by_129, 130), (130, bM_by_130, 131)]
theorem fM_by_0 : tbf tM_by 0 = some (bM_by_0, 52) := rfl
theorem fM_by_52 : tbf tM_by 52 = some (bM_by_52, 56) := rfl
theorem fM_by_56 : tbf tM_by 56 = some (bM_by_56, 60) := rfl
theorem fM_by_60 : tbf tM_by 60 = some (bM_by_60, 64) := rfl
theorem fM_by_64 : tbf tM_by 64 = some (bM_by_64, 68) := rfl
theorem fM_by_68 : tbf tM_by 68 = some (bM_by_68, 72) := rfl
theorem fM_by_72 : tbf tM_by 72 = some (bM_by_72, 77) := rfl
theorem fM_by_77 : tbf tM_by 77 = some (bM_by_77, 82) := rfl
theorem fM_by_82 : tbf tM_by 82 = some (bM_by_82, 85) := rfl
theorem fM_by_85 : tbf tM_by 85 = some (bM_by_85, 86) := rfl
theorem fM_by_86 : tbf tM_by 86 = some (bM_by_86, 91) := rfl
theorem fM_by_91 : tbf tM_by 91 = some (bM_by_91, 95) := rfl
theorem fM_by_95 : tbf tM_by 95 = some (bM_by_95, 96) := rfl
theorem fM_by_96 : tbf tM_by 96 = some (bM_by_96, 97) := rfl
theorem fM_by_97 : tbf tM_by 97 = some (bM_by_97, 102) := rfl
theorem fM_by_102 : tbf tM_by 102 = some (bM_by_102, 106) := rfl
theorem fM_by_106 : tbf tM_by 106 = some (bM_by_106, 107) := rfl
theorem fM_by_107 : tbf tM_by 107 = some (bM_by_107, 108) := rfl
theorem fM_by_108 : tbf tM_by 108 = some (bM_by_108, 113) := rfl
theorem fM_by_113 : tbf tM_by 113 = some (bM_by_113, 117) := rfl
theorem fM_by_117 : tbf tM_by 117 = some (bM_by_117, 118) := rfl
theorem fM_by_118 : tbf tM_by 118 = some (bM_by_118, 119) := rfl
theorem fM_by_119 : tbf tM_by 119 = some (bM_by_119, 125) := rfl
theorem fM_by_125 : tbf tM_by 125 = some (bM_by_125, 129) := rfl
theorem fM_by_129 : tbf tM_by 129 = some (bM_by_129, 130) := rfl
theorem fM_by_130 : tbf tM_by 130 = some (bM_by_130, 131) := rfl
theorem kM_by_0 : Bok "HerbWatersModel" prog_14_method_46_code (0, bM_by_0, 52) := ⟨by decide +kernel, (List.forall_mem_cons.mpr ⟨sLI0, (List.forall_mem_cons.mpr ⟨sSW, (fun _ h => absurd h List.not_mem_nil)⟩)⟩)⟩
theorem kM_by_52 : Bok "HerbWatersModel" prog_14_method_46_code (52, bM_by_52, 56) := ⟨by decide +kernel, (List.forall_mem_cons.mpr ⟨sLI1, (List.forall_mem_cons.mpr ⟨sLI2, (List.forall_mem_cons.mpr ⟨sADD, (List.forall_mem_cons.mpr ⟨sRI, (fun _ h => absurd h List.not_mem_nil)⟩)⟩)⟩)⟩)⟩
theorem kM_by_56 : Bok "HerbWatersModel" prog_14_method_46_code (56, bM_by_56, 60) := ⟨by decide +kernel, (List.forall_mem_cons.mpr ⟨sLI1, (List.forall_mem_cons.mpr ⟨sLI2, (List.forall_mem_cons.mpr ⟨sSUB, (List.forall_mem_cons.mpr ⟨sRI, (fun _ h => absurd h List.not_mem_nil)⟩)⟩)⟩)⟩)⟩
theorem kM_by_60 : Bok "HerbWatersModel" prog_14_method_46_code (60, bM_by_60, 64) := ⟨by decide +kernel, (List.forall_mem_cons.mpr ⟨sLI1, (List.forall_mem_cons.mpr ⟨sLI2, (List.forall_mem_cons.mpr ⟨sMUL, (List.forall_mem_cons.mpr ⟨sRI, (fun _ h => absurd h List.not_mem_nil)⟩)⟩)⟩)⟩)⟩
theorem kM_by_64 : Bok "HerbWatersModel" prog_14_method_46_code (64, bM_by_64, 68) := ⟨by decide +kernel, (List.forall_mem_cons.mpr ⟨sLI2, (List.forall_mem_cons.mpr ⟨sIFne, (fun _ h => absurd h List.not_mem_nil)⟩)⟩)⟩
theorem kM_by_68 : Bok "HerbWatersModel" prog_14_method_46_code (68, bM_by_68, 72) := ⟨by decide +kernel, (List.forall_mem_cons.mpr ⟨sC0, (List.forall_mem_cons.mpr ⟨sGO, (fun _ h => absurd h List.not_mem_nil)⟩)⟩)⟩
theorem kM_by_72 : Bok "HerbWatersModel" prog_14_method_46_code (72, bM_by_72, 77) := ⟨by decide +kernel, (List.forall_mem_cons.mpr ⟨sLI2, (List.forall_mem_cons.mpr ⟨sCm1, (List.forall_mem_cons.mpr ⟨sICne, (fun _ h => absurd h List.not_mem_nil)⟩)⟩)⟩)⟩
theorem kM_by_77 : Bok "HerbWatersModel" prog_14_method_46_code (77, bM_by_77, 82) := ⟨by decide +kernel, (List.forall_mem_cons.mpr ⟨sLI1, (List.forall_mem_cons.mpr ⟨sNEG, (List.forall_mem_cons.mpr ⟨sGO, (fun _ h => absurd h List.not_mem_nil)⟩)⟩)⟩)⟩
theorem kM_by_82 : Bok "HerbWatersModel" prog_14_method_46_code (82, bM_by_82, 85) := ⟨by decide +kernel, (List.forall_mem_cons.mpr ⟨sLI1, (List.forall_mem_cons.mpr ⟨sLI2, (List.forall_mem_cons.mpr ⟨sDIV, (fun _ h => absurd h List.not_mem_nil)⟩)⟩)⟩)⟩
theorem kM_by_85 : Bok "HerbWatersModel" prog_14_method_46_code (85, bM_by_85, 86) := ⟨by decide +kernel, (List.forall_mem_cons.mpr ⟨sRI, (fun _ h => absurd h List.not_mem_nil)⟩)⟩
theorem kM_by_86 : Bok "HerbWatersModel" prog_14_method_46_code (86, bM_by_86, 91) := ⟨by decide +kernel, (List.forall_mem_cons.mpr ⟨sLI1, (List.forall_mem_cons.mpr ⟨sLI2, (List.forall_mem_cons.mpr ⟨sICge, (fun _ h => absurd h List.not_mem_nil)⟩)⟩)⟩)⟩
theorem kM_by_91 : Bok "HerbWatersModel" prog_14_method_46_code (91, bM_by_91, 95) := ⟨by decide +kernel, (List.forall_mem_cons.mpr ⟨sC1, (List.forall_mem_cons.mpr ⟨sGO, (fun _ h => absurd h List.not_mem_nil)⟩)⟩)⟩
theorem kM_by_95 : Bok "HerbWatersModel" prog_14_method_46_code (95, bM_by_95, 96) := ⟨by decide +kernel, (List.forall_mem_cons.mpr ⟨sC0, (fun _ h => absurd h List.not_mem_nil)⟩)⟩
theorem kM_by_96 : Bok "HerbWatersModel" prog_14_method_46_code (96, bM_by_96, 97) := ⟨by decide +kernel, (List.forall_mem_cons.mpr ⟨sRI, (fun _ h => absurd h List.not_mem_nil)⟩)⟩
theorem kM_by_97 : Bok "HerbWatersModel" prog_14_method_46_code (97, bM_by_97, 102) := ⟨by decide +kernel, (List.forall_mem_cons.mpr ⟨sLI1, (List.forall_mem_cons.mpr ⟨sLI2, (List.forall_mem_cons.mpr ⟨sICle, (fun _ h => absurd h List.not_mem_nil)⟩)⟩)⟩)⟩
theorem kM_by_102 : Bok "HerbWatersModel" prog_14_method_46_code (102, bM_by_102, 106) := ⟨by decide +kernel, (List.forall_mem_cons.mpr ⟨sC1, (List.forall_mem_cons.mpr ⟨sGO, (fun _ h => absurd h List.not_mem_nil)⟩)⟩)⟩
theorem kM_by_106 : Bok "HerbWatersModel" prog_14_method_46_code (106, bM_by_106, 107) := ⟨by decide +kernel, (List.forall_mem_cons.mpr ⟨sC0, (fun _ h => absurd h List.not_mem_nil)⟩)⟩
theorem kM_by_107 : Bok "HerbWatersModel" prog_14_method_46_code (107, bM_by_107, 108) := ⟨by decide +kernel, (List.forall_mem_cons.mpr ⟨sRI, (fun _ h => absurd h List.not_mem_nil)⟩)⟩
theorem kM_by_108 : Bok "HerbWatersModel" prog_14_method_46_code (108, bM_by_108, 113) := ⟨by decide +kernel, (List.forall_mem_cons.mpr ⟨sLI1, (List.forall_mem_cons.mpr ⟨sLI2, (List.forall_mem_cons.mpr ⟨sICne, (fun _ h => absurd h List.not_mem_nil)⟩)⟩)⟩)⟩
theorem kM_by_113 : Bok "HerbWatersModel" prog_14_method_46_code (113, bM_by_113, 117) := ⟨by decide +kernel, (List.forall_mem_cons.mpr ⟨sC1, (List.forall_mem_cons.mpr ⟨sGO, (fun _ h => absurd h List.not_mem_nil)⟩)⟩)⟩
theorem kM_by_117 : Bok "HerbWatersModel" prog_14_method_46_code (117, bM_by_117, 118) := ⟨by decide +kernel, (List.forall_mem_cons.mpr ⟨sC0, (fun _ h => absurd h List.not_mem_nil)⟩)⟩
theorem kM_by_118 : Bok "HerbWatersModel" prog_14_method_46_code (118, bM_by_118, 119) := ⟨by decide +kernel, (List.forall_mem_cons.mpr ⟨sRI, (fun _ h => absurd h List.not_mem_nil)⟩)⟩
theorem kM_by_119 : Bok "HerbWatersModel" prog_14_method_46_code (119, bM_by_119, 125) := ⟨by decide +kernel, (List.forall_mem_cons.mpr ⟨sLI1, (List.forall_mem_cons.mpr ⟨sLI2, (List.forall_mem_cons.mpr ⟨sADD, (List.forall_mem_cons.mpr ⟨sIFle, (fun _ h => absurd h List.not_mem_nil)⟩)⟩)⟩)⟩)⟩
theorem kM_by_125 : Bok "HerbWatersModel" prog_14_method_46_code (125, bM_by_125, 129) := ⟨by decide +kernel, (List.forall_mem_cons.mpr ⟨sC1, (List.forall_mem_cons.mpr ⟨sGO, (fun _ h => absurd h List.not_mem_nil)⟩)⟩)⟩
theorem kM_by_129 : Bok "HerbWatersModel" prog_14_method_46_code (129, bM_by_129, 130) := ⟨by decide +kernel, (List.forall_mem_cons.mpr ⟨sC0, (fun _ h => absurd h List.not_mem_nil)⟩)⟩
theorem kM_by_130 : Bok "HerbWatersModel" prog_14_method_46_code (130, bM_by_130, 131) := ⟨by decide +kernel, (List.forall_mem_cons.mpr ⟨sRI, (fun _ h => absurd h List.not_mem_nil)⟩)⟩
theorem kM_by : ∀ q ∈ tM_by, Bok "HerbWatersModel" prog_14_method_46_code q := (List.forall_mem_cons.mpr ⟨kM_by_0, (List.forall_mem_cons.mpr ⟨kM_by_52, (List.forall_mem_cons.mpr ⟨kM_by_56, (List.forall_mem_cons.mpr ⟨kM_by_60, (List.forall_mem_cons.mpr ⟨kM_by_64, (List.forall_mem_cons.mpr ⟨kM_by_68, (List.forall_mem_cons.mpr ⟨kM_by_72, (List.forall_mem_cons.mpr ⟨kM_by_77, (List.forall_mem_cons.mpr ⟨kM_by_82, (List.forall_mem_cons.mpr ⟨kM_by_85, (List.forall_mem_cons.mpr ⟨kM_by_86, (List.forall_mem_cons.mpr ⟨kM_by_91, (List.forall_mem_cons.mpr ⟨kM_by_95, (List.forall_mem_cons.mpr ⟨kM_by_96, (List.forall_mem_cons.mpr ⟨kM_by_97, (List.forall_mem_cons.mpr ⟨kM_by_102, (List.forall_mem_cons.mpr ⟨kM_by_106, (List.forall_mem_cons.mpr ⟨kM_by_107, (List.forall_mem_cons.mpr ⟨kM_by_108, (List.forall_mem_cons.mpr ⟨kM_by_113, (List.forall_mem_cons.mpr ⟨kM_by_117, (List.forall_mem_cons.mpr ⟨kM_by_118, (List.forall_mem_cons.mpr ⟨kM_by_119, (List.forall_mem_cons.mpr ⟨kM_by_125, (List.forall_mem_cons.mpr ⟨kM_by_129, (List.forall_mem_cons.mpr ⟨kM_by_130, (fun _ h => absurd h List.not_mem_nil)⟩)⟩)⟩)⟩)⟩)⟩)⟩)⟩)⟩)⟩)⟩)⟩)⟩)⟩)⟩)⟩)⟩)⟩)⟩)⟩)⟩)⟩)⟩)⟩)⟩)⟩)
