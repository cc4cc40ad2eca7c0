/-! code of HerbWatersModel; by program (wip/whole/gen_M.py) -/
def mM_tellsNothing : Mt := (⟨"HerbWatersModel", "tellsNothing", "()V"⟩, prog_14_method_2_code, 1, none)
theorem ok_M_tellsNothing : Mok mM_tellsNothing := ⟨gtb_mem 1711 (by decide +kernel) rfl, gtb_mem 107 (by decide +kernel) rfl, by decide +kernel, by decide⟩
theorem lM_g20 : Snd "HerbWatersModel" (iGR 20 11 11) := sGR _ rfl (gtb_mem 1734 (by decide +kernel) rfl)
def bM_tellsNothing_0 : List Ir := [iLA0, (iGR 20 11 11), iC0, iC0, iIAST, iLA0, (iGR 20 11 11), iC1, iC0, iIAST, iLA0, (iGR 20 11 11), iC2, iCm1, iIAST, iLA0, (iGR 20 11 11), iC3, iC0, iIAST, iLA0, (iGR 20 11 11), iC4, (iBP 20), iIAST, iRV]
def tM_tellsNothing : Tb := [(0, bM_tellsNothing_0, 37)]
theorem fM_tellsNothing_0 : tbf tM_tellsNothing 0 = some (bM_tellsNothing_0, 37) := rfl
theorem kM_tellsNothing_0 : Bok "HerbWatersModel" prog_14_method_2_code (0, bM_tellsNothing_0, 37) := ⟨by decide +kernel, (List.forall_mem_cons.mpr ⟨sLA0, (List.forall_mem_cons.mpr ⟨lM_g20, (List.forall_mem_cons.mpr ⟨sC0, (List.forall_mem_cons.mpr ⟨sC0, (List.forall_mem_cons.mpr ⟨sIAST, (List.forall_mem_cons.mpr ⟨sLA0, (List.forall_mem_cons.mpr ⟨lM_g20, (List.forall_mem_cons.mpr ⟨sC1, (List.forall_mem_cons.mpr ⟨sC0, (List.forall_mem_cons.mpr ⟨sIAST, (List.forall_mem_cons.mpr ⟨sLA0, (List.forall_mem_cons.mpr ⟨lM_g20, (List.forall_mem_cons.mpr ⟨sC2, (List.forall_mem_cons.mpr ⟨sCm1, (List.forall_mem_cons.mpr ⟨sIAST, (List.forall_mem_cons.mpr ⟨sLA0, (List.forall_mem_cons.mpr ⟨lM_g20, (List.forall_mem_cons.mpr ⟨sC3, (List.forall_mem_cons.mpr ⟨sC0, (List.forall_mem_cons.mpr ⟨sIAST, (List.forall_mem_cons.mpr ⟨sLA0, (List.forall_mem_cons.mpr ⟨lM_g20, (List.forall_mem_cons.mpr ⟨sC4, (List.forall_mem_cons.mpr ⟨sBP, (List.forall_mem_cons.mpr ⟨sIAST, (List.forall_mem_cons.mpr ⟨sRV, (fun _ h => absurd h List.not_mem_nil)⟩)⟩)⟩)⟩)⟩)⟩)⟩)⟩)⟩)⟩)⟩)⟩)⟩)⟩)⟩)⟩)⟩)⟩)⟩)⟩)⟩)⟩)⟩)⟩)⟩)⟩)⟩
theorem kM_tellsNothing : ∀ q ∈ tM_tellsNothing, Bok "HerbWatersModel" prog_14_method_2_code q := (List.forall_mem_cons.mpr ⟨kM_tellsNothing_0, (fun _ h => absurd h List.not_mem_nil)⟩)
def mM_thrown : Mt := (⟨"HerbWatersModel", "thrown", "()I"⟩, prog_14_method_3_code, 1, some .int)
theorem ok_M_thrown : Mok mM_thrown := ⟨gtb_mem 1899 (by decide +kernel) rfl, gtb_mem 107 (by decide +kernel) rfl, by decide +kernel, by decide⟩
theorem lM_g123 : Snd "HerbWatersModel" (iGI 123 11 0) := sGI _ rfl (gtb_mem 1723 (by decide +kernel) rfl)
def bM_thrown_0 : List Ir := [iLA0, (iGI 123 11 0), iRI]
def tM_thrown : Tb := [(0, bM_thrown_0, 5)]
theorem fM_thrown_0 : tbf tM_thrown 0 = some (bM_thrown_0, 5) := rfl
theorem kM_thrown_0 : Bok "HerbWatersModel" prog_14_method_3_code (0, bM_thrown_0, 5) := ⟨by decide +kernel, (List.forall_mem_cons.mpr ⟨sLA0, (List.forall_mem_cons.mpr ⟨lM_g123, (List.forall_mem_cons.mpr ⟨sRI, (fun _ h => absurd h List.not_mem_nil)⟩)⟩)⟩)⟩
theorem kM_thrown : ∀ q ∈ tM_thrown, Bok "HerbWatersModel" prog_14_method_3_code q := (List.forall_mem_cons.mpr ⟨kM_thrown_0, (fun _ h => absurd h List.not_mem_nil)⟩)
def mM_bad : Mt := (⟨"HerbWatersModel", "bad", "(ZII)Z"⟩, prog_14_method_4_code, 4, some .boolean)
theorem ok_M_bad : Mok mM_bad := ⟨gtb_mem 1914 (by decide +kernel) rfl, gtb_mem 107 (by decide +kernel) rfl, by decide +kernel, by decide⟩
theorem lM_p123 : Snd "HerbWatersModel" (iPI 123 11 0) := sPI _ rfl rfl (gtb_mem 1723 (by decide +kernel) rfl)
theorem lM_g17 : Snd "HerbWatersModel" (iGR 17 11 10) := sGR _ rfl (gtb_mem 1733 (by decide +kernel) rfl)
def bM_bad_0 : List Ir := [iLI1, (iIFeq (25) 26)]
def bM_bad_4 : List Ir := [iLA0, (iGI 123 11 0), (iIFne (18) 26)]
def bM_bad_11 : List Ir := [iLA0, iLI2, (iPI 123 11 0), iLA0, (iGR 17 11 10), iLI3, iDUP2, iIALD, iC1, iADD, iIAST]
def bM_bad_26 : List Ir := [iLA0, (iGI 123 11 0), (iIFeq (7) 37)]
def bM_bad_33 : List Ir := [iC1, (iGO (4) 38)]
def bM_bad_37 : List Ir := [iC0]
def bM_bad_38 : List Ir := [iRI]
def tM_bad : Tb := [(0, bM_bad_0, 4), (4, bM_bad_4, 11), (11, bM_bad_11, 26), (26, bM_bad_26, 33), (33, bM_bad_33, 37), (37, bM_bad_37, 38), (38, bM_bad_38, 39)]
theorem fM_bad_0 : tbf tM_bad 0 = some (bM_bad_0, 4) := rfl
theorem fM_bad_4 : tbf tM_bad 4 = some (bM_bad_4, 11) := rfl
theorem fM_bad_11 : tbf tM_bad 11 = some (bM_bad_11, 26) := rfl
theorem fM_bad_26 : tbf tM_bad 26 = some (bM_bad_26, 33) := rfl
theorem fM_bad_33 : tbf tM_bad 33 = some (bM_bad_33, 37) := rfl
theorem fM_bad_37 : tbf tM_bad 37 = some (bM_bad_37, 38) := rfl
theorem fM_bad_38 : tbf tM_bad 38 = some (bM_bad_38, 39) := rfl
theorem kM_bad_0 : Bok "HerbWatersModel" prog_14_method_4_code (0, bM_bad_0, 4) := ⟨by decide +kernel, (List.forall_mem_cons.mpr ⟨sLI1, (List.forall_mem_cons.mpr ⟨sIFeq, (fun _ h => absurd h List.not_mem_nil)⟩)⟩)⟩
theorem kM_bad_4 : Bok "HerbWatersModel" prog_14_method_4_code (4, bM_bad_4, 11) := ⟨by decide +kernel, (List.forall_mem_cons.mpr ⟨sLA0, (List.forall_mem_cons.mpr ⟨lM_g123, (List.forall_mem_cons.mpr ⟨sIFne, (fun _ h => absurd h List.not_mem_nil)⟩)⟩)⟩)⟩
theorem kM_bad_11 : Bok "HerbWatersModel" prog_14_method_4_code (11, bM_bad_11, 26) := ⟨by decide +kernel, (List.forall_mem_cons.mpr ⟨sLA0, (List.forall_mem_cons.mpr ⟨sLI2, (List.forall_mem_cons.mpr ⟨lM_p123, (List.forall_mem_cons.mpr ⟨sLA0, (List.forall_mem_cons.mpr ⟨lM_g17, (List.forall_mem_cons.mpr ⟨sLI3, (List.forall_mem_cons.mpr ⟨sDUP2, (List.forall_mem_cons.mpr ⟨sIALD, (List.forall_mem_cons.mpr ⟨sC1, (List.forall_mem_cons.mpr ⟨sADD, (List.forall_mem_cons.mpr ⟨sIAST, (fun _ h => absurd h List.not_mem_nil)⟩)⟩)⟩)⟩)⟩)⟩)⟩)⟩)⟩)⟩)⟩)⟩
theorem kM_bad_26 : Bok "HerbWatersModel" prog_14_method_4_code (26, bM_bad_26, 33) := ⟨by decide +kernel, (List.forall_mem_cons.mpr ⟨sLA0, (List.forall_mem_cons.mpr ⟨lM_g123, (List.forall_mem_cons.mpr ⟨sIFeq, (fun _ h => absurd h List.not_mem_nil)⟩)⟩)⟩)⟩
theorem kM_bad_33 : Bok "HerbWatersModel" prog_14_method_4_code (33, bM_bad_33, 37) := ⟨by decide +kernel, (List.forall_mem_cons.mpr ⟨sC1, (List.forall_mem_cons.mpr ⟨sGO, (fun _ h => absurd h List.not_mem_nil)⟩)⟩)⟩
theorem kM_bad_37 : Bok "HerbWatersModel" prog_14_method_4_code (37, bM_bad_37, 38) := ⟨by decide +kernel, (List.forall_mem_cons.mpr ⟨sC0, (fun _ h => absurd h List.not_mem_nil)⟩)⟩
theorem kM_bad_38 : Bok "HerbWatersModel" prog_14_method_4_code (38, bM_bad_38, 39) := ⟨by decide +kernel, (List.forall_mem_cons.mpr ⟨sRI, (fun _ h => absurd h List.not_mem_nil)⟩)⟩
theorem kM_bad : ∀ q ∈ tM_bad, Bok "HerbWatersModel" prog_14_method_4_code q := (List.forall_mem_cons.mpr ⟨kM_bad_0, (List.forall_mem_cons.mpr ⟨kM_bad_4, (List.forall_mem_cons.mpr ⟨kM_bad_11, (List.forall_mem_cons.mpr ⟨kM_bad_26, (List.forall_mem_cons.mpr ⟨kM_bad_33, (List.forall_mem_cons.mpr ⟨kM_bad_37, (List.forall_mem_cons.mpr ⟨kM_bad_38, (fun _ h => absurd h List.not_mem_nil)⟩)⟩)⟩)⟩)⟩)⟩)⟩)
def mM_in : Mt := (⟨"HerbWatersModel", "in", "(III)Z"⟩, prog_14_method_5_code, 3, some .boolean)
theorem ok_M_in : Mok mM_in := ⟨gtb_mem 1910 (by decide +kernel) rfl, gtb_mem 107 (by decide +kernel) rfl, by decide +kernel, by decide⟩
def bM_in_0 : List Ir := [iLI0, iLI1, (iIClt (12) 14)]
def bM_in_5 : List Ir := [iLI0, iLI2, (iICgt (7) 14)]
def bM_in_10 : List Ir := [iC1, (iGO (4) 15)]
def bM_in_14 : List Ir := [iC0]
def bM_in_15 : List Ir := [iRI]
def tM_in : Tb := [(0, bM_in_0, 5), (5, bM_in_5, 10), (10, bM_in_10, 14), (14, bM_in_14, 15), (15, bM_in_15, 16)]
theorem fM_in_0 : tbf tM_in 0 = some (bM_in_0, 5) := rfl
theorem fM_in_5 : tbf tM_in 5 = some (bM_in_5, 10) := rfl
theorem fM_in_10 : tbf tM_in 10 = some (bM_in_10, 14) := rfl
theorem fM_in_14 : tbf tM_in 14 = some (bM_in_14, 15) := rfl
theorem fM_in_15 : tbf tM_in 15 = some (bM_in_15, 16) := rfl
theorem kM_in_0 : Bok "HerbWatersModel" prog_14_method_5_code (0, bM_in_0, 5) := ⟨by decide +kernel, (List.forall_mem_cons.mpr ⟨sLI0, (List.forall_mem_cons.mpr ⟨sLI1, (List.forall_mem_cons.mpr ⟨sIClt, (fun _ h => absurd h List.not_mem_nil)⟩)⟩)⟩)⟩
theorem kM_in_5 : Bok "HerbWatersModel" prog_14_method_5_code (5, bM_in_5, 10) := ⟨by decide +kernel, (List.forall_mem_cons.mpr ⟨sLI0, (List.forall_mem_cons.mpr ⟨sLI2, (List.forall_mem_cons.mpr ⟨sICgt, (fun _ h => absurd h List.not_mem_nil)⟩)⟩)⟩)⟩
theorem kM_in_10 : Bok "HerbWatersModel" prog_14_method_5_code (10, bM_in_10, 14) := ⟨by decide +kernel, (List.forall_mem_cons.mpr ⟨sC1, (List.forall_mem_cons.mpr ⟨sGO, (fun _ h => absurd h List.not_mem_nil)⟩)⟩)⟩
theorem kM_in_14 : Bok "HerbWatersModel" prog_14_method_5_code (14, bM_in_14, 15) := ⟨by decide +kernel, (List.forall_mem_cons.mpr ⟨sC0, (fun _ h => absurd h List.not_mem_nil)⟩)⟩
theorem kM_in_15 : Bok "HerbWatersModel" prog_14_method_5_code (15, bM_in_15, 16) := ⟨by decide +kernel, (List.forall_mem_cons.mpr ⟨sRI, (fun _ h => absurd h List.not_mem_nil)⟩)⟩
theorem kM_in : ∀ q ∈ tM_in, Bok "HerbWatersModel" prog_14_method_5_code q := (List.forall_mem_cons.mpr ⟨kM_in_0, (List.forall_mem_cons.mpr ⟨kM_in_5, (List.forall_mem_cons.mpr ⟨kM_in_10, (List.forall_mem_cons.mpr ⟨kM_in_14, (List.forall_mem_cons.mpr ⟨kM_in_15, (fun _ h => absurd h List.not_mem_nil)⟩)⟩)⟩)⟩)⟩)
def mM_less : Mt := (⟨"HerbWatersModel", "less", "(II)I"⟩, prog_14_method_6_code, 2, some .int)
theorem ok_M_less : Mok mM_less := ⟨gtb_mem 2069 (by decide +kernel) rfl, gtb_mem 107 (by decide +kernel) rfl, by decide +kernel, by decide⟩
def bM_less_0 : List Ir := [iLI0, iLI1, (iICge (7) 9)]
def bM_less_5 : List Ir := [iLI0, (iGO (4) 10)]
def bM_less_9 : List Ir := [iLI1]
def bM_less_10 : List Ir := [iRI]
def tM_less : Tb := [(0, bM_less_0, 5), (5, bM_less_5, 9), (9, bM_less_9, 10), (10, bM_less_10, 11)]
theorem fM_less_0 : tbf tM_less 0 = some (bM_less_0, 5) := rfl
theorem fM_less_5 : tbf tM_less 5 = some (bM_less_5, 9) := rfl
theorem fM_less_9 : tbf tM_less 9 = some (bM_less_9, 10) := rfl
theorem fM_less_10 : tbf tM_less 10 = some (bM_less_10, 11) := rfl
theorem kM_less_0 : Bok "HerbWatersModel" prog_14_method_6_code (0, bM_less_0, 5) := ⟨by decide +kernel, (List.forall_mem_cons.mpr ⟨sLI0, (List.forall_mem_cons.mpr ⟨sLI1, (List.forall_mem_cons.mpr ⟨sICge, (fun _ h => absurd h List.not_mem_nil)⟩)⟩)⟩)⟩
theorem kM_less_5 : Bok "HerbWatersModel" prog_14_method_6_code (5, bM_less_5, 9) := ⟨by decide +kernel, (List.forall_mem_cons.mpr ⟨sLI0, (List.forall_mem_cons.mpr ⟨sGO, (fun _ h => absurd h List.not_mem_nil)⟩)⟩)⟩
theorem kM_less_9 : Bok "HerbWatersModel" prog_14_method_6_code (9, bM_less_9, 10) := ⟨by decide +kernel, (List.forall_mem_cons.mpr ⟨sLI1, (fun _ h => absurd h List.not_mem_nil)⟩)⟩
theorem kM_less_10 : Bok "HerbWatersModel" prog_14_method_6_code (10, bM_less_10, 11) := ⟨by decide +kernel, (List.forall_mem_cons.mpr ⟨sRI, (fun _ h => absurd h List.not_mem_nil)⟩)⟩
theorem kM_less : ∀ q ∈ tM_less, Bok "HerbWatersModel" prog_14_method_6_code q := (List.forall_mem_cons.mpr ⟨kM_less_0, (List.forall_mem_cons.mpr ⟨kM_less_5, (List.forall_mem_cons.mpr ⟨kM_less_9, (List.forall_mem_cons.mpr ⟨kM_less_10, (fun _ h => absurd h List.not_mem_nil)⟩)⟩)⟩)⟩)
def mM_feed : Mt := (⟨"HerbWatersModel", "feed", "(IIIII)I"⟩, prog_14_method_7_code, 8, some .int)
theorem ok_M_feed : Mok mM_feed := ⟨gtb_mem 1903 (by decide +kernel) rfl, gtb_mem 107 (by decide +kernel) rfl, by decide +kernel, by decide⟩
theorem lM_g126 : Snd "HerbWatersModel" (iGI 126 11 1) := sGI _ rfl (gtb_mem 1724 (by decide +kernel) rfl)
theorem lM_g13 : Snd "HerbWatersModel" (iGR 13 11 9) := sGR _ rfl (gtb_mem 1732 (by decide +kernel) rfl)
theorem lM_p126 : Snd "HerbWatersModel" (iPI 126 11 1) := sPI _ rfl rfl (gtb_mem 1724 (by decide +kernel) rfl)
def bM_feed_0 : List Ir := [iLA0, iC0, (iPI 123 11 0), iLA0, (iGI 126 11 1), (iBP 20), iADD, (iSP 600), (iICle (5) 20)]
def bM_feed_18 : List Ir := [iCm1, iRI]
def bM_feed_20 : List Ir := [iC0, iSI6]
def bM_feed_23 : List Ir := [iLI6, (iBP 20), (iICge (93) 120)]
def bM_feed_30 : List Ir := [iLI6, iC4, (iICge (7) 40)]
def bM_feed_36 : List Ir := [iLI1, (iGO (39) 76)]
def bM_feed_40 : List Ir := [iLI6, (iBP 8), (iICge (7) 51)]
def bM_feed_47 : List Ir := [iLI2, (iGO (28) 76)]
def bM_feed_51 : List Ir := [iLI6, (iBP 12), (iICge (7) 62)]
def bM_feed_58 : List Ir := [iLI3, (iGO (17) 76)]
def bM_feed_62 : List Ir := [iLI6, (iBP 16), (iICge (8) 74)]
def bM_feed_69 : List Ir := [iLI4, (iGO (5) 76)]
def bM_feed_74 : List Ir := [iLI5]
def bM_feed_76 : List Ir := [iSI7, iLA0, (iGR 13 11 9), iLA0, (iGI 126 11 1), iLI7, (iBP 24), (iBP 8), iLI6, iC4, iREM, iMUL, iSUB, iSHR, (iSP 255), iAND, iIAST, iLA0, iDUPr, (iGI 126 11 1), iC1, iADD, (iPI 126 11 1), (iINC6 1), (iGO (-94) 23)]
def bM_feed_120 : List Ir := [iLA0, (iGI 126 11 1), iRI]
def tM_feed : Tb := [(0, bM_feed_0, 18), (18, bM_feed_18, 20), (20, bM_feed_20, 23), (23, bM_feed_23, 30), (30, bM_feed_30, 36), (36, bM_feed_36, 40), (40, bM_feed_40, 47), (47, bM_feed_47, 51), (51, bM_feed_51, 58), (58, bM_feed_58, 62), (62, bM_feed_62, 69), (69, bM_feed_69, 74), (74, bM_feed_74, 76), (76, bM_feed_76, 120), (120, bM_feed_120, 125)]
theorem fM_feed_0 : tbf tM_feed 0 = some (bM_feed_0, 18) := rfl
theorem fM_feed_18 : tbf tM_feed 18 = some (bM_feed_18, 20) := rfl
theorem fM_feed_20 : tbf tM_feed 20 = some (bM_feed_20, 23) := rfl
theorem fM_feed_23 : tbf tM_feed 23 = some (bM_feed_23, 30) := rfl
theorem fM_feed_30 : tbf tM_feed 30 = some (bM_feed_30, 36) := rfl
theorem fM_feed_36 : tbf tM_feed 36 = some (bM_feed_36, 40) := rfl
theorem fM_feed_40 : tbf tM_feed 40 = some (bM_feed_40, 47) := rfl
theorem fM_feed_47 : tbf tM_feed 47 = some (bM_feed_47, 51) := rfl
theorem fM_feed_51 : tbf tM_feed 51 = some (bM_feed_51, 58) := rfl
theorem fM_feed_58 : tbf tM_feed 58 = some (bM_feed_58, 62) := rfl
theorem fM_feed_62 : tbf tM_feed 62 = some (bM_feed_62, 69) := rfl
theorem fM_feed_69 : tbf tM_feed 69 = some (bM_feed_69, 74) := rfl
theorem fM_feed_74 : tbf tM_feed 74 = some (bM_feed_74, 76) := rfl
theorem fM_feed_76 : tbf tM_feed 76 = some (bM_feed_76, 120) := rfl
theorem fM_feed_120 : tbf tM_feed 120 = some (bM_feed_120, 125) := rfl
theorem kM_feed_0 : Bok "HerbWatersModel" prog_14_method_7_code (0, bM_feed_0, 18) := ⟨by decide +kernel, (List.forall_mem_cons.mpr ⟨sLA0, (List.forall_mem_cons.mpr ⟨sC0, (List.forall_mem_cons.mpr ⟨lM_p123, (List.forall_mem_cons.mpr ⟨sLA0, (List.forall_mem_cons.mpr ⟨lM_g126, (List.forall_mem_cons.mpr ⟨sBP, (List.forall_mem_cons.mpr ⟨sADD, (List.forall_mem_cons.mpr ⟨sSP, (List.forall_mem_cons.mpr ⟨sICle, (fun _ h => absurd h List.not_mem_nil)⟩)⟩)⟩)⟩)⟩)⟩)⟩)⟩)⟩)⟩
theorem kM_feed_18 : Bok "HerbWatersModel" prog_14_method_7_code (18, bM_feed_18, 20) := ⟨by decide +kernel, (List.forall_mem_cons.mpr ⟨sCm1, (List.forall_mem_cons.mpr ⟨sRI, (fun _ h => absurd h List.not_mem_nil)⟩)⟩)⟩
theorem kM_feed_20 : Bok "HerbWatersModel" prog_14_method_7_code (20, bM_feed_20, 23) := ⟨by decide +kernel, (List.forall_mem_cons.mpr ⟨sC0, (List.forall_mem_cons.mpr ⟨sSI6, (fun _ h => absurd h List.not_mem_nil)⟩)⟩)⟩
theorem kM_feed_23 : Bok "HerbWatersModel" prog_14_method_7_code (23, bM_feed_23, 30) := ⟨by decide +kernel, (List.forall_mem_cons.mpr ⟨sLI6, (List.forall_mem_cons.mpr ⟨sBP, (List.forall_mem_cons.mpr ⟨sICge, (fun _ h => absurd h List.not_mem_nil)⟩)⟩)⟩)⟩
theorem kM_feed_30 : Bok "HerbWatersModel" prog_14_method_7_code (30, bM_feed_30, 36) := ⟨by decide +kernel, (List.forall_mem_cons.mpr ⟨sLI6, (List.forall_mem_cons.mpr ⟨sC4, (List.forall_mem_cons.mpr ⟨sICge, (fun _ h => absurd h List.not_mem_nil)⟩)⟩)⟩)⟩
theorem kM_feed_36 : Bok "HerbWatersModel" prog_14_method_7_code (36, bM_feed_36, 40) := ⟨by decide +kernel, (List.forall_mem_cons.mpr ⟨sLI1, (List.forall_mem_cons.mpr ⟨sGO, (fun _ h => absurd h List.not_mem_nil)⟩)⟩)⟩
theorem kM_feed_40 : Bok "HerbWatersModel" prog_14_method_7_code (40, bM_feed_40, 47) := ⟨by decide +kernel, (List.forall_mem_cons.mpr ⟨sLI6, (List.forall_mem_cons.mpr ⟨sBP, (List.forall_mem_cons.mpr ⟨sICge, (fun _ h => absurd h List.not_mem_nil)⟩)⟩)⟩)⟩
theorem kM_feed_47 : Bok "HerbWatersModel" prog_14_method_7_code (47, bM_feed_47, 51) := ⟨by decide +kernel, (List.forall_mem_cons.mpr ⟨sLI2, (List.forall_mem_cons.mpr ⟨sGO, (fun _ h => absurd h List.not_mem_nil)⟩)⟩)⟩
theorem kM_feed_51 : Bok "HerbWatersModel" prog_14_method_7_code (51, bM_feed_51, 58) := ⟨by decide +kernel, (List.forall_mem_cons.mpr ⟨sLI6, (List.forall_mem_cons.mpr ⟨sBP, (List.forall_mem_cons.mpr ⟨sICge, (fun _ h => absurd h List.not_mem_nil)⟩)⟩)⟩)⟩
theorem kM_feed_58 : Bok "HerbWatersModel" prog_14_method_7_code (58, bM_feed_58, 62) := ⟨by decide +kernel, (List.forall_mem_cons.mpr ⟨sLI3, (List.forall_mem_cons.mpr ⟨sGO, (fun _ h => absurd h List.not_mem_nil)⟩)⟩)⟩
theorem kM_feed_62 : Bok "HerbWatersModel" prog_14_method_7_code (62, bM_feed_62, 69) := ⟨by decide +kernel, (List.forall_mem_cons.mpr ⟨sLI6, (List.forall_mem_cons.mpr ⟨sBP, (List.forall_mem_cons.mpr ⟨sICge, (fun _ h => absurd h List.not_mem_nil)⟩)⟩)⟩)⟩
theorem kM_feed_69 : Bok "HerbWatersModel" prog_14_method_7_code (69, bM_feed_69, 74) := ⟨by decide +kernel, (List.forall_mem_cons.mpr ⟨sLI4, (List.forall_mem_cons.mpr ⟨sGO, (fun _ h => absurd h List.not_mem_nil)⟩)⟩)⟩
theorem kM_feed_74 : Bok "HerbWatersModel" prog_14_method_7_code (74, bM_feed_74, 76) := ⟨by decide +kernel, (List.forall_mem_cons.mpr ⟨sLI5, (fun _ h => absurd h List.not_mem_nil)⟩)⟩
theorem kM_feed_76 : Bok "HerbWatersModel" prog_14_method_7_code (76, bM_feed_76, 120) := ⟨by decide +kernel, (List.forall_mem_cons.mpr ⟨sSI7, (List.forall_mem_cons.mpr ⟨sLA0, (List.forall_mem_cons.mpr ⟨lM_g13, (List.forall_mem_cons.mpr ⟨sLA0, (List.forall_mem_cons.mpr ⟨lM_g126, (List.forall_mem_cons.mpr ⟨sLI7, (List.forall_mem_cons.mpr ⟨sBP, (List.forall_mem_cons.mpr ⟨sBP, (List.forall_mem_cons.mpr ⟨sLI6, (List.forall_mem_cons.mpr ⟨sC4, (List.forall_mem_cons.mpr ⟨sREM, (List.forall_mem_cons.mpr ⟨sMUL, (List.forall_mem_cons.mpr ⟨sSUB, (List.forall_mem_cons.mpr ⟨sSHR, (List.forall_mem_cons.mpr ⟨sSP, (List.forall_mem_cons.mpr ⟨sAND, (List.forall_mem_cons.mpr ⟨sIAST, (List.forall_mem_cons.mpr ⟨sLA0, (List.forall_mem_cons.mpr ⟨sDUPr, (List.forall_mem_cons.mpr ⟨lM_g126, (List.forall_mem_cons.mpr ⟨sC1, (List.forall_mem_cons.mpr ⟨sADD, (List.forall_mem_cons.mpr ⟨lM_p126, (List.forall_mem_cons.mpr ⟨sINC6, (List.forall_mem_cons.mpr ⟨sGO, (fun _ h => absurd h List.not_mem_nil)⟩)⟩)⟩)⟩)⟩)⟩)⟩)⟩)⟩)⟩)⟩)⟩)⟩)⟩)⟩)⟩)⟩)⟩)⟩)⟩)⟩)⟩)⟩)⟩)⟩)⟩
theorem kM_feed_120 : Bok "HerbWatersModel" prog_14_method_7_code (120, bM_feed_120, 125) := ⟨by decide +kernel, (List.forall_mem_cons.mpr ⟨sLA0, (List.forall_mem_cons.mpr ⟨lM_g126, (List.forall_mem_cons.mpr ⟨sRI, (fun _ h => absurd h List.not_mem_nil)⟩)⟩)⟩)⟩
theorem kM_feed : ∀ q ∈ tM_feed, Bok "HerbWatersModel" prog_14_method_7_code q := (List.forall_mem_cons.mpr ⟨kM_feed_0, (List.forall_mem_cons.mpr ⟨kM_feed_18, (List.forall_mem_cons.mpr ⟨kM_feed_20, (List.forall_mem_cons.mpr ⟨kM_feed_23, (List.forall_mem_cons.mpr ⟨kM_feed_30, (List.forall_mem_cons.mpr ⟨kM_feed_36, (List.forall_mem_cons.mpr ⟨kM_feed_40, (List.forall_mem_cons.mpr ⟨kM_feed_47, (List.forall_mem_cons.mpr ⟨kM_feed_51, (List.forall_mem_cons.mpr ⟨kM_feed_58, (List.forall_mem_cons.mpr ⟨kM_feed_62, (List.forall_mem_cons.mpr ⟨kM_feed_69, (List.forall_mem_cons.mpr ⟨kM_feed_74, (List.forall_mem_cons.mpr ⟨kM_feed_76, (List.forall_mem_cons.mpr ⟨kM_feed_120, (fun _ h => absurd h List.not_mem_nil)⟩)⟩)⟩)⟩)⟩)⟩)⟩)⟩)⟩)⟩)⟩)⟩)⟩)⟩)⟩)
def mM_byteAt : Mt := (⟨"HerbWatersModel", "byteAt", "(I)I"⟩, prog_14_method_8_code, 2, some .int)
theorem ok_M_byteAt : Mok mM_byteAt := ⟨gtb_mem 1926 (by decide +kernel) rfl, gtb_mem 107 (by decide +kernel) rfl, by decide +kernel, by decide⟩
theorem lM_g129 : Snd "HerbWatersModel" (iGI 129 11 2) := sGI _ rfl (gtb_mem 1725 (by decide +kernel) rfl)
def bM_byteAt_0 : List Ir := [iLI1, iLA0, (iGI 129 11 2), (iIClt (7) 12)]
def bM_byteAt_8 : List Ir := [iCm1, (iGO (9) 18)]
def bM_byteAt_12 : List Ir := [iLA0, (iGR 13 11 9), iLI1, iIALD]
def bM_byteAt_18 : List Ir := [iRI]
def tM_byteAt : Tb := [(0, bM_byteAt_0, 8), (8, bM_byteAt_8, 12), (12, bM_byteAt_12, 18), (18, bM_byteAt_18, 19)]
theorem fM_byteAt_0 : tbf tM_byteAt 0 = some (bM_byteAt_0, 8) := rfl
theorem fM_byteAt_8 : tbf tM_byteAt 8 = some (bM_byteAt_8, 12) := rfl
theorem fM_byteAt_12 : tbf tM_byteAt 12 = some (bM_byteAt_12, 18) := rfl
theorem fM_byteAt_18 : tbf tM_byteAt 18 = some (bM_byteAt_18, 19) := rfl
theorem kM_byteAt_0 : Bok "HerbWatersModel" prog_14_method_8_code (0, bM_byteAt_0, 8) := ⟨by decide +kernel, (List.forall_mem_cons.mpr ⟨sLI1, (List.forall_mem_cons.mpr ⟨sLA0, (List.forall_mem_cons.mpr ⟨lM_g129, (List.forall_mem_cons.mpr ⟨sIClt, (fun _ h => absurd h List.not_mem_nil)⟩)⟩)⟩)⟩)⟩
theorem kM_byteAt_8 : Bok "HerbWatersModel" prog_14_method_8_code (8, bM_byteAt_8, 12) := ⟨by decide +kernel, (List.forall_mem_cons.mpr ⟨sCm1, (List.forall_mem_cons.mpr ⟨sGO, (fun _ h => absurd h List.not_mem_nil)⟩)⟩)⟩
theorem kM_byteAt_12 : Bok "HerbWatersModel" prog_14_method_8_code (12, bM_byteAt_12, 18) := ⟨by decide +kernel, (List.forall_mem_cons.mpr ⟨sLA0, (List.forall_mem_cons.mpr ⟨lM_g13, (List.forall_mem_cons.mpr ⟨sLI1, (List.forall_mem_cons.mpr ⟨sIALD, (fun _ h => absurd h List.not_mem_nil)⟩)⟩)⟩)⟩)⟩
theorem kM_byteAt_18 : Bok "HerbWatersModel" prog_14_method_8_code (18, bM_byteAt_18, 19) := ⟨by decide +kernel, (List.forall_mem_cons.mpr ⟨sRI, (fun _ h => absurd h List.not_mem_nil)⟩)⟩
theorem kM_byteAt : ∀ q ∈ tM_byteAt, Bok "HerbWatersModel" prog_14_method_8_code q := (List.forall_mem_cons.mpr ⟨kM_byteAt_0, (List.forall_mem_cons.mpr ⟨kM_byteAt_8, (List.forall_mem_cons.mpr ⟨kM_byteAt_12, (List.forall_mem_cons.mpr ⟨kM_byteAt_18, (fun _ h => absurd h List.not_mem_nil)⟩)⟩)⟩)⟩)
def mM_blanks : Mt := (⟨"HerbWatersModel", "blanks", "()V"⟩, prog_14_method_9_code, 1, none)
theorem ok_M_blanks : Mok mM_blanks := ⟨gtb_mem 1922 (by decide +kernel) rfl, gtb_mem 107 (by decide +kernel) rfl, by decide +kernel, by decide⟩
theorem lM_g132 : Snd "HerbWatersModel" (iGI 132 11 4) := sGI _ rfl (gtb_mem 1727 (by decide +kernel) rfl)
theorem lM_v135 : Snd "HerbWatersModel" (iCV1 135 11 mM_byteAt) := sCV1 _ rfl rfl ok_M_byteAt (gtb_mem 1925 (by decide +kernel) rfl) (gtb_mem 46 (by decide +kernel) rfl) (gtb_mem 1923 (by decide +kernel) rfl)
theorem lM_p132 : Snd "HerbWatersModel" (iPI 132 11 4) := sPI _ rfl rfl (gtb_mem 1727 (by decide +kernel) rfl)
def bM_blanks_0 : List Ir := [iLA0, iLA0, (iGI 132 11 4), (iCV1 135 11 mM_byteAt), (iBP 32), (iICne (16) 26)]
def bM_blanks_13 : List Ir := [iLA0, iDUPr, (iGI 132 11 4), iC1, iADD, (iPI 132 11 4), (iGO (-23) 0)]
def bM_blanks_26 : List Ir := [iRV]
def tM_blanks : Tb := [(0, bM_blanks_0, 13), (13, bM_blanks_13, 26), (26, bM_blanks_26, 27)]
theorem fM_blanks_0 : tbf tM_blanks 0 = some (bM_blanks_0, 13) := rfl
theorem fM_blanks_13 : tbf tM_blanks 13 = some (bM_blanks_13, 26) := rfl
theorem fM_blanks_26 : tbf tM_blanks 26 = some (bM_blanks_26, 27) := rfl
theorem kM_blanks_0 : Bok "HerbWatersModel" prog_14_method_9_code (0, bM_blanks_0, 13) := ⟨by decide +kernel, (List.forall_mem_cons.mpr ⟨sLA0, (List.forall_mem_cons.mpr ⟨sLA0, (List.forall_mem_cons.mpr ⟨lM_g132, (List.forall_mem_cons.mpr ⟨lM_v135, (List.forall_mem_cons.mpr ⟨sBP, (List.forall_mem_cons.mpr ⟨sICne, (fun _ h => absurd h List.not_mem_nil)⟩)⟩)⟩)⟩)⟩)⟩)⟩
theorem kM_blanks_13 : Bok "HerbWatersModel" prog_14_method_9_code (13, bM_blanks_13, 26) := ⟨by decide +kernel, (List.forall_mem_cons.mpr ⟨sLA0, (List.forall_mem_cons.mpr ⟨sDUPr, (List.forall_mem_cons.mpr ⟨lM_g132, (List.forall_mem_cons.mpr ⟨sC1, (List.forall_mem_cons.mpr ⟨sADD, (List.forall_mem_cons.mpr ⟨lM_p132, (List.forall_mem_cons.mpr ⟨sGO, (fun _ h => absurd h List.not_mem_nil)⟩)⟩)⟩)⟩)⟩)⟩)⟩)⟩
theorem kM_blanks_26 : Bok "HerbWatersModel" prog_14_method_9_code (26, bM_blanks_26, 27) := ⟨by decide +kernel, (List.forall_mem_cons.mpr ⟨sRV, (fun _ h => absurd h List.not_mem_nil)⟩)⟩
theorem kM_blanks : ∀ q ∈ tM_blanks, Bok "HerbWatersModel" prog_14_method_9_code q := (List.forall_mem_cons.mpr ⟨kM_blanks_0, (List.forall_mem_cons.mpr ⟨kM_blanks_13, (List.forall_mem_cons.mpr ⟨kM_blanks_26, (fun _ h => absurd h List.not_mem_nil)⟩)⟩)⟩)
def mM_wrong : Mt := (⟨"HerbWatersModel", "wrong", "(II)V"⟩, prog_14_method_10_code, 3, none)
theorem ok_M_wrong : Mok mM_wrong := ⟨gtb_mem 1955 (by decide +kernel) rfl, gtb_mem 107 (by decide +kernel) rfl, by decide +kernel, by decide⟩
theorem lM_g139 : Snd "HerbWatersModel" (iGI 139 11 5) := sGI _ rfl (gtb_mem 1728 (by decide +kernel) rfl)
theorem lM_p139 : Snd "HerbWatersModel" (iPI 139 11 5) := sPI _ rfl rfl (gtb_mem 1728 (by decide +kernel) rfl)
theorem lM_p142 : Snd "HerbWatersModel" (iPI 142 11 6) := sPI _ rfl rfl (gtb_mem 1729 (by decide +kernel) rfl)
def bM_wrong_0 : List Ir := [iLA0, (iGI 139 11 5), (iIFne (13) 17)]
def bM_wrong_7 : List Ir := [iLA0, iLI1, (iPI 139 11 5), iLA0, iLI2, (iPI 142 11 6)]
def bM_wrong_17 : List Ir := [iRV]
def tM_wrong : Tb := [(0, bM_wrong_0, 7), (7, bM_wrong_7, 17), (17, bM_wrong_17, 18)]
theorem fM_wrong_0 : tbf tM_wrong 0 = some (bM_wrong_0, 7) := rfl
theorem fM_wrong_7 : tbf tM_wrong 7 = some (bM_wrong_7, 17) := rfl
theorem fM_wrong_17 : tbf tM_wrong 17 = some (bM_wrong_17, 18) := rfl
theorem kM_wrong_0 : Bok "HerbWatersModel" prog_14_method_10_code (0, bM_wrong_0, 7) := ⟨by decide +kernel, (List.forall_mem_cons.mpr ⟨sLA0, (List.forall_mem_cons.mpr ⟨lM_g139, (List.forall_mem_cons.mpr ⟨sIFne, (fun _ h => absurd h List.not_mem_nil)⟩)⟩)⟩)⟩
theorem kM_wrong_7 : Bok "HerbWatersModel" prog_14_method_10_code (7, bM_wrong_7, 17) := ⟨by decide +kernel, (List.forall_mem_cons.mpr ⟨sLA0, (List.forall_mem_cons.mpr ⟨sLI1, (List.forall_mem_cons.mpr ⟨lM_p139, (List.forall_mem_cons.mpr ⟨sLA0, (List.forall_mem_cons.mpr ⟨sLI2, (List.forall_mem_cons.mpr ⟨lM_p142, (fun _ h => absurd h List.not_mem_nil)⟩)⟩)⟩)⟩)⟩)⟩)⟩
theorem kM_wrong_17 : Bok "HerbWatersModel" prog_14_method_10_code (17, bM_wrong_17, 18) := ⟨by decide +kernel, (List.forall_mem_cons.mpr ⟨sRV, (fun _ h => absurd h List.not_mem_nil)⟩)⟩
theorem kM_wrong : ∀ q ∈ tM_wrong, Bok "HerbWatersModel" prog_14_method_10_code q := (List.forall_mem_cons.mpr ⟨kM_wrong_0, (List.forall_mem_cons.mpr ⟨kM_wrong_7, (List.forall_mem_cons.mpr ⟨kM_wrong_17, (fun _ h => absurd h List.not_mem_nil)⟩)⟩)⟩)
def mM_isDigit : Mt := (⟨"HerbWatersModel", "isDigit", "(I)Z"⟩, prog_14_method_11_code, 1, some .boolean)
theorem ok_M_isDigit : Mok mM_isDigit := ⟨gtb_mem 1966 (by decide +kernel) rfl, gtb_mem 107 (by decide +kernel) rfl, by decide +kernel, by decide⟩
def bM_isDigit_0 : List Ir := [iLI0, (iBP 48), (iIClt (13) 16)]
def bM_isDigit_6 : List Ir := [iLI0, (iBP 57), (iICgt (7) 16)]
def bM_isDigit_12 : List Ir := [iC1, (iGO (4) 17)]
def bM_isDigit_16 : List Ir := [iC0]
def bM_isDigit_17 : List Ir := [iRI]
def tM_isDigit : Tb := [(0, bM_isDigit_0, 6), (6, bM_isDigit_6, 12), (12, bM_isDigit_12, 16), (16, bM_isDigit_16, 17), (17, bM_isDigit_17, 18)]
theorem fM_isDigit_0 : tbf tM_isDigit 0 = some (bM_isDigit_0, 6) := rfl
theorem fM_isDigit_6 : tbf tM_isDigit 6 = some (bM_isDigit_6, 12) := rfl
theorem fM_isDigit_12 : tbf tM_isDigit 12 = some (bM_isDigit_12, 16) := rfl
theorem fM_isDigit_16 : tbf tM_isDigit 16 = some (bM_isDigit_16, 17) := rfl
theorem fM_isDigit_17 : tbf tM_isDigit 17 = some (bM_isDigit_17, 18) := rfl
theorem kM_isDigit_0 : Bok "HerbWatersModel" prog_14_method_11_code (0, bM_isDigit_0, 6) := ⟨by decide +kernel, (List.forall_mem_cons.mpr ⟨sLI0, (List.forall_mem_cons.mpr ⟨sBP, (List.forall_mem_cons.mpr ⟨sIClt, (fun _ h => absurd h List.not_mem_nil)⟩)⟩)⟩)⟩
theorem kM_isDigit_6 : Bok "HerbWatersModel" prog_14_method_11_code (6, bM_isDigit_6, 12) := ⟨by decide +kernel, (List.forall_mem_cons.mpr ⟨sLI0, (List.forall_mem_cons.mpr ⟨sBP, (List.forall_mem_cons.mpr ⟨sICgt, (fun _ h => absurd h List.not_mem_nil)⟩)⟩)⟩)⟩
theorem kM_isDigit_12 : Bok "HerbWatersModel" prog_14_method_11_code (12, bM_isDigit_12, 16) := ⟨by decide +kernel, (List.forall_mem_cons.mpr ⟨sC1, (List.forall_mem_cons.mpr ⟨sGO, (fun _ h => absurd h List.not_mem_nil)⟩)⟩)⟩
theorem kM_isDigit_16 : Bok "HerbWatersModel" prog_14_method_11_code (16, bM_isDigit_16, 17) := ⟨by decide +kernel, (List.forall_mem_cons.mpr ⟨sC0, (fun _ h => absurd h List.not_mem_nil)⟩)⟩
theorem kM_isDigit_17 : Bok "HerbWatersModel" prog_14_method_11_code (17, bM_isDigit_17, 18) := ⟨by decide +kernel, (List.forall_mem_cons.mpr ⟨sRI, (fun _ h => absurd h List.not_mem_nil)⟩)⟩
theorem kM_isDigit : ∀ q ∈ tM_isDigit, Bok "HerbWatersModel" prog_14_method_11_code q := (List.forall_mem_cons.mpr ⟨kM_isDigit_0, (List.forall_mem_cons.mpr ⟨kM_isDigit_6, (List.forall_mem_cons.mpr ⟨kM_isDigit_12, (List.forall_mem_cons.mpr ⟨kM_isDigit_16, (List.forall_mem_cons.mpr ⟨kM_isDigit_17, (fun _ h => absurd h List.not_mem_nil)⟩)⟩)⟩)⟩)⟩)
def mM_isSmall : Mt := (⟨"HerbWatersModel", "isSmall", "(I)Z"⟩, prog_14_method_12_code, 1, some .boolean)
theorem ok_M_isSmall : Mok mM_isSmall := ⟨gtb_mem 1945 (by decide +kernel) rfl, gtb_mem 107 (by decide +kernel) rfl, by decide +kernel, by decide⟩
def bM_isSmall_0 : List Ir := [iLI0, (iBP 97), (iIClt (13) 16)]
def bM_isSmall_6 : List Ir := [iLI0, (iBP 122), (iICgt (7) 16)]
def bM_isSmall_12 : List Ir := [iC1, (iGO (4) 17)]
def bM_isSmall_16 : List Ir := [iC0]
def bM_isSmall_17 : List Ir := [iRI]
def tM_isSmall : Tb := [(0, bM_isSmall_0, 6), (6, bM_isSmall_6, 12), (12, bM_isSmall_12, 16), (16, bM_isSmall_16, 17), (17, bM_isSmall_17, 18)]
theorem fM_isSmall_0 : tbf tM_isSmall 0 = some (bM_isSmall_0, 6) := rfl
theorem fM_isSmall_6 : tbf tM_isSmall 6 = some (bM_isSmall_6, 12) := rfl
theorem fM_isSmall_12 : tbf tM_isSmall 12 = some (bM_isSmall_12, 16) := rfl
theorem fM_isSmall_16 : tbf tM_isSmall 16 = some (bM_isSmall_16, 17) := rfl
theorem fM_isSmall_17 : tbf tM_isSmall 17 = some (bM_isSmall_17, 18) := rfl
theorem kM_isSmall_0 : Bok "HerbWatersModel" prog_14_method_12_code (0, bM_isSmall_0, 6) := ⟨by decide +kernel, (List.forall_mem_cons.mpr ⟨sLI0, (List.forall_mem_cons.mpr ⟨sBP, (List.forall_mem_cons.mpr ⟨sIClt, (fun _ h => absurd h List.not_mem_nil)⟩)⟩)⟩)⟩
theorem kM_isSmall_6 : Bok "HerbWatersModel" prog_14_method_12_code (6, bM_isSmall_6, 12) := ⟨by decide +kernel, (List.forall_mem_cons.mpr ⟨sLI0, (List.forall_mem_cons.mpr ⟨sBP, (List.forall_mem_cons.mpr ⟨sICgt, (fun _ h => absurd h List.not_mem_nil)⟩)⟩)⟩)⟩
theorem kM_isSmall_12 : Bok "HerbWatersModel" prog_14_method_12_code (12, bM_isSmall_12, 16) := ⟨by decide +kernel, (List.forall_mem_cons.mpr ⟨sC1, (List.forall_mem_cons.mpr ⟨sGO, (fun _ h => absurd h List.not_mem_nil)⟩)⟩)⟩
theorem kM_isSmall_16 : Bok "HerbWatersModel" prog_14_method_12_code (16, bM_isSmall_16, 17) := ⟨by decide +kernel, (List.forall_mem_cons.mpr ⟨sC0, (fun _ h => absurd h List.not_mem_nil)⟩)⟩
theorem kM_isSmall_17 : Bok "HerbWatersModel" prog_14_method_12_code (17, bM_isSmall_17, 18) := ⟨by decide +kernel, (List.forall_mem_cons.mpr ⟨sRI, (fun _ h => absurd h List.not_mem_nil)⟩)⟩
theorem kM_isSmall : ∀ q ∈ tM_isSmall, Bok "HerbWatersModel" prog_14_method_12_code q := (List.forall_mem_cons.mpr ⟨kM_isSmall_0, (List.forall_mem_cons.mpr ⟨kM_isSmall_6, (List.forall_mem_cons.mpr ⟨kM_isSmall_12, (List.forall_mem_cons.mpr ⟨kM_isSmall_16, (List.forall_mem_cons.mpr ⟨kM_isSmall_17, (fun _ h => absurd h List.not_mem_nil)⟩)⟩)⟩)⟩)⟩)
def mM_number : Mt := (⟨"HerbWatersModel", "number", "(II)I"⟩, prog_14_method_13_code, 5, some .int)
theorem ok_M_number : Mok mM_number := ⟨gtb_mem 1963 (by decide +kernel) rfl, gtb_mem 107 (by decide +kernel) rfl, by decide +kernel, by decide⟩
theorem lM_v145 : Snd "HerbWatersModel" (iCV0 145 11 mM_blanks) := sCV0 _ rfl rfl ok_M_blanks (gtb_mem 1921 (by decide +kernel) rfl) (gtb_mem 45 (by decide +kernel) rfl) (gtb_mem 1919 (by decide +kernel) rfl)
theorem lM_s148 : Snd "HerbWatersModel" (iCS1 148 mM_isDigit) := sCS1 ok_M_isDigit (gtb_mem 1965 (by decide +kernel) rfl) (gtb_mem 1964 (by decide +kernel) rfl)
theorem lM_v152 : Snd "HerbWatersModel" (iCV2 152 11 mM_wrong) := sCV2 _ rfl rfl ok_M_wrong (gtb_mem 1954 (by decide +kernel) rfl) (gtb_mem 51 (by decide +kernel) rfl) (gtb_mem 1952 (by decide +kernel) rfl)
theorem lM_k156 : Snd "HerbWatersModel" (iLDC 156 100000) := sLDC (gtb_mem 1967 (by decide +kernel) rfl)
theorem lM_s157 : Snd "HerbWatersModel" (iCS3 157 mM_in) := sCS3 ok_M_in (gtb_mem 1909 (by decide +kernel) rfl) (gtb_mem 1908 (by decide +kernel) rfl)
def bM_number_0 : List Ir := [iLA0, (iGI 139 11 5), (iIFeq (5) 9)]
def bM_number_7 : List Ir := [iC0, iRI]
def bM_number_9 : List Ir := [iLA0, (iCV0 145 11 mM_blanks), iLA0, (iGI 132 11 4), iSI3, iC0, iSI4, iLA0, iLA0, (iGI 132 11 4), (iCV1 135 11 mM_byteAt), (iCS1 148 mM_isDigit), (iIFne (12) 44)]
def bM_number_35 : List Ir := [iLA0, iC1, iLA0, (iGI 132 11 4), (iCV2 152 11 mM_wrong)]
def bM_number_44 : List Ir := [iLA0, iLA0, (iGI 132 11 4), (iCV1 135 11 mM_byteAt), (iCS1 148 mM_isDigit), (iIFeq (51) 106)]
def bM_number_58 : List Ir := [(iBP 10), iLI4, iMUL, iLA0, iLA0, (iGI 132 11 4), (iCV1 135 11 mM_byteAt), iADD, (iBP 48), iSUB, iSI4, iLI4, (iLDC 156 100000), (iICle (8) 89)]
def bM_number_84 : List Ir := [(iLDC 156 100000), (iGO (5) 91)]
def bM_number_89 : List Ir := [iLI4]
def bM_number_91 : List Ir := [iSI4, iLA0, iDUPr, (iGI 132 11 4), iC1, iADD, (iPI 132 11 4), (iGO (-59) 44)]
def bM_number_106 : List Ir := [iLI4, iLI1, iLI2, (iCS3 157 mM_in), (iIFne (9) 122)]
def bM_number_116 : List Ir := [iLA0, iC2, iLI3, (iCV2 152 11 mM_wrong)]
def bM_number_122 : List Ir := [iLA0, (iGI 139 11 5), (iIFne (8) 134)]
def bM_number_129 : List Ir := [iLI4, (iGO (4) 135)]
def bM_number_134 : List Ir := [iC0]
def bM_number_135 : List Ir := [iRI]
def tM_number : Tb := [(0, bM_number_0, 7), (7, bM_number_7, 9), (9, bM_number_9, 35), (35, bM_number_35, 44), (44, bM_number_44, 58), (58, bM_number_58, 84), (84, bM_number_84, 89), (89, bM_number_89, 91), (91, bM_number_91, 106), (106, bM_number_106, 116), (116, bM_number_116, 122), (122, bM_number_122, 129), (129, bM_number_129, 134), (134, bM_number_134, 135), (135, bM_number_135, 136)]
theorem fM_number_0 : tbf tM_number 0 = some (bM_number_0, 7) := rfl
theorem fM_number_7 : tbf tM_number 7 = some (bM_number_7, 9) := rfl
theorem fM_number_9 : tbf tM_number 9 = some (bM_number_9, 35) := rfl
theorem fM_number_35 : tbf tM_number 35 = some (bM_number_35, 44) := rfl
theorem fM_number_44 : tbf tM_number 44 = some (bM_number_44, 58) := rfl
theorem fM_number_58 : tbf tM_number 58 = some (bM_number_58, 84) := rfl
theorem fM_number_84 : tbf tM_number 84 = some (bM_number_84, 89) := rfl
theorem fM_number_89 : tbf tM_number 89 = some (bM_number_89, 91) := rfl
theorem fM_number_91 : tbf tM_number 91 = some (bM_number_91, 106) := rfl
theorem fM_number_106 : tbf tM_number 106 = some (bM_number_106, 116) := rfl
theorem fM_number_116 : tbf tM_number 116 = some (bM_number_116, 122) := rfl
theorem fM_number_122 : tbf tM_number 122 = some (bM_number_122, 129) := rfl
theorem fM_number_129 : tbf tM_number 129 = some (bM_number_129, 134) := rfl
theorem fM_number_134 : tbf tM_number 134 = some (bM_number_134, 135) := rfl
theorem fM_number_135 : tbf tM_number 135 = some (bM_number_135, 136) := rfl
theorem kM_number_0 : Bok "HerbWatersModel" prog_14_method_13_code (0, bM_number_0, 7) := ⟨by decide +kernel, (List.forall_mem_cons.mpr ⟨sLA0, (List.forall_mem_cons.mpr ⟨lM_g139, (List.forall_mem_cons.mpr ⟨sIFeq, (fun _ h => absurd h List.not_mem_nil)⟩)⟩)⟩)⟩
theorem kM_number_7 : Bok "HerbWatersModel" prog_14_method_13_code (7, bM_number_7, 9) := ⟨by decide +kernel, (List.forall_mem_cons.mpr ⟨sC0, (List.forall_mem_cons.mpr ⟨sRI, (fun _ h => absurd h List.not_mem_nil)⟩)⟩)⟩
theorem kM_number_9 : Bok "HerbWatersModel" prog_14_method_13_code (9, bM_number_9, 35) := ⟨by decide +kernel, (List.forall_mem_cons.mpr ⟨sLA0, (List.forall_mem_cons.mpr ⟨lM_v145, (List.forall_mem_cons.mpr ⟨sLA0, (List.forall_mem_cons.mpr ⟨lM_g132, (List.forall_mem_cons.mpr ⟨sSI3, (List.forall_mem_cons.mpr ⟨sC0, (List.forall_mem_cons.mpr ⟨sSI4, (List.forall_mem_cons.mpr ⟨sLA0, (List.forall_mem_cons.mpr ⟨sLA0, (List.forall_mem_cons.mpr ⟨lM_g132, (List.forall_mem_cons.mpr ⟨lM_v135, (List.forall_mem_cons.mpr ⟨lM_s148, (List.forall_mem_cons.mpr ⟨sIFne, (fun _ h => absurd h List.not_mem_nil)⟩)⟩)⟩)⟩)⟩)⟩)⟩)⟩)⟩)⟩)⟩)⟩)⟩)⟩
theorem kM_number_35 : Bok "HerbWatersModel" prog_14_method_13_code (35, bM_number_35, 44) := ⟨by decide +kernel, (List.forall_mem_cons.mpr ⟨sLA0, (List.forall_mem_cons.mpr ⟨sC1, (List.forall_mem_cons.mpr ⟨sLA0, (List.forall_mem_cons.mpr ⟨lM_g132, (List.forall_mem_cons.mpr ⟨lM_v152, (fun _ h => absurd h List.not_mem_nil)⟩)⟩)⟩)⟩)⟩)⟩
theorem kM_number_44 : Bok "HerbWatersModel" prog_14_method_13_code (44, bM_number_44, 58) := ⟨by decide +kernel, (List.forall_mem_cons.mpr ⟨sLA0, (List.forall_mem_cons.mpr ⟨sLA0, (List.forall_mem_cons.mpr ⟨lM_g132, (List.forall_mem_cons.mpr ⟨lM_v135, (List.forall_mem_cons.mpr ⟨lM_s148, (List.forall_mem_cons.mpr ⟨sIFeq, (fun _ h => absurd h List.not_mem_nil)⟩)⟩)⟩)⟩)⟩)⟩)⟩
theorem kM_number_58 : Bok "HerbWatersModel" prog_14_method_13_code (58, bM_number_58, 84) := ⟨by decide +kernel, (List.forall_mem_cons.mpr ⟨sBP, (List.forall_mem_cons.mpr ⟨sLI4, (List.forall_mem_cons.mpr ⟨sMUL, (List.forall_mem_cons.mpr ⟨sLA0, (List.forall_mem_cons.mpr ⟨sLA0, (List.forall_mem_cons.mpr ⟨lM_g132, (List.forall_mem_cons.mpr ⟨lM_v135, (List.forall_mem_cons.mpr ⟨sADD, (List.forall_mem_cons.mpr ⟨sBP, (List.forall_mem_cons.mpr ⟨sSUB, (List.forall_mem_cons.mpr ⟨sSI4, (List.forall_mem_cons.mpr ⟨sLI4, (List.forall_mem_cons.mpr ⟨lM_k156, (List.forall_mem_cons.mpr ⟨sICle, (fun _ h => absurd h List.not_mem_nil)⟩)⟩)⟩)⟩)⟩)⟩)⟩)⟩)⟩)⟩)⟩)⟩)⟩)⟩)⟩
theorem kM_number_84 : Bok "HerbWatersModel" prog_14_method_13_code (84, bM_number_84, 89) := ⟨by decide +kernel, (List.forall_mem_cons.mpr ⟨lM_k156, (List.forall_mem_cons.mpr ⟨sGO, (fun _ h => absurd h List.not_mem_nil)⟩)⟩)⟩
theorem kM_number_89 : Bok "HerbWatersModel" prog_14_method_13_code (89, bM_number_89, 91) := ⟨by decide +kernel, (List.forall_mem_cons.mpr ⟨sLI4, (fun _ h => absurd h List.not_mem_nil)⟩)⟩
theorem kM_number_91 : Bok "HerbWatersModel" prog_14_method_13_code (91, bM_number_91, 106) := ⟨by decide +kernel, (List.forall_mem_cons.mpr ⟨sSI4, (List.forall_mem_cons.mpr ⟨sLA0, (List.forall_mem_cons.mpr ⟨sDUPr, (List.forall_mem_cons.mpr ⟨lM_g132, (List.forall_mem_cons.mpr ⟨sC1, (List.forall_mem_cons.mpr ⟨sADD, (List.forall_mem_cons.mpr ⟨lM_p132, (List.forall_mem_cons.mpr ⟨sGO, (fun _ h => absurd h List.not_mem_nil)⟩)⟩)⟩)⟩)⟩)⟩)⟩)⟩)⟩
theorem kM_number_106 : Bok "HerbWatersModel" prog_14_method_13_code (106, bM_number_106, 116) := ⟨by decide +kernel, (List.forall_mem_cons.mpr ⟨sLI4, (List.forall_mem_cons.mpr ⟨sLI1, (List.forall_mem_cons.mpr ⟨sLI2, (List.forall_mem_cons.mpr ⟨lM_s157, (List.forall_mem_cons.mpr ⟨sIFne, (fun _ h => absurd h List.not_mem_nil)⟩)⟩)⟩)⟩)⟩)⟩
theorem kM_number_116 : Bok "HerbWatersModel" prog_14_method_13_code (116, bM_number_116, 122) := ⟨by decide +kernel, (List.forall_mem_cons.mpr ⟨sLA0, (List.forall_mem_cons.mpr ⟨sC2, (List.forall_mem_cons.mpr ⟨sLI3, (List.forall_mem_cons.mpr ⟨lM_v152, (fun _ h => absurd h List.not_mem_nil)⟩)⟩)⟩)⟩)⟩
theorem kM_number_122 : Bok "HerbWatersModel" prog_14_method_13_code (122, bM_number_122, 129) := ⟨by decide +kernel, (List.forall_mem_cons.mpr ⟨sLA0, (List.forall_mem_cons.mpr ⟨lM_g139, (List.forall_mem_cons.mpr ⟨sIFne, (fun _ h => absurd h List.not_mem_nil)⟩)⟩)⟩)⟩
theorem kM_number_129 : Bok "HerbWatersModel" prog_14_method_13_code (129, bM_number_129, 134) := ⟨by decide +kernel, (List.forall_mem_cons.mpr ⟨sLI4, (List.forall_mem_cons.mpr ⟨sGO, (fun _ h => absurd h List.not_mem_nil)⟩)⟩)⟩
theorem kM_number_134 : Bok "HerbWatersModel" prog_14_method_13_code (134, bM_number_134, 135) := ⟨by decide +kernel, (List.forall_mem_cons.mpr ⟨sC0, (fun _ h => absurd h List.not_mem_nil)⟩)⟩
theorem kM_number_135 : Bok "HerbWatersModel" prog_14_method_13_code (135, bM_number_135, 136) := ⟨by decide +kernel, (List.forall_mem_cons.mpr ⟨sRI, (fun _ h => absurd h List.not_mem_nil)⟩)⟩
theorem kM_number : ∀ q ∈ tM_number, Bok "HerbWatersModel" prog_14_method_13_code q := (List.forall_mem_cons.mpr ⟨kM_number_0, (List.forall_mem_cons.mpr ⟨kM_number_7, (List.forall_mem_cons.mpr ⟨kM_number_9, (List.forall_mem_cons.mpr ⟨kM_number_35, (List.forall_mem_cons.mpr ⟨kM_number_44, (List.forall_mem_cons.mpr ⟨kM_number_58, (List.forall_mem_cons.mpr ⟨kM_number_84, (List.forall_mem_cons.mpr ⟨kM_number_89, (List.forall_mem_cons.mpr ⟨kM_number_91, (List.forall_mem_cons.mpr ⟨kM_number_106, (List.forall_mem_cons.mpr ⟨kM_number_116, (List.forall_mem_cons.mpr ⟨kM_number_122, (List.forall_mem_cons.mpr ⟨kM_number_129, (List.forall_mem_cons.mpr ⟨kM_number_134, (List.forall_mem_cons.mpr ⟨kM_number_135, (fun _ h => absurd h List.not_mem_nil)⟩)⟩)⟩)⟩)⟩)⟩)⟩)⟩)⟩)⟩)⟩)⟩)⟩)⟩)⟩)
def mM_wordHere : Mt := (⟨"HerbWatersModel", "wordHere", "()J"⟩, prog_14_method_14_code, 4, some .long)
theorem ok_M_wordHere : Mok mM_wordHere := ⟨gtb_mem 1942 (by decide +kernel) rfl, gtb_mem 107 (by decide +kernel) rfl, by decide +kernel, by decide⟩
theorem lM_s161 : Snd "HerbWatersModel" (iCS1 161 mM_isSmall) := sCS1 ok_M_isSmall (gtb_mem 1944 (by decide +kernel) rfl) (gtb_mem 1943 (by decide +kernel) rfl)
theorem lM_q164 : Snd "HerbWatersModel" (iLDC2 164 (27)) := sLDC2 (gtb_mem 1946 (by decide +kernel) rfl)
theorem lM_q166 : Snd "HerbWatersModel" (iLDC2 166 (97)) := sLDC2 (gtb_mem 1947 (by decide +kernel) rfl)
theorem lM_q168 : Snd "HerbWatersModel" (iLDC2 168 (-1)) := sLDC2 (gtb_mem 1948 (by decide +kernel) rfl)
def bM_wordHere_0 : List Ir := [iLA0, (iCV0 145 11 mM_blanks), (iLC 0), iSL1, iC0, iSI3]
def bM_wordHere_8 : List Ir := [iLA0, iLA0, (iGI 132 11 4), iLI3, iADD, (iCV1 135 11 mM_byteAt), (iCS1 161 mM_isSmall), (iIFeq (43) 64)]
def bM_wordHere_24 : List Ir := [iLI3, (iBP 8), (iICge (29) 56)]
def bM_wordHere_30 : List Ir := [(iLDC2 164 (27)), iLL1, iLMUL, iLA0, iLA0, (iGI 132 11 4), iLI3, iADD, (iCV1 135 11 mM_byteAt), iI2L, iLADD, (iLDC2 166 (97)), iLSUB, (iLC 1), iLADD, (iGO (4) 57)]
def bM_wordHere_56 : List Ir := [iLL1]
def bM_wordHere_57 : List Ir := [iSL1, (iINC3 1), (iGO (-53) 8)]
def bM_wordHere_64 : List Ir := [iLI3, (iBP 7), (iICle (9) 76)]
def bM_wordHere_70 : List Ir := [(iLDC2 168 (-1)), (iGO (4) 77)]
def bM_wordHere_76 : List Ir := [iLL1]
def bM_wordHere_77 : List Ir := [iRL]
def tM_wordHere : Tb := [(0, bM_wordHere_0, 8), (8, bM_wordHere_8, 24), (24, bM_wordHere_24, 30), (30, bM_wordHere_30, 56), (56, bM_wordHere_56, 57), (57, bM_wordHere_57, 64), (64, bM_wordHere_64, 70), (70, bM_wordHere_70, 76), (76, bM_wordHere_76, 77), (77, bM_wordHere_77, 78)]
theorem fM_wordHere_0 : tbf tM_wordHere 0 = some (bM_wordHere_0, 8) := rfl
theorem fM_wordHere_8 : tbf tM_wordHere 8 = some (bM_wordHere_8, 24) := rfl
theorem fM_wordHere_24 : tbf tM_wordHere 24 = some (bM_wordHere_24, 30) := rfl
theorem fM_wordHere_30 : tbf tM_wordHere 30 = some (bM_wordHere_30, 56) := rfl
theorem fM_wordHere_56 : tbf tM_wordHere 56 = some (bM_wordHere_56, 57) := rfl
theorem fM_wordHere_57 : tbf tM_wordHere 57 = some (bM_wordHere_57, 64) := rfl
theorem fM_wordHere_64 : tbf tM_wordHere 64 = some (bM_wordHere_64, 70) := rfl
theorem fM_wordHere_70 : tbf tM_wordHere 70 = some (bM_wordHere_70, 76) := rfl
theorem fM_wordHere_76 : tbf tM_wordHere 76 = some (bM_wordHere_76, 77) := rfl
theorem fM_wordHere_77 : tbf tM_wordHere 77 = some (bM_wordHere_77, 78) := rfl
theorem kM_wordHere_0 : Bok "HerbWatersModel" prog_14_method_14_code (0, bM_wordHere_0, 8) := ⟨by decide +kernel, (List.forall_mem_cons.mpr ⟨sLA0, (List.forall_mem_cons.mpr ⟨lM_v145, (List.forall_mem_cons.mpr ⟨sLC, (List.forall_mem_cons.mpr ⟨sSL1, (List.forall_mem_cons.mpr ⟨sC0, (List.forall_mem_cons.mpr ⟨sSI3, (fun _ h => absurd h List.not_mem_nil)⟩)⟩)⟩)⟩)⟩)⟩)⟩
theorem kM_wordHere_8 : Bok "HerbWatersModel" prog_14_method_14_code (8, bM_wordHere_8, 24) := ⟨by decide +kernel, (List.forall_mem_cons.mpr ⟨sLA0, (List.forall_mem_cons.mpr ⟨sLA0, (List.forall_mem_cons.mpr ⟨lM_g132, (List.forall_mem_cons.mpr ⟨sLI3, (List.forall_mem_cons.mpr ⟨sADD, (List.forall_mem_cons.mpr ⟨lM_v135, (List.forall_mem_cons.mpr ⟨lM_s161, (List.forall_mem_cons.mpr ⟨sIFeq, (fun _ h => absurd h List.not_mem_nil)⟩)⟩)⟩)⟩)⟩)⟩)⟩)⟩)⟩
theorem kM_wordHere_24 : Bok "HerbWatersModel" prog_14_method_14_code (24, bM_wordHere_24, 30) := ⟨by decide +kernel, (List.forall_mem_cons.mpr ⟨sLI3, (List.forall_mem_cons.mpr ⟨sBP, (List.forall_mem_cons.mpr ⟨sICge, (fun _ h => absurd h List.not_mem_nil)⟩)⟩)⟩)⟩
theorem kM_wordHere_30 : Bok "HerbWatersModel" prog_14_method_14_code (30, bM_wordHere_30, 56) := ⟨by decide +kernel, (List.forall_mem_cons.mpr ⟨lM_q164, (List.forall_mem_cons.mpr ⟨sLL1, (List.forall_mem_cons.mpr ⟨sLMUL, (List.forall_mem_cons.mpr ⟨sLA0, (List.forall_mem_cons.mpr ⟨sLA0, (List.forall_mem_cons.mpr ⟨lM_g132, (List.forall_mem_cons.mpr ⟨sLI3, (List.forall_mem_cons.mpr ⟨sADD, (List.forall_mem_cons.mpr ⟨lM_v135, (List.forall_mem_cons.mpr ⟨sI2L, (List.forall_mem_cons.mpr ⟨sLADD, (List.forall_mem_cons.mpr ⟨lM_q166, (List.forall_mem_cons.mpr ⟨sLSUB, (List.forall_mem_cons.mpr ⟨sLC, (List.forall_mem_cons.mpr ⟨sLADD, (List.forall_mem_cons.mpr ⟨sGO, (fun _ h => absurd h List.not_mem_nil)⟩)⟩)⟩)⟩)⟩)⟩)⟩)⟩)⟩)⟩)⟩)⟩)⟩)⟩)⟩)⟩)⟩
theorem kM_wordHere_56 : Bok "HerbWatersModel" prog_14_method_14_code (56, bM_wordHere_56, 57) := ⟨by decide +kernel, (List.forall_mem_cons.mpr ⟨sLL1, (fun _ h => absurd h List.not_mem_nil)⟩)⟩
theorem kM_wordHere_57 : Bok "HerbWatersModel" prog_14_method_14_code (57, bM_wordHere_57, 64) := ⟨by decide +kernel, (List.forall_mem_cons.mpr ⟨sSL1, (List.forall_mem_cons.mpr ⟨sINC3, (List.forall_mem_cons.mpr ⟨sGO, (fun _ h => absurd h List.not_mem_nil)⟩)⟩)⟩)⟩
theorem kM_wordHere_64 : Bok "HerbWatersModel" prog_14_method_14_code (64, bM_wordHere_64, 70) := ⟨by decide +kernel, (List.forall_mem_cons.mpr ⟨sLI3, (List.forall_mem_cons.mpr ⟨sBP, (List.forall_mem_cons.mpr ⟨sICle, (fun _ h => absurd h List.not_mem_nil)⟩)⟩)⟩)⟩
theorem kM_wordHere_70 : Bok "HerbWatersModel" prog_14_method_14_code (70, bM_wordHere_70, 76) := ⟨by decide +kernel, (List.forall_mem_cons.mpr ⟨lM_q168, (List.forall_mem_cons.mpr ⟨sGO, (fun _ h => absurd h List.not_mem_nil)⟩)⟩)⟩
theorem kM_wordHere_76 : Bok "HerbWatersModel" prog_14_method_14_code (76, bM_wordHere_76, 77) := ⟨by decide +kernel, (List.forall_mem_cons.mpr ⟨sLL1, (fun _ h => absurd h List.not_mem_nil)⟩)⟩
theorem kM_wordHere_77 : Bok "HerbWatersModel" prog_14_method_14_code (77, bM_wordHere_77, 78) := ⟨by decide +kernel, (List.forall_mem_cons.mpr ⟨sRL, (fun _ h => absurd h List.not_mem_nil)⟩)⟩
theorem kM_wordHere : ∀ q ∈ tM_wordHere, Bok "HerbWatersModel" prog_14_method_14_code q := (List.forall_mem_cons.mpr ⟨kM_wordHere_0, (List.forall_mem_cons.mpr ⟨kM_wordHere_8, (List.forall_mem_cons.mpr ⟨kM_wordHere_24, (List.forall_mem_cons.mpr ⟨kM_wordHere_30, (List.forall_mem_cons.mpr ⟨kM_wordHere_56, (List.forall_mem_cons.mpr ⟨kM_wordHere_57, (List.forall_mem_cons.mpr ⟨kM_wordHere_64, (List.forall_mem_cons.mpr ⟨kM_wordHere_70, (List.forall_mem_cons.mpr ⟨kM_wordHere_76, (List.forall_mem_cons.mpr ⟨kM_wordHere_77, (fun _ h => absurd h List.not_mem_nil)⟩)⟩)⟩)⟩)⟩)⟩)⟩)⟩)⟩)⟩)
def mM_seven : Mt := (⟨"HerbWatersModel", "seven", "(IIIIIII)J"⟩, prog_14_method_15_code, 9, some .long)
theorem ok_M_seven : Mok mM_seven := ⟨gtb_mem 1951 (by decide +kernel) rfl, gtb_mem 107 (by decide +kernel) rfl, by decide +kernel, by decide⟩
def bM_seven_0 : List Ir := [(iLDC2 164 (27)), iLI0, iI2L, iLMUL, iLI1, iI2L, iLADD, iSL7, iLI2, (iIFne (8) 20)]
def bM_seven_15 : List Ir := [iLL7, (iGO (12) 29)]
def bM_seven_20 : List Ir := [(iLDC2 164 (27)), iLL7, iLMUL, iLI2, iI2L, iLADD]
def bM_seven_29 : List Ir := [iSL7, iLI3, (iIFne (8) 40)]
def bM_seven_35 : List Ir := [iLL7, (iGO (12) 49)]
def bM_seven_40 : List Ir := [(iLDC2 164 (27)), iLL7, iLMUL, iLI3, iI2L, iLADD]
def bM_seven_49 : List Ir := [iSL7, iLI4, (iIFne (8) 61)]
def bM_seven_56 : List Ir := [iLL7, (iGO (13) 71)]
def bM_seven_61 : List Ir := [(iLDC2 164 (27)), iLL7, iLMUL, iLI4, iI2L, iLADD]
def bM_seven_71 : List Ir := [iSL7, iLI5, (iIFne (8) 83)]
def bM_seven_78 : List Ir := [iLL7, (iGO (13) 93)]
def bM_seven_83 : List Ir := [(iLDC2 164 (27)), iLL7, iLMUL, iLI5, iI2L, iLADD]
def bM_seven_93 : List Ir := [iSL7, iLI6, (iIFne (8) 105)]
def bM_seven_100 : List Ir := [iLL7, (iGO (13) 115)]
def bM_seven_105 : List Ir := [(iLDC2 164 (27)), iLL7, iLMUL, iLI6, iI2L, iLADD]
def bM_seven_115 : List Ir := [iRL]
def tM_seven : Tb := [(0, bM_seven_0, 15), (15, bM_seven_15, 20), (20, bM_seven_20, 29), (29, bM_seven_29, 35), (35, bM_seven_35, 40), (40, bM_seven_40, 49), (49, bM_seven_49, 56), (56, bM_seven_56, 61), (61, bM_seven_61, 71), (71, bM_seven_71, 78), (78, bM_seven_78, 83), (83, bM_seven_83, 93), (93, bM_seven_93, 100), (100, bM_seven_100, 105), (105, bM_seven_105, 115), (115, bM_seven_115, 116)]
theorem fM_seven_0 : tbf tM_seven 0 = some (bM_seven_0, 15) := rfl
theorem fM_seven_15 : tbf tM_seven 15 = some (bM_seven_15, 20) := rfl
theorem fM_seven_20 : tbf tM_seven 20 = some (bM_seven_20, 29) := rfl
theorem fM_seven_29 : tbf tM_seven 29 = some (bM_seven_29, 35) := rfl
theorem fM_seven_35 : tbf tM_seven 35 = some (bM_seven_35, 40) := rfl
theorem fM_seven_40 : tbf tM_seven 40 = some (bM_seven_40, 49) := rfl
theorem fM_seven_49 : tbf tM_seven 49 = some (bM_seven_49, 56) := rfl
theorem fM_seven_56 : tbf tM_seven 56 = some (bM_seven_56, 61) := rfl
theorem fM_seven_61 : tbf tM_seven 61 = some (bM_seven_61, 71) := rfl
theorem fM_seven_71 : tbf tM_seven 71 = some (bM_seven_71, 78) := rfl
theorem fM_seven_78 : tbf tM_seven 78 = some (bM_seven_78, 83) := rfl
theorem fM_seven_83 : tbf tM_seven 83 = some (bM_seven_83, 93) := rfl
theorem fM_seven_93 : tbf tM_seven 93 = some (bM_seven_93, 100) := rfl
theorem fM_seven_100 : tbf tM_seven 100 = some (bM_seven_100, 105) := rfl
theorem fM_seven_105 : tbf tM_seven 105 = some (bM_seven_105, 115) := rfl
theorem fM_seven_115 : tbf tM_seven 115 = some (bM_seven_115, 116) := rfl
theorem kM_seven_0 : Bok "HerbWatersModel" prog_14_method_15_code (0, bM_seven_0, 15) := ⟨by decide +kernel, (List.forall_mem_cons.mpr ⟨lM_q164, (List.forall_mem_cons.mpr ⟨sLI0, (List.forall_mem_cons.mpr ⟨sI2L, (List.forall_mem_cons.mpr ⟨sLMUL, (List.forall_mem_cons.mpr ⟨sLI1, (List.forall_mem_cons.mpr ⟨sI2L, (List.forall_mem_cons.mpr ⟨sLADD, (List.forall_mem_cons.mpr ⟨sSL7, (List.forall_mem_cons.mpr ⟨sLI2, (List.forall_mem_cons.mpr ⟨sIFne, (fun _ h => absurd h List.not_mem_nil)⟩)⟩)⟩)⟩)⟩)⟩)⟩)⟩)⟩)⟩)⟩
theorem kM_seven_15 : Bok "HerbWatersModel" prog_14_method_15_code (15, bM_seven_15, 20) := ⟨by decide +kernel, (List.forall_mem_cons.mpr ⟨sLL7, (List.forall_mem_cons.mpr ⟨sGO, (fun _ h => absurd h List.not_mem_nil)⟩)⟩)⟩
theorem kM_seven_20 : Bok "HerbWatersModel" prog_14_method_15_code (20, bM_seven_20, 29) := ⟨by decide +kernel, (List.forall_mem_cons.mpr ⟨lM_q164, (List.forall_mem_cons.mpr ⟨sLL7, (List.forall_mem_cons.mpr ⟨sLMUL, (List.forall_mem_cons.mpr ⟨sLI2, (List.forall_mem_cons.mpr ⟨sI2L, (List.forall_mem_cons.mpr ⟨sLADD, (fun _ h => absurd h List.not_mem_nil)⟩)⟩)⟩)⟩)⟩)⟩)⟩
theorem kM_seven_29 : Bok "HerbWatersModel" prog_14_method_15_code (29, bM_seven_29, 35) := ⟨by decide +kernel, (List.forall_mem_cons.mpr ⟨sSL7, (List.forall_mem_cons.mpr ⟨sLI3, (List.forall_mem_cons.mpr ⟨sIFne, (fun _ h => absurd h List.not_mem_nil)⟩)⟩)⟩)⟩
theorem kM_seven_35 : Bok "HerbWatersModel" prog_14_method_15_code (35, bM_seven_35, 40) := ⟨by decide +kernel, (List.forall_mem_cons.mpr ⟨sLL7, (List.forall_mem_cons.mpr ⟨sGO, (fun _ h => absurd h List.not_mem_nil)⟩)⟩)⟩
theorem kM_seven_40 : Bok "HerbWatersModel" prog_14_method_15_code (40, bM_seven_40, 49) := ⟨by decide +kernel, (List.forall_mem_cons.mpr ⟨lM_q164, (List.forall_mem_cons.mpr ⟨sLL7, (List.forall_mem_cons.mpr ⟨sLMUL, (List.forall_mem_cons.mpr ⟨sLI3, (List.forall_mem_cons.mpr ⟨sI2L, (List.forall_mem_cons.mpr ⟨sLADD, (fun _ h => absurd h List.not_mem_nil)⟩)⟩)⟩)⟩)⟩)⟩)⟩
theorem kM_seven_49 : Bok "HerbWatersModel" prog_14_method_15_code (49, bM_seven_49, 56) := ⟨by decide +kernel, (List.forall_mem_cons.mpr ⟨sSL7, (List.forall_mem_cons.mpr ⟨sLI4, (List.forall_mem_cons.mpr ⟨sIFne, (fun _ h => absurd h List.not_mem_nil)⟩)⟩)⟩)⟩
theorem kM_seven_56 : Bok "HerbWatersModel" prog_14_method_15_code (56, bM_seven_56, 61) := ⟨by decide +kernel, (List.forall_mem_cons.mpr ⟨sLL7, (List.forall_mem_cons.mpr ⟨sGO, (fun _ h => absurd h List.not_mem_nil)⟩)⟩)⟩
theorem kM_seven_61 : Bok "HerbWatersModel" prog_14_method_15_code (61, bM_seven_61, 71) := ⟨by decide +kernel, (List.forall_mem_cons.mpr ⟨lM_q164, (List.forall_mem_cons.mpr ⟨sLL7, (List.forall_mem_cons.mpr ⟨sLMUL, (List.forall_mem_cons.mpr ⟨sLI4, (List.forall_mem_cons.mpr ⟨sI2L, (List.forall_mem_cons.mpr ⟨sLADD, (fun _ h => absurd h List.not_mem_nil)⟩)⟩)⟩)⟩)⟩)⟩)⟩
theorem kM_seven_71 : Bok "HerbWatersModel" prog_14_method_15_code (71, bM_seven_71, 78) := ⟨by decide +kernel, (List.forall_mem_cons.mpr ⟨sSL7, (List.forall_mem_cons.mpr ⟨sLI5, (List.forall_mem_cons.mpr ⟨sIFne, (fun _ h => absurd h List.not_mem_nil)⟩)⟩)⟩)⟩
theorem kM_seven_78 : Bok "HerbWatersModel" prog_14_method_15_code (78, bM_seven_78, 83) := ⟨by decide +kernel, (List.forall_mem_cons.mpr ⟨sLL7, (List.forall_mem_cons.mpr ⟨sGO, (fun _ h => absurd h List.not_mem_nil)⟩)⟩)⟩
theorem kM_seven_83 : Bok "HerbWatersModel" prog_14_method_15_code (83, bM_seven_83, 93) := ⟨by decide +kernel, (List.forall_mem_cons.mpr ⟨lM_q164, (List.forall_mem_cons.mpr ⟨sLL7, (List.forall_mem_cons.mpr ⟨sLMUL, (List.forall_mem_cons.mpr ⟨sLI5, (List.forall_mem_cons.mpr ⟨sI2L, (List.forall_mem_cons.mpr ⟨sLADD, (fun _ h => absurd h List.not_mem_nil)⟩)⟩)⟩)⟩)⟩)⟩)⟩
theorem kM_seven_93 : Bok "HerbWatersModel" prog_14_method_15_code (93, bM_seven_93, 100) := ⟨by decide +kernel, (List.forall_mem_cons.mpr ⟨sSL7, (List.forall_mem_cons.mpr ⟨sLI6, (List.forall_mem_cons.mpr ⟨sIFne, (fun _ h => absurd h List.not_mem_nil)⟩)⟩)⟩)⟩
theorem kM_seven_100 : Bok "HerbWatersModel" prog_14_method_15_code (100, bM_seven_100, 105) := ⟨by decide +kernel, (List.forall_mem_cons.mpr ⟨sLL7, (List.forall_mem_cons.mpr ⟨sGO, (fun _ h => absurd h List.not_mem_nil)⟩)⟩)⟩
theorem kM_seven_105 : Bok "HerbWatersModel" prog_14_method_15_code (105, bM_seven_105, 115) := ⟨by decide +kernel, (List.forall_mem_cons.mpr ⟨lM_q164, (List.forall_mem_cons.mpr ⟨sLL7, (List.forall_mem_cons.mpr ⟨sLMUL, (List.forall_mem_cons.mpr ⟨sLI6, (List.forall_mem_cons.mpr ⟨sI2L, (List.forall_mem_cons.mpr ⟨sLADD, (fun _ h => absurd h List.not_mem_nil)⟩)⟩)⟩)⟩)⟩)⟩)⟩
theorem kM_seven_115 : Bok "HerbWatersModel" prog_14_method_15_code (115, bM_seven_115, 116) := ⟨by decide +kernel, (List.forall_mem_cons.mpr ⟨sRL, (fun _ h => absurd h List.not_mem_nil)⟩)⟩
theorem kM_seven : ∀ q ∈ tM_seven, Bok "HerbWatersModel" prog_14_method_15_code q := (List.forall_mem_cons.mpr ⟨kM_seven_0, (List.forall_mem_cons.mpr ⟨kM_seven_15, (List.forall_mem_cons.mpr ⟨kM_seven_20, (List.forall_mem_cons.mpr ⟨kM_seven_29, (List.forall_mem_cons.mpr ⟨kM_seven_35, (List.forall_mem_cons.mpr ⟨kM_seven_40, (List.forall_mem_cons.mpr ⟨kM_seven_49, (List.forall_mem_cons.mpr ⟨kM_seven_56, (List.forall_mem_cons.mpr ⟨kM_seven_61, (List.forall_mem_cons.mpr ⟨kM_seven_71, (List.forall_mem_cons.mpr ⟨kM_seven_78, (List.forall_mem_cons.mpr ⟨kM_seven_83, (List.forall_mem_cons.mpr ⟨kM_seven_93, (List.forall_mem_cons.mpr ⟨kM_seven_100, (List.forall_mem_cons.mpr ⟨kM_seven_105, (List.forall_mem_cons.mpr ⟨kM_seven_115, (fun _ h => absurd h List.not_mem_nil)⟩)⟩)⟩)⟩)⟩)⟩)⟩)⟩)⟩)⟩)⟩)⟩)⟩)⟩)⟩)⟩)
def mM_isWord : Mt := (⟨"HerbWatersModel", "isWord", "(IIIIIII)Z"⟩, prog_14_method_16_code, 8, some .boolean)
theorem ok_M_isWord : Mok mM_isWord := ⟨gtb_mem 1938 (by decide +kernel) rfl, gtb_mem 107 (by decide +kernel) rfl, by decide +kernel, by decide⟩
theorem lM_v170 : Snd "HerbWatersModel" (iCV0 170 11 mM_wordHere) := sCV0 _ rfl rfl ok_M_wordHere (gtb_mem 1941 (by decide +kernel) rfl) (gtb_mem 50 (by decide +kernel) rfl) (gtb_mem 1939 (by decide +kernel) rfl)
theorem lM_s174 : Snd "HerbWatersModel" (iCS7 174 mM_seven) := sCS7 ok_M_seven (gtb_mem 1950 (by decide +kernel) rfl) (gtb_mem 1949 (by decide +kernel) rfl)
def bM_isWord_0 : List Ir := [iLA0, (iGI 139 11 5), (iIFne (29) 33)]
def bM_isWord_7 : List Ir := [iLA0, (iCV0 170 11 mM_wordHere), iLI1, iLI2, iLI3, iLI4, iLI5, iLI6, iLI7, (iCS7 174 mM_seven), iLCMP, (iIFne (7) 33)]
def bM_isWord_29 : List Ir := [iC1, (iGO (4) 34)]
def bM_isWord_33 : List Ir := [iC0]
def bM_isWord_34 : List Ir := [iRI]
def tM_isWord : Tb := [(0, bM_isWord_0, 7), (7, bM_isWord_7, 29), (29, bM_isWord_29, 33), (33, bM_isWord_33, 34), (34, bM_isWord_34, 35)]
theorem fM_isWord_0 : tbf tM_isWord 0 = some (bM_isWord_0, 7) := rfl
theorem fM_isWord_7 : tbf tM_isWord 7 = some (bM_isWord_7, 29) := rfl
theorem fM_isWord_29 : tbf tM_isWord 29 = some (bM_isWord_29, 33) := rfl
theorem fM_isWord_33 : tbf tM_isWord 33 = some (bM_isWord_33, 34) := rfl
theorem fM_isWord_34 : tbf tM_isWord 34 = some (bM_isWord_34, 35) := rfl
theorem kM_isWord_0 : Bok "HerbWatersModel" prog_14_method_16_code (0, bM_isWord_0, 7) := ⟨by decide +kernel, (List.forall_mem_cons.mpr ⟨sLA0, (List.forall_mem_cons.mpr ⟨lM_g139, (List.forall_mem_cons.mpr ⟨sIFne, (fun _ h => absurd h List.not_mem_nil)⟩)⟩)⟩)⟩
theorem kM_isWord_7 : Bok "HerbWatersModel" prog_14_method_16_code (7, bM_isWord_7, 29) := ⟨by decide +kernel, (List.forall_mem_cons.mpr ⟨sLA0, (List.forall_mem_cons.mpr ⟨lM_v170, (List.forall_mem_cons.mpr ⟨sLI1, (List.forall_mem_cons.mpr ⟨sLI2, (List.forall_mem_cons.mpr ⟨sLI3, (List.forall_mem_cons.mpr ⟨sLI4, (List.forall_mem_cons.mpr ⟨sLI5, (List.forall_mem_cons.mpr ⟨sLI6, (List.forall_mem_cons.mpr ⟨sLI7, (List.forall_mem_cons.mpr ⟨lM_s174, (List.forall_mem_cons.mpr ⟨sLCMP, (List.forall_mem_cons.mpr ⟨sIFne, (fun _ h => absurd h List.not_mem_nil)⟩)⟩)⟩)⟩)⟩)⟩)⟩)⟩)⟩)⟩)⟩)⟩)⟩
theorem kM_isWord_29 : Bok "HerbWatersModel" prog_14_method_16_code (29, bM_isWord_29, 33) := ⟨by decide +kernel, (List.forall_mem_cons.mpr ⟨sC1, (List.forall_mem_cons.mpr ⟨sGO, (fun _ h => absurd h List.not_mem_nil)⟩)⟩)⟩
theorem kM_isWord_33 : Bok "HerbWatersModel" prog_14_method_16_code (33, bM_isWord_33, 34) := ⟨by decide +kernel, (List.forall_mem_cons.mpr ⟨sC0, (fun _ h => absurd h List.not_mem_nil)⟩)⟩
theorem kM_isWord_34 : Bok "HerbWatersModel" prog_14_method_16_code (34, bM_isWord_34, 35) := ⟨by decide +kernel, (List.forall_mem_cons.mpr ⟨sRI, (fun _ h => absurd h List.not_mem_nil)⟩)⟩
theorem kM_isWord : ∀ q ∈ tM_isWord, Bok "HerbWatersModel" prog_14_method_16_code q := (List.forall_mem_cons.mpr ⟨kM_isWord_0, (List.forall_mem_cons.mpr ⟨kM_isWord_7, (List.forall_mem_cons.mpr ⟨kM_isWord_29, (List.forall_mem_cons.mpr ⟨kM_isWord_33, (List.forall_mem_cons.mpr ⟨kM_isWord_34, (fun _ h => absurd h List.not_mem_nil)⟩)⟩)⟩)⟩)⟩)
def mM_skipWord : Mt := (⟨"HerbWatersModel", "skipWord", "()V"⟩, prog_14_method_17_code, 1, none)
theorem ok_M_skipWord : Mok mM_skipWord := ⟨gtb_mem 1959 (by decide +kernel) rfl, gtb_mem 107 (by decide +kernel) rfl, by decide +kernel, by decide⟩
def bM_skipWord_0 : List Ir := [iLA0, iLA0, (iGI 132 11 4), (iCV1 135 11 mM_byteAt), (iCS1 161 mM_isSmall), (iIFeq (16) 27)]
def bM_skipWord_14 : List Ir := [iLA0, iDUPr, (iGI 132 11 4), iC1, iADD, (iPI 132 11 4), (iGO (-24) 0)]
def bM_skipWord_27 : List Ir := [iRV]
def tM_skipWord : Tb := [(0, bM_skipWord_0, 14), (14, bM_skipWord_14, 27), (27, bM_skipWord_27, 28)]
theorem fM_skipWord_0 : tbf tM_skipWord 0 = some (bM_skipWord_0, 14) := rfl
theorem fM_skipWord_14 : tbf tM_skipWord 14 = some (bM_skipWord_14, 27) := rfl
theorem fM_skipWord_27 : tbf tM_skipWord 27 = some (bM_skipWord_27, 28) := rfl
theorem kM_skipWord_0 : Bok "HerbWatersModel" prog_14_method_17_code (0, bM_skipWord_0, 14) := ⟨by decide +kernel, (List.forall_mem_cons.mpr ⟨sLA0, (List.forall_mem_cons.mpr ⟨sLA0, (List.forall_mem_cons.mpr ⟨lM_g132, (List.forall_mem_cons.mpr ⟨lM_v135, (List.forall_mem_cons.mpr ⟨lM_s161, (List.forall_mem_cons.mpr ⟨sIFeq, (fun _ h => absurd h List.not_mem_nil)⟩)⟩)⟩)⟩)⟩)⟩)⟩
theorem kM_skipWord_14 : Bok "HerbWatersModel" prog_14_method_17_code (14, bM_skipWord_14, 27) := ⟨by decide +kernel, (List.forall_mem_cons.mpr ⟨sLA0, (List.forall_mem_cons.mpr ⟨sDUPr, (List.forall_mem_cons.mpr ⟨lM_g132, (List.forall_mem_cons.mpr ⟨sC1, (List.forall_mem_cons.mpr ⟨sADD, (List.forall_mem_cons.mpr ⟨lM_p132, (List.forall_mem_cons.mpr ⟨sGO, (fun _ h => absurd h List.not_mem_nil)⟩)⟩)⟩)⟩)⟩)⟩)⟩)⟩
theorem kM_skipWord_27 : Bok "HerbWatersModel" prog_14_method_17_code (27, bM_skipWord_27, 28) := ⟨by decide +kernel, (List.forall_mem_cons.mpr ⟨sRV, (fun _ h => absurd h List.not_mem_nil)⟩)⟩
theorem kM_skipWord : ∀ q ∈ tM_skipWord, Bok "HerbWatersModel" prog_14_method_17_code q := (List.forall_mem_cons.mpr ⟨kM_skipWord_0, (List.forall_mem_cons.mpr ⟨kM_skipWord_14, (List.forall_mem_cons.mpr ⟨kM_skipWord_27, (fun _ h => absurd h List.not_mem_nil)⟩)⟩)⟩)
def mM_takes : Mt := (⟨"HerbWatersModel", "takes", "(IIIIIII)Z"⟩, prog_14_method_18_code, 9, some .boolean)
theorem ok_M_takes : Mok mM_takes := ⟨gtb_mem 1991 (by decide +kernel) rfl, gtb_mem 107 (by decide +kernel) rfl, by decide +kernel, by decide⟩
theorem lM_v178 : Snd "HerbWatersModel" (iCV7 178 11 mM_isWord) := sCV7 _ rfl rfl ok_M_isWord (gtb_mem 1937 (by decide +kernel) rfl) (gtb_mem 49 (by decide +kernel) rfl) (gtb_mem 1935 (by decide +kernel) rfl)
theorem lM_v182 : Snd "HerbWatersModel" (iCV0 182 11 mM_skipWord) := sCV0 _ rfl rfl ok_M_skipWord (gtb_mem 1958 (by decide +kernel) rfl) (gtb_mem 52 (by decide +kernel) rfl) (gtb_mem 1956 (by decide +kernel) rfl)
def bM_takes_0 : List Ir := [iLA0, iLI1, iLI2, iLI3, iLI4, iLI5, iLI6, iLI7, (iCV7 178 11 mM_isWord), iSI8, iLI8, (iIFeq (7) 26)]
def bM_takes_22 : List Ir := [iLA0, (iCV0 182 11 mM_skipWord)]
def bM_takes_26 : List Ir := [iLI8, iRI]
def tM_takes : Tb := [(0, bM_takes_0, 22), (22, bM_takes_22, 26), (26, bM_takes_26, 29)]
theorem fM_takes_0 : tbf tM_takes 0 = some (bM_takes_0, 22) := rfl
theorem fM_takes_22 : tbf tM_takes 22 = some (bM_takes_22, 26) := rfl
theorem fM_takes_26 : tbf tM_takes 26 = some (bM_takes_26, 29) := rfl
theorem kM_takes_0 : Bok "HerbWatersModel" prog_14_method_18_code (0, bM_takes_0, 22) := ⟨by decide +kernel, (List.forall_mem_cons.mpr ⟨sLA0, (List.forall_mem_cons.mpr ⟨sLI1, (List.forall_mem_cons.mpr ⟨sLI2, (List.forall_mem_cons.mpr ⟨sLI3, (List.forall_mem_cons.mpr ⟨sLI4, (List.forall_mem_cons.mpr ⟨sLI5, (List.forall_mem_cons.mpr ⟨sLI6, (List.forall_mem_cons.mpr ⟨sLI7, (List.forall_mem_cons.mpr ⟨lM_v178, (List.forall_mem_cons.mpr ⟨sSI8, (List.forall_mem_cons.mpr ⟨sLI8, (List.forall_mem_cons.mpr ⟨sIFeq, (fun _ h => absurd h List.not_mem_nil)⟩)⟩)⟩)⟩)⟩)⟩)⟩)⟩)⟩)⟩)⟩)⟩)⟩
theorem kM_takes_22 : Bok "HerbWatersModel" prog_14_method_18_code (22, bM_takes_22, 26) := ⟨by decide +kernel, (List.forall_mem_cons.mpr ⟨sLA0, (List.forall_mem_cons.mpr ⟨lM_v182, (fun _ h => absurd h List.not_mem_nil)⟩)⟩)⟩
theorem kM_takes_26 : Bok "HerbWatersModel" prog_14_method_18_code (26, bM_takes_26, 29) := ⟨by decide +kernel, (List.forall_mem_cons.mpr ⟨sLI8, (List.forall_mem_cons.mpr ⟨sRI, (fun _ h => absurd h List.not_mem_nil)⟩)⟩)⟩
theorem kM_takes : ∀ q ∈ tM_takes, Bok "HerbWatersModel" prog_14_method_18_code q := (List.forall_mem_cons.mpr ⟨kM_takes_0, (List.forall_mem_cons.mpr ⟨kM_takes_22, (List.forall_mem_cons.mpr ⟨kM_takes_26, (fun _ h => absurd h List.not_mem_nil)⟩)⟩)⟩)
def mM_sign : Mt := (⟨"HerbWatersModel", "sign", "(I)V"⟩, prog_14_method_19_code, 2, none)
theorem ok_M_sign : Mok mM_sign := ⟨gtb_mem 1995 (by decide +kernel) rfl, gtb_mem 107 (by decide +kernel) rfl, by decide +kernel, by decide⟩
def bM_sign_0 : List Ir := [iLA0, (iGI 139 11 5), (iIFeq (4) 8)]
def bM_sign_7 : List Ir := [iRV]
def bM_sign_8 : List Ir := [iLA0, (iCV0 145 11 mM_blanks), iLA0, iLA0, (iGI 132 11 4), (iCV1 135 11 mM_byteAt), iLI1, (iICne (16) 37)]
def bM_sign_24 : List Ir := [iLA0, iDUPr, (iGI 132 11 4), iC1, iADD, (iPI 132 11 4), (iGO (12) 46)]
def bM_sign_37 : List Ir := [iLA0, iC1, iLA0, (iGI 132 11 4), (iCV2 152 11 mM_wrong)]
def bM_sign_46 : List Ir := [iRV]
def tM_sign : Tb := [(0, bM_sign_0, 7), (7, bM_sign_7, 8), (8, bM_sign_8, 24), (24, bM_sign_24, 37), (37, bM_sign_37, 46), (46, bM_sign_46, 47)]
theorem fM_sign_0 : tbf tM_sign 0 = some (bM_sign_0, 7) := rfl
theorem fM_sign_7 : tbf tM_sign 7 = some (bM_sign_7, 8) := rfl
theorem fM_sign_8 : tbf tM_sign 8 = some (bM_sign_8, 24) := rfl
theorem fM_sign_24 : tbf tM_sign 24 = some (bM_sign_24, 37) := rfl
theorem fM_sign_37 : tbf tM_sign 37 = some (bM_sign_37, 46) := rfl
theorem fM_sign_46 : tbf tM_sign 46 = some (bM_sign_46, 47) := rfl
theorem kM_sign_0 : Bok "HerbWatersModel" prog_14_method_19_code (0, bM_sign_0, 7) := ⟨by decide +kernel, (List.forall_mem_cons.mpr ⟨sLA0, (List.forall_mem_cons.mpr ⟨lM_g139, (List.forall_mem_cons.mpr ⟨sIFeq, (fun _ h => absurd h List.not_mem_nil)⟩)⟩)⟩)⟩
theorem kM_sign_7 : Bok "HerbWatersModel" prog_14_method_19_code (7, bM_sign_7, 8) := ⟨by decide +kernel, (List.forall_mem_cons.mpr ⟨sRV, (fun _ h => absurd h List.not_mem_nil)⟩)⟩
theorem kM_sign_8 : Bok "HerbWatersModel" prog_14_method_19_code (8, bM_sign_8, 24) := ⟨by decide +kernel, (List.forall_mem_cons.mpr ⟨sLA0, (List.forall_mem_cons.mpr ⟨lM_v145, (List.forall_mem_cons.mpr ⟨sLA0, (List.forall_mem_cons.mpr ⟨sLA0, (List.forall_mem_cons.mpr ⟨lM_g132, (List.forall_mem_cons.mpr ⟨lM_v135, (List.forall_mem_cons.mpr ⟨sLI1, (List.forall_mem_cons.mpr ⟨sICne, (fun _ h => absurd h List.not_mem_nil)⟩)⟩)⟩)⟩)⟩)⟩)⟩)⟩)⟩
theorem kM_sign_24 : Bok "HerbWatersModel" prog_14_method_19_code (24, bM_sign_24, 37) := ⟨by decide +kernel, (List.forall_mem_cons.mpr ⟨sLA0, (List.forall_mem_cons.mpr ⟨sDUPr, (List.forall_mem_cons.mpr ⟨lM_g132, (List.forall_mem_cons.mpr ⟨sC1, (List.forall_mem_cons.mpr ⟨sADD, (List.forall_mem_cons.mpr ⟨lM_p132, (List.forall_mem_cons.mpr ⟨sGO, (fun _ h => absurd h List.not_mem_nil)⟩)⟩)⟩)⟩)⟩)⟩)⟩)⟩
theorem kM_sign_37 : Bok "HerbWatersModel" prog_14_method_19_code (37, bM_sign_37, 46) := ⟨by decide +kernel, (List.forall_mem_cons.mpr ⟨sLA0, (List.forall_mem_cons.mpr ⟨sC1, (List.forall_mem_cons.mpr ⟨sLA0, (List.forall_mem_cons.mpr ⟨lM_g132, (List.forall_mem_cons.mpr ⟨lM_v152, (fun _ h => absurd h List.not_mem_nil)⟩)⟩)⟩)⟩)⟩)⟩
theorem kM_sign_46 : Bok "HerbWatersModel" prog_14_method_19_code (46, bM_sign_46, 47) := ⟨by decide +kernel, (List.forall_mem_cons.mpr ⟨sRV, (fun _ h => absurd h List.not_mem_nil)⟩)⟩
theorem kM_sign : ∀ q ∈ tM_sign, Bok "HerbWatersModel" prog_14_method_19_code q := (List.forall_mem_cons.mpr ⟨kM_sign_0, (List.forall_mem_cons.mpr ⟨kM_sign_7, (List.forall_mem_cons.mpr ⟨kM_sign_8, (List.forall_mem_cons.mpr ⟨kM_sign_24, (List.forall_mem_cons.mpr ⟨kM_sign_37, (List.forall_mem_cons.mpr ⟨kM_sign_46, (fun _ h => absurd h List.not_mem_nil)⟩)⟩)⟩)⟩)⟩)⟩)
def mM_takesSign : Mt := (⟨"HerbWatersModel", "takesSign", "(I)Z"⟩, prog_14_method_20_code, 3, some .boolean)
theorem ok_M_takesSign : Mok mM_takesSign := ⟨gtb_mem 2031 (by decide +kernel) rfl, gtb_mem 107 (by decide +kernel) rfl, by decide +kernel, by decide⟩
def bM_takesSign_0 : List Ir := [iLA0, (iGI 139 11 5), (iIFeq (5) 9)]
def bM_takesSign_7 : List Ir := [iC0, iRI]
def bM_takesSign_9 : List Ir := [iLA0, (iCV0 145 11 mM_blanks), iLA0, iLA0, (iGI 132 11 4), (iCV1 135 11 mM_byteAt), iLI1, (iICne (7) 29)]
def bM_takesSign_25 : List Ir := [iC1, (iGO (4) 30)]
def bM_takesSign_29 : List Ir := [iC0]
def bM_takesSign_30 : List Ir := [iSI2, iLI2, (iIFeq (13) 45)]
def bM_takesSign_35 : List Ir := [iLA0, iDUPr, (iGI 132 11 4), iC1, iADD, (iPI 132 11 4)]
def bM_takesSign_45 : List Ir := [iLI2, iRI]
def tM_takesSign : Tb := [(0, bM_takesSign_0, 7), (7, bM_takesSign_7, 9), (9, bM_takesSign_9, 25), (25, bM_takesSign_25, 29), (29, bM_takesSign_29, 30), (30, bM_takesSign_30, 35), (35, bM_takesSign_35, 45), (45, bM_takesSign_45, 47)]
theorem fM_takesSign_0 : tbf tM_takesSign 0 = some (bM_takesSign_0, 7) := rfl
theorem fM_takesSign_7 : tbf tM_takesSign 7 = some (bM_takesSign_7, 9) := rfl
theorem fM_takesSign_9 : tbf tM_takesSign 9 = some (bM_takesSign_9, 25) := rfl
theorem fM_takesSign_25 : tbf tM_takesSign 25 = some (bM_takesSign_25, 29) := rfl
theorem fM_takesSign_29 : tbf tM_takesSign 29 = some (bM_takesSign_29, 30) := rfl
theorem fM_takesSign_30 : tbf tM_takesSign 30 = some (bM_takesSign_30, 35) := rfl
theorem fM_takesSign_35 : tbf tM_takesSign 35 = some (bM_takesSign_35, 45) := rfl
theorem fM_takesSign_45 : tbf tM_takesSign 45 = some (bM_takesSign_45, 47) := rfl
theorem kM_takesSign_0 : Bok "HerbWatersModel" prog_14_method_20_code (0, bM_takesSign_0, 7) := ⟨by decide +kernel, (List.forall_mem_cons.mpr ⟨sLA0, (List.forall_mem_cons.mpr ⟨lM_g139, (List.forall_mem_cons.mpr ⟨sIFeq, (fun _ h => absurd h List.not_mem_nil)⟩)⟩)⟩)⟩
theorem kM_takesSign_7 : Bok "HerbWatersModel" prog_14_method_20_code (7, bM_takesSign_7, 9) := ⟨by decide +kernel, (List.forall_mem_cons.mpr ⟨sC0, (List.forall_mem_cons.mpr ⟨sRI, (fun _ h => absurd h List.not_mem_nil)⟩)⟩)⟩
theorem kM_takesSign_9 : Bok "HerbWatersModel" prog_14_method_20_code (9, bM_takesSign_9, 25) := ⟨by decide +kernel, (List.forall_mem_cons.mpr ⟨sLA0, (List.forall_mem_cons.mpr ⟨lM_v145, (List.forall_mem_cons.mpr ⟨sLA0, (List.forall_mem_cons.mpr ⟨sLA0, (List.forall_mem_cons.mpr ⟨lM_g132, (List.forall_mem_cons.mpr ⟨lM_v135, (List.forall_mem_cons.mpr ⟨sLI1, (List.forall_mem_cons.mpr ⟨sICne, (fun _ h => absurd h List.not_mem_nil)⟩)⟩)⟩)⟩)⟩)⟩)⟩)⟩)⟩
theorem kM_takesSign_25 : Bok "HerbWatersModel" prog_14_method_20_code (25, bM_takesSign_25, 29) := ⟨by decide +kernel, (List.forall_mem_cons.mpr ⟨sC1, (List.forall_mem_cons.mpr ⟨sGO, (fun _ h => absurd h List.not_mem_nil)⟩)⟩)⟩
theorem kM_takesSign_29 : Bok "HerbWatersModel" prog_14_method_20_code (29, bM_takesSign_29, 30) := ⟨by decide +kernel, (List.forall_mem_cons.mpr ⟨sC0, (fun _ h => absurd h List.not_mem_nil)⟩)⟩
theorem kM_takesSign_30 : Bok "HerbWatersModel" prog_14_method_20_code (30, bM_takesSign_30, 35) := ⟨by decide +kernel, (List.forall_mem_cons.mpr ⟨sSI2, (List.forall_mem_cons.mpr ⟨sLI2, (List.forall_mem_cons.mpr ⟨sIFeq, (fun _ h => absurd h List.not_mem_nil)⟩)⟩)⟩)⟩
theorem kM_takesSign_35 : Bok "HerbWatersModel" prog_14_method_20_code (35, bM_takesSign_35, 45) := ⟨by decide +kernel, (List.forall_mem_cons.mpr ⟨sLA0, (List.forall_mem_cons.mpr ⟨sDUPr, (List.forall_mem_cons.mpr ⟨lM_g132, (List.forall_mem_cons.mpr ⟨sC1, (List.forall_mem_cons.mpr ⟨sADD, (List.forall_mem_cons.mpr ⟨lM_p132, (fun _ h => absurd h List.not_mem_nil)⟩)⟩)⟩)⟩)⟩)⟩)⟩
theorem kM_takesSign_45 : Bok "HerbWatersModel" prog_14_method_20_code (45, bM_takesSign_45, 47) := ⟨by decide +kernel, (List.forall_mem_cons.mpr ⟨sLI2, (List.forall_mem_cons.mpr ⟨sRI, (fun _ h => absurd h List.not_mem_nil)⟩)⟩)⟩
theorem kM_takesSign : ∀ q ∈ tM_takesSign, Bok "HerbWatersModel" prog_14_method_20_code q := (List.forall_mem_cons.mpr ⟨kM_takesSign_0, (List.forall_mem_cons.mpr ⟨kM_takesSign_7, (List.forall_mem_cons.mpr ⟨kM_takesSign_9, (List.forall_mem_cons.mpr ⟨kM_takesSign_25, (List.forall_mem_cons.mpr ⟨kM_takesSign_29, (List.forall_mem_cons.mpr ⟨kM_takesSign_30, (List.forall_mem_cons.mpr ⟨kM_takesSign_35, (List.forall_mem_cons.mpr ⟨kM_takesSign_45, (fun _ h => absurd h List.not_mem_nil)⟩)⟩)⟩)⟩)⟩)⟩)⟩)⟩)
def mM_starts : Mt := (⟨"HerbWatersModel", "starts", "(I)V"⟩, prog_14_method_21_code, 2, none)
theorem ok_M_starts : Mok mM_starts := ⟨gtb_mem 1918 (by decide +kernel) rfl, gtb_mem 107 (by decide +kernel) rfl, by decide +kernel, by decide⟩
theorem lM_p129 : Snd "HerbWatersModel" (iPI 129 11 2) := sPI _ rfl rfl (gtb_mem 1725 (by decide +kernel) rfl)
theorem lM_p185 : Snd "HerbWatersModel" (iPI 185 11 7) := sPI _ rfl rfl (gtb_mem 1730 (by decide +kernel) rfl)
theorem lM_p188 : Snd "HerbWatersModel" (iPI 188 11 8) := sPI _ rfl rfl (gtb_mem 1731 (by decide +kernel) rfl)
def bM_starts_0 : List Ir := [iLA0, iC0, (iPI 126 11 1), iLA0, iLI1, (iPI 129 11 2), iLA0, iC0, (iPI 132 11 4), iLA0, iC0, (iPI 139 11 5), iLA0, iCm1, (iPI 142 11 6), iLA0, iC0, (iPI 185 11 7), iLA0, iC0, (iPI 188 11 8), iLA0, (iCV0 145 11 mM_blanks), iRV]
def tM_starts : Tb := [(0, bM_starts_0, 40)]
theorem fM_starts_0 : tbf tM_starts 0 = some (bM_starts_0, 40) := rfl
theorem kM_starts_0 : Bok "HerbWatersModel" prog_14_method_21_code (0, bM_starts_0, 40) := ⟨by decide +kernel, (List.forall_mem_cons.mpr ⟨sLA0, (List.forall_mem_cons.mpr ⟨sC0, (List.forall_mem_cons.mpr ⟨lM_p126, (List.forall_mem_cons.mpr ⟨sLA0, (List.forall_mem_cons.mpr ⟨sLI1, (List.forall_mem_cons.mpr ⟨lM_p129, (List.forall_mem_cons.mpr ⟨sLA0, (List.forall_mem_cons.mpr ⟨sC0, (List.forall_mem_cons.mpr ⟨lM_p132, (List.forall_mem_cons.mpr ⟨sLA0, (List.forall_mem_cons.mpr ⟨sC0, (List.forall_mem_cons.mpr ⟨lM_p139, (List.forall_mem_cons.mpr ⟨sLA0, (List.forall_mem_cons.mpr ⟨sCm1, (List.forall_mem_cons.mpr ⟨lM_p142, (List.forall_mem_cons.mpr ⟨sLA0, (List.forall_mem_cons.mpr ⟨sC0, (List.forall_mem_cons.mpr ⟨lM_p185, (List.forall_mem_cons.mpr ⟨sLA0, (List.forall_mem_cons.mpr ⟨sC0, (List.forall_mem_cons.mpr ⟨lM_p188, (List.forall_mem_cons.mpr ⟨sLA0, (List.forall_mem_cons.mpr ⟨lM_v145, (List.forall_mem_cons.mpr ⟨sRV, (fun _ h => absurd h List.not_mem_nil)⟩)⟩)⟩)⟩)⟩)⟩)⟩)⟩)⟩)⟩)⟩)⟩)⟩)⟩)⟩)⟩)⟩)⟩)⟩)⟩)⟩)⟩)⟩)⟩)⟩
theorem kM_starts : ∀ q ∈ tM_starts, Bok "HerbWatersModel" prog_14_method_21_code q := (List.forall_mem_cons.mpr ⟨kM_starts_0, (fun _ h => absurd h List.not_mem_nil)⟩)
def mM_kindHere : Mt := (⟨"HerbWatersModel", "kindHere", "()I"⟩, prog_14_method_22_code, 1, some .int)
theorem ok_M_kindHere : Mok mM_kindHere := ⟨gtb_mem 1934 (by decide +kernel) rfl, gtb_mem 107 (by decide +kernel) rfl, by decide +kernel, by decide⟩
def bM_kindHere_0 : List Ir := [iLA0, (iBP 22), (iBP 9), (iBP 12), (iBP 12), iC1, (iBP 7), iC5, (iCV7 178 11 mM_isWord), (iIFeq (5) 21)]
def bM_kindHere_19 : List Ir := [iC0, iRI]
def bM_kindHere_21 : List Ir := [iLA0, iC3, (iBP 8), iC1, (iBP 14), (iBP 14), iC5, (iBP 12), (iCV7 178 11 mM_isWord), (iIFeq (5) 41)]
def bM_kindHere_39 : List Ir := [iC1, iRI]
def bM_kindHere_41 : List Ir := [iLA0, (iBP 20), iC1, (iBP 16), iC0, iC0, iC0, iC0, (iCV7 178 11 mM_isWord), (iIFeq (5) 59)]
def bM_kindHere_57 : List Ir := [iC2, iRI]
def bM_kindHere_59 : List Ir := [iLA0, (iBP 19), (iBP 16), (iBP 18), (iBP 9), (iBP 14), (iBP 7), iC0, (iCV7 178 11 mM_isWord), (iIFeq (5) 81)]
def bM_kindHere_79 : List Ir := [iC3, iRI]
def bM_kindHere_81 : List Ir := [iLA0, (iBP 6), iC5, iC1, (iBP 19), (iBP 20), iC0, iC0, (iCV7 178 11 mM_isWord), (iIFeq (5) 100)]
def bM_kindHere_98 : List Ir := [iC4, iRI]
def bM_kindHere_100 : List Ir := [iLA0, (iBP 12), iC5, iC1, (iBP 11), iC0, iC0, iC0, (iCV7 178 11 mM_isWord), (iIFeq (5) 118)]
def bM_kindHere_116 : List Ir := [iC5, iRI]
def bM_kindHere_118 : List Ir := [iLA0, (iBP 12), iC1, (iBP 7), iC0, iC0, iC0, iC0, (iCV7 178 11 mM_isWord), (iIFeq (6) 137)]
def bM_kindHere_134 : List Ir := [(iBP 6), iRI]
def bM_kindHere_137 : List Ir := [iLA0, (iBP 6), (iBP 18), (iBP 15), (iBP 7), iC0, iC0, iC0, (iCV7 178 11 mM_isWord), (iIFeq (6) 158)]
def bM_kindHere_155 : List Ir := [(iBP 7), iRI]
def bM_kindHere_158 : List Ir := [iLA0, (iBP 6), (iBP 9), (iBP 12), (iBP 20), iC5, (iBP 18), iC0, (iCV7 178 11 mM_isWord), (iIFeq (8) 182)]
def bM_kindHere_177 : List Ir := [(iBP 8), (iGO (4) 183)]
def bM_kindHere_182 : List Ir := [iCm1]
def bM_kindHere_183 : List Ir := [iRI]
def tM_kindHere : Tb := [(0, bM_kindHere_0, 19), (19, bM_kindHere_19, 21), (21, bM_kindHere_21, 39), (39, bM_kindHere_39, 41), (41, bM_kindHere_41, 57), (57, bM_kindHere_57, 59), (59, bM_kindHere_59, 79), (79, bM_kindHere_79, 81), (81, bM_kindHere_81, 98), (98, bM_kindHere_98, 100), (100, bM_kindHere_100, 116), (116, bM_kindHere_116, 118), (118, bM_kindHere_118, 134), (134, bM_kindHere_134, 137), (137, bM_kindHere_137, 155), (155, bM_kindHere_155, 158), (158, bM_kindHere_158, 177), (177, bM_kindHere_177, 182), (182, bM_kindHere_182, 183), (183, bM_kindHere_183, 184)]
theorem fM_kindHere_0 : tbf tM_kindHere 0 = some (bM_kindHere_0, 19) := rfl
theorem fM_kindHere_19 : tbf tM_kindHere 19 = some (bM_kindHere_19, 21) := rfl
theorem fM_kindHere_21 : tbf tM_kindHere 21 = some (bM_kindHere_21, 39) := rfl
theorem fM_kindHere_39 : tbf tM_kindHere 39 = some (bM_kindHere_39, 41) := rfl
theorem fM_kindHere_41 : tbf tM_kindHere 41 = some (bM_kindHere_41, 57) := rfl
theorem fM_kindHere_57 : tbf tM_kindHere 57 = some (bM_kindHere_57, 59) := rfl
theorem fM_kindHere_59 : tbf tM_kindHere 59 = some (bM_kindHere_59, 79) := rfl
theorem fM_kindHere_79 : tbf tM_kindHere 79 = some (bM_kindHere_79, 81) := rfl
theorem fM_kindHere_81 : tbf tM_kindHere 81 = some (bM_kindHere_81, 98) := rfl
theorem fM_kindHere_98 : tbf tM_kindHere 98 = some (bM_kindHere_98, 100) := rfl
theorem fM_kindHere_100 : tbf tM_kindHere 100 = some (bM_kindHere_100, 116) := rfl
theorem fM_kindHere_116 : tbf tM_kindHere 116 = some (bM_kindHere_116, 118) := rfl
theorem fM_kindHere_118 : tbf tM_kindHere 118 = some (bM_kindHere_118, 134) := rfl
theorem fM_kindHere_134 : tbf tM_kindHere 134 = some (bM_kindHere_134, 137) := rfl
theorem fM_kindHere_137 : tbf tM_kindHere 137 = some (bM_kindHere_137, 155) := rfl
theorem fM_kindHere_155 : tbf tM_kindHere 155 = some (bM_kindHere_155, 158) := rfl
theorem fM_kindHere_158 : tbf tM_kindHere 158 = some (bM_kindHere_158, 177) := rfl
theorem fM_kindHere_177 : tbf tM_kindHere 177 = some (bM_kindHere_177, 182) := rfl
theorem fM_kindHere_182 : tbf tM_kindHere 182 = some (bM_kindHere_182, 183) := rfl
theorem fM_kindHere_183 : tbf tM_kindHere 183 = some (bM_kindHere_183, 184) := rfl
theorem kM_kindHere_0 : Bok "HerbWatersModel" prog_14_method_22_code (0, bM_kindHere_0, 19) := ⟨by decide +kernel, (List.forall_mem_cons.mpr ⟨sLA0, (List.forall_mem_cons.mpr ⟨sBP, (List.forall_mem_cons.mpr ⟨sBP, (List.forall_mem_cons.mpr ⟨sBP, (List.forall_mem_cons.mpr ⟨sBP, (List.forall_mem_cons.mpr ⟨sC1, (List.forall_mem_cons.mpr ⟨sBP, (List.forall_mem_cons.mpr ⟨sC5, (List.forall_mem_cons.mpr ⟨lM_v178, (List.forall_mem_cons.mpr ⟨sIFeq, (fun _ h => absurd h List.not_mem_nil)⟩)⟩)⟩)⟩)⟩)⟩)⟩)⟩)⟩)⟩)⟩
theorem kM_kindHere_19 : Bok "HerbWatersModel" prog_14_method_22_code (19, bM_kindHere_19, 21) := ⟨by decide +kernel, (List.forall_mem_cons.mpr ⟨sC0, (List.forall_mem_cons.mpr ⟨sRI, (fun _ h => absurd h List.not_mem_nil)⟩)⟩)⟩
theorem kM_kindHere_21 : Bok "HerbWatersModel" prog_14_method_22_code (21, bM_kindHere_21, 39) := ⟨by decide +kernel, (List.forall_mem_cons.mpr ⟨sLA0, (List.forall_mem_cons.mpr ⟨sC3, (List.forall_mem_cons.mpr ⟨sBP, (List.forall_mem_cons.mpr ⟨sC1, (List.forall_mem_cons.mpr ⟨sBP, (List.forall_mem_cons.mpr ⟨sBP, (List.forall_mem_cons.mpr ⟨sC5, (List.forall_mem_cons.mpr ⟨sBP, (List.forall_mem_cons.mpr ⟨lM_v178, (List.forall_mem_cons.mpr ⟨sIFeq, (fun _ h => absurd h List.not_mem_nil)⟩)⟩)⟩)⟩)⟩)⟩)⟩)⟩)⟩)⟩)⟩
theorem kM_kindHere_39 : Bok "HerbWatersModel" prog_14_method_22_code (39, bM_kindHere_39, 41) := ⟨by decide +kernel, (List.forall_mem_cons.mpr ⟨sC1, (List.forall_mem_cons.mpr ⟨sRI, (fun _ h => absurd h List.not_mem_nil)⟩)⟩)⟩
theorem kM_kindHere_41 : Bok "HerbWatersModel" prog_14_method_22_code (41, bM_kindHere_41, 57) := ⟨by decide +kernel, (List.forall_mem_cons.mpr ⟨sLA0, (List.forall_mem_cons.mpr ⟨sBP, (List.forall_mem_cons.mpr ⟨sC1, (List.forall_mem_cons.mpr ⟨sBP, (List.forall_mem_cons.mpr ⟨sC0, (List.forall_mem_cons.mpr ⟨sC0, (List.forall_mem_cons.mpr ⟨sC0, (List.forall_mem_cons.mpr ⟨sC0, (List.forall_mem_cons.mpr ⟨lM_v178, (List.forall_mem_cons.mpr ⟨sIFeq, (fun _ h => absurd h List.not_mem_nil)⟩)⟩)⟩)⟩)⟩)⟩)⟩)⟩)⟩)⟩)⟩
theorem kM_kindHere_57 : Bok "HerbWatersModel" prog_14_method_22_code (57, bM_kindHere_57, 59) := ⟨by decide +kernel, (List.forall_mem_cons.mpr ⟨sC2, (List.forall_mem_cons.mpr ⟨sRI, (fun _ h => absurd h List.not_mem_nil)⟩)⟩)⟩
theorem kM_kindHere_59 : Bok "HerbWatersModel" prog_14_method_22_code (59, bM_kindHere_59, 79) := ⟨by decide +kernel, (List.forall_mem_cons.mpr ⟨sLA0, (List.forall_mem_cons.mpr ⟨sBP, (List.forall_mem_cons.mpr ⟨sBP, (List.forall_mem_cons.mpr ⟨sBP, (List.forall_mem_cons.mpr ⟨sBP, (List.forall_mem_cons.mpr ⟨sBP, (List.forall_mem_cons.mpr ⟨sBP, (List.forall_mem_cons.mpr ⟨sC0, (List.forall_mem_cons.mpr ⟨lM_v178, (List.forall_mem_cons.mpr ⟨sIFeq, (fun _ h => absurd h List.not_mem_nil)⟩)⟩)⟩)⟩)⟩)⟩)⟩)⟩)⟩)⟩)⟩
theorem kM_kindHere_79 : Bok "HerbWatersModel" prog_14_method_22_code (79, bM_kindHere_79, 81) := ⟨by decide +kernel, (List.forall_mem_cons.mpr ⟨sC3, (List.forall_mem_cons.mpr ⟨sRI, (fun _ h => absurd h List.not_mem_nil)⟩)⟩)⟩
theorem kM_kindHere_81 : Bok "HerbWatersModel" prog_14_method_22_code (81, bM_kindHere_81, 98) := ⟨by decide +kernel, (List.forall_mem_cons.mpr ⟨sLA0, (List.forall_mem_cons.mpr ⟨sBP, (List.forall_mem_cons.mpr ⟨sC5, (List.forall_mem_cons.mpr ⟨sC1, (List.forall_mem_cons.mpr ⟨sBP, (List.forall_mem_cons.mpr ⟨sBP, (List.forall_mem_cons.mpr ⟨sC0, (List.forall_mem_cons.mpr ⟨sC0, (List.forall_mem_cons.mpr ⟨lM_v178, (List.forall_mem_cons.mpr ⟨sIFeq, (fun _ h => absurd h List.not_mem_nil)⟩)⟩)⟩)⟩)⟩)⟩)⟩)⟩)⟩)⟩)⟩
theorem kM_kindHere_98 : Bok "HerbWatersModel" prog_14_method_22_code (98, bM_kindHere_98, 100) := ⟨by decide +kernel, (List.forall_mem_cons.mpr ⟨sC4, (List.forall_mem_cons.mpr ⟨sRI, (fun _ h => absurd h List.not_mem_nil)⟩)⟩)⟩
theorem kM_kindHere_100 : Bok "HerbWatersModel" prog_14_method_22_code (100, bM_kindHere_100, 116) := ⟨by decide +kernel, (List.forall_mem_cons.mpr ⟨sLA0, (List.forall_mem_cons.mpr ⟨sBP, (List.forall_mem_cons.mpr ⟨sC5, (List.forall_mem_cons.mpr ⟨sC1, (List.forall_mem_cons.mpr ⟨sBP, (List.forall_mem_cons.mpr ⟨sC0, (List.forall_mem_cons.mpr ⟨sC0, (List.forall_mem_cons.mpr ⟨sC0, (List.forall_mem_cons.mpr ⟨lM_v178, (List.forall_mem_cons.mpr ⟨sIFeq, (fun _ h => absurd h List.not_mem_nil)⟩)⟩)⟩)⟩)⟩)⟩)⟩)⟩)⟩)⟩)⟩
theorem kM_kindHere_116 : Bok "HerbWatersModel" prog_14_method_22_code (116, bM_kindHere_116, 118) := ⟨by decide +kernel, (List.forall_mem_cons.mpr ⟨sC5, (List.forall_mem_cons.mpr ⟨sRI, (fun _ h => absurd h List.not_mem_nil)⟩)⟩)⟩
theorem kM_kindHere_118 : Bok "HerbWatersModel" prog_14_method_22_code (118, bM_kindHere_118, 134) := ⟨by decide +kernel, (List.forall_mem_cons.mpr ⟨sLA0, (List.forall_mem_cons.mpr ⟨sBP, (List.forall_mem_cons.mpr ⟨sC1, (List.forall_mem_cons.mpr ⟨sBP, (List.forall_mem_cons.mpr ⟨sC0, (List.forall_mem_cons.mpr ⟨sC0, (List.forall_mem_cons.mpr ⟨sC0, (List.forall_mem_cons.mpr ⟨sC0, (List.forall_mem_cons.mpr ⟨lM_v178, (List.forall_mem_cons.mpr ⟨sIFeq, (fun _ h => absurd h List.not_mem_nil)⟩)⟩)⟩)⟩)⟩)⟩)⟩)⟩)⟩)⟩)⟩
theorem kM_kindHere_134 : Bok "HerbWatersModel" prog_14_method_22_code (134, bM_kindHere_134, 137) := ⟨by decide +kernel, (List.forall_mem_cons.mpr ⟨sBP, (List.forall_mem_cons.mpr ⟨sRI, (fun _ h => absurd h List.not_mem_nil)⟩)⟩)⟩
theorem kM_kindHere_137 : Bok "HerbWatersModel" prog_14_method_22_code (137, bM_kindHere_137, 155) := ⟨by decide +kernel, (List.forall_mem_cons.mpr ⟨sLA0, (List.forall_mem_cons.mpr ⟨sBP, (List.forall_mem_cons.mpr ⟨sBP, (List.forall_mem_cons.mpr ⟨sBP, (List.forall_mem_cons.mpr ⟨sBP, (List.forall_mem_cons.mpr ⟨sC0, (List.forall_mem_cons.mpr ⟨sC0, (List.forall_mem_cons.mpr ⟨sC0, (List.forall_mem_cons.mpr ⟨lM_v178, (List.forall_mem_cons.mpr ⟨sIFeq, (fun _ h => absurd h List.not_mem_nil)⟩)⟩)⟩)⟩)⟩)⟩)⟩)⟩)⟩)⟩)⟩
theorem kM_kindHere_155 : Bok "HerbWatersModel" prog_14_method_22_code (155, bM_kindHere_155, 158) := ⟨by decide +kernel, (List.forall_mem_cons.mpr ⟨sBP, (List.forall_mem_cons.mpr ⟨sRI, (fun _ h => absurd h List.not_mem_nil)⟩)⟩)⟩
theorem kM_kindHere_158 : Bok "HerbWatersModel" prog_14_method_22_code (158, bM_kindHere_158, 177) := ⟨by decide +kernel, (List.forall_mem_cons.mpr ⟨sLA0, (List.forall_mem_cons.mpr ⟨sBP, (List.forall_mem_cons.mpr ⟨sBP, (List.forall_mem_cons.mpr ⟨sBP, (List.forall_mem_cons.mpr ⟨sBP, (List.forall_mem_cons.mpr ⟨sC5, (List.forall_mem_cons.mpr ⟨sBP, (List.forall_mem_cons.mpr ⟨sC0, (List.forall_mem_cons.mpr ⟨lM_v178, (List.forall_mem_cons.mpr ⟨sIFeq, (fun _ h => absurd h List.not_mem_nil)⟩)⟩)⟩)⟩)⟩)⟩)⟩)⟩)⟩)⟩)⟩
theorem kM_kindHere_177 : Bok "HerbWatersModel" prog_14_method_22_code (177, bM_kindHere_177, 182) := ⟨by decide +kernel, (List.forall_mem_cons.mpr ⟨sBP, (List.forall_mem_cons.mpr ⟨sGO, (fun _ h => absurd h List.not_mem_nil)⟩)⟩)⟩
theorem kM_kindHere_182 : Bok "HerbWatersModel" prog_14_method_22_code (182, bM_kindHere_182, 183) := ⟨by decide +kernel, (List.forall_mem_cons.mpr ⟨sCm1, (fun _ h => absurd h List.not_mem_nil)⟩)⟩
theorem kM_kindHere_183 : Bok "HerbWatersModel" prog_14_method_22_code (183, bM_kindHere_183, 184) := ⟨by decide +kernel, (List.forall_mem_cons.mpr ⟨sRI, (fun _ h => absurd h List.not_mem_nil)⟩)⟩
theorem kM_kindHere : ∀ q ∈ tM_kindHere, Bok "HerbWatersModel" prog_14_method_22_code q := (List.forall_mem_cons.mpr ⟨kM_kindHere_0, (List.forall_mem_cons.mpr ⟨kM_kindHere_19, (List.forall_mem_cons.mpr ⟨kM_kindHere_21, (List.forall_mem_cons.mpr ⟨kM_kindHere_39, (List.forall_mem_cons.mpr ⟨kM_kindHere_41, (List.forall_mem_cons.mpr ⟨kM_kindHere_57, (List.forall_mem_cons.mpr ⟨kM_kindHere_59, (List.forall_mem_cons.mpr ⟨kM_kindHere_79, (List.forall_mem_cons.mpr ⟨kM_kindHere_81, (List.forall_mem_cons.mpr ⟨kM_kindHere_98, (List.forall_mem_cons.mpr ⟨kM_kindHere_100, (List.forall_mem_cons.mpr ⟨kM_kindHere_116, (List.forall_mem_cons.mpr ⟨kM_kindHere_118, (List.forall_mem_cons.mpr ⟨kM_kindHere_134, (List.forall_mem_cons.mpr ⟨kM_kindHere_137, (List.forall_mem_cons.mpr ⟨kM_kindHere_155, (List.forall_mem_cons.mpr ⟨kM_kindHere_158, (List.forall_mem_cons.mpr ⟨kM_kindHere_177, (List.forall_mem_cons.mpr ⟨kM_kindHere_182, (List.forall_mem_cons.mpr ⟨kM_kindHere_183, (fun _ h => absurd h List.not_mem_nil)⟩)⟩)⟩)⟩)⟩)⟩)⟩)⟩)⟩)⟩)⟩)⟩)⟩)⟩)⟩)⟩)⟩)⟩)⟩)⟩)
