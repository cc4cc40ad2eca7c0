/-! code of HerbWatersModel; by program (wip/whole/gen_M.py) -/
def mM_villageHere : Mt := (⟨"HerbWatersModel", "villageHere", "()I"⟩, prog_14_method_23_code, 1, some .int)
theorem ok_M_villageHere : Mok mM_villageHere := ⟨gtb_mem 1971 (by decide +kernel) rfl, gtb_mem 107 (by decide +kernel) rfl, by decide +kernel, by decide⟩
theorem lM_v191 : Snd "HerbWatersModel" (iCV2 191 11 mM_number) := sCV2 _ rfl rfl ok_M_number (gtb_mem 1962 (by decide +kernel) rfl) (gtb_mem 53 (by decide +kernel) rfl) (gtb_mem 1960 (by decide +kernel) rfl)
def bM_villageHere_0 : List Ir := [iLA0, iC0, iLA0, (iGR 20 11 11), iC0, iIALD, iC1, iSUB, (iCV2 191 11 mM_number), iRI]
def tM_villageHere : Tb := [(0, bM_villageHere_0, 14)]
theorem fM_villageHere_0 : tbf tM_villageHere 0 = some (bM_villageHere_0, 14) := rfl
theorem kM_villageHere_0 : Bok "HerbWatersModel" prog_14_method_23_code (0, bM_villageHere_0, 14) := ⟨by decide +kernel, (List.forall_mem_cons.mpr ⟨sLA0, (List.forall_mem_cons.mpr ⟨sC0, (List.forall_mem_cons.mpr ⟨sLA0, (List.forall_mem_cons.mpr ⟨lM_g20, (List.forall_mem_cons.mpr ⟨sC0, (List.forall_mem_cons.mpr ⟨sIALD, (List.forall_mem_cons.mpr ⟨sC1, (List.forall_mem_cons.mpr ⟨sSUB, (List.forall_mem_cons.mpr ⟨lM_v191, (List.forall_mem_cons.mpr ⟨sRI, (fun _ h => absurd h List.not_mem_nil)⟩)⟩)⟩)⟩)⟩)⟩)⟩)⟩)⟩)⟩)⟩
theorem kM_villageHere : ∀ q ∈ tM_villageHere, Bok "HerbWatersModel" prog_14_method_23_code q := (List.forall_mem_cons.mpr ⟨kM_villageHere_0, (fun _ h => absurd h List.not_mem_nil)⟩)
def mM_herbHere : Mt := (⟨"HerbWatersModel", "herbHere", "()I"⟩, prog_14_method_24_code, 1, some .int)
theorem ok_M_herbHere : Mok mM_herbHere := ⟨gtb_mem 1987 (by decide +kernel) rfl, gtb_mem 107 (by decide +kernel) rfl, by decide +kernel, by decide⟩
theorem lM_v195 : Snd "HerbWatersModel" (iCV7 195 11 mM_takes) := sCV7 _ rfl rfl ok_M_takes (gtb_mem 1990 (by decide +kernel) rfl) (gtb_mem 59 (by decide +kernel) rfl) (gtb_mem 1988 (by decide +kernel) rfl)
def bM_herbHere_0 : List Ir := [iLA0, (iBP 13), (iBP 9), (iBP 14), (iBP 20), iC0, iC0, iC0, (iCV7 195 11 mM_takes), (iIFeq (7) 22)]
def bM_herbHere_18 : List Ir := [iC0, (iGO (44) 63)]
def bM_herbHere_22 : List Ir := [iLA0, (iBP 18), (iBP 21), iC5, iC0, iC0, iC0, iC0, (iCV7 195 11 mM_takes), (iIFeq (7) 42)]
def bM_herbHere_38 : List Ir := [iC1, (iGO (24) 63)]
def bM_herbHere_42 : List Ir := [iLA0, (iBP 19), iC1, (iBP 7), iC5, iC0, iC0, iC0, (iCV7 195 11 mM_takes), (iIFeq (7) 62)]
def bM_herbHere_58 : List Ir := [iC2, (iGO (4) 63)]
def bM_herbHere_62 : List Ir := [iCm1]
def bM_herbHere_63 : List Ir := [iRI]
def tM_herbHere : Tb := [(0, bM_herbHere_0, 18), (18, bM_herbHere_18, 22), (22, bM_herbHere_22, 38), (38, bM_herbHere_38, 42), (42, bM_herbHere_42, 58), (58, bM_herbHere_58, 62), (62, bM_herbHere_62, 63), (63, bM_herbHere_63, 64)]
theorem fM_herbHere_0 : tbf tM_herbHere 0 = some (bM_herbHere_0, 18) := rfl
theorem fM_herbHere_18 : tbf tM_herbHere 18 = some (bM_herbHere_18, 22) := rfl
theorem fM_herbHere_22 : tbf tM_herbHere 22 = some (bM_herbHere_22, 38) := rfl
theorem fM_herbHere_38 : tbf tM_herbHere 38 = some (bM_herbHere_38, 42) := rfl
theorem fM_herbHere_42 : tbf tM_herbHere 42 = some (bM_herbHere_42, 58) := rfl
theorem fM_herbHere_58 : tbf tM_herbHere 58 = some (bM_herbHere_58, 62) := rfl
theorem fM_herbHere_62 : tbf tM_herbHere 62 = some (bM_herbHere_62, 63) := rfl
theorem fM_herbHere_63 : tbf tM_herbHere 63 = some (bM_herbHere_63, 64) := rfl
theorem kM_herbHere_0 : Bok "HerbWatersModel" prog_14_method_24_code (0, bM_herbHere_0, 18) := ⟨by decide +kernel, (List.forall_mem_cons.mpr ⟨sLA0, (List.forall_mem_cons.mpr ⟨sBP, (List.forall_mem_cons.mpr ⟨sBP, (List.forall_mem_cons.mpr ⟨sBP, (List.forall_mem_cons.mpr ⟨sBP, (List.forall_mem_cons.mpr ⟨sC0, (List.forall_mem_cons.mpr ⟨sC0, (List.forall_mem_cons.mpr ⟨sC0, (List.forall_mem_cons.mpr ⟨lM_v195, (List.forall_mem_cons.mpr ⟨sIFeq, (fun _ h => absurd h List.not_mem_nil)⟩)⟩)⟩)⟩)⟩)⟩)⟩)⟩)⟩)⟩)⟩
theorem kM_herbHere_18 : Bok "HerbWatersModel" prog_14_method_24_code (18, bM_herbHere_18, 22) := ⟨by decide +kernel, (List.forall_mem_cons.mpr ⟨sC0, (List.forall_mem_cons.mpr ⟨sGO, (fun _ h => absurd h List.not_mem_nil)⟩)⟩)⟩
theorem kM_herbHere_22 : Bok "HerbWatersModel" prog_14_method_24_code (22, bM_herbHere_22, 38) := ⟨by decide +kernel, (List.forall_mem_cons.mpr ⟨sLA0, (List.forall_mem_cons.mpr ⟨sBP, (List.forall_mem_cons.mpr ⟨sBP, (List.forall_mem_cons.mpr ⟨sC5, (List.forall_mem_cons.mpr ⟨sC0, (List.forall_mem_cons.mpr ⟨sC0, (List.forall_mem_cons.mpr ⟨sC0, (List.forall_mem_cons.mpr ⟨sC0, (List.forall_mem_cons.mpr ⟨lM_v195, (List.forall_mem_cons.mpr ⟨sIFeq, (fun _ h => absurd h List.not_mem_nil)⟩)⟩)⟩)⟩)⟩)⟩)⟩)⟩)⟩)⟩)⟩
theorem kM_herbHere_38 : Bok "HerbWatersModel" prog_14_method_24_code (38, bM_herbHere_38, 42) := ⟨by decide +kernel, (List.forall_mem_cons.mpr ⟨sC1, (List.forall_mem_cons.mpr ⟨sGO, (fun _ h => absurd h List.not_mem_nil)⟩)⟩)⟩
theorem kM_herbHere_42 : Bok "HerbWatersModel" prog_14_method_24_code (42, bM_herbHere_42, 58) := ⟨by decide +kernel, (List.forall_mem_cons.mpr ⟨sLA0, (List.forall_mem_cons.mpr ⟨sBP, (List.forall_mem_cons.mpr ⟨sC1, (List.forall_mem_cons.mpr ⟨sBP, (List.forall_mem_cons.mpr ⟨sC5, (List.forall_mem_cons.mpr ⟨sC0, (List.forall_mem_cons.mpr ⟨sC0, (List.forall_mem_cons.mpr ⟨sC0, (List.forall_mem_cons.mpr ⟨lM_v195, (List.forall_mem_cons.mpr ⟨sIFeq, (fun _ h => absurd h List.not_mem_nil)⟩)⟩)⟩)⟩)⟩)⟩)⟩)⟩)⟩)⟩)⟩
theorem kM_herbHere_58 : Bok "HerbWatersModel" prog_14_method_24_code (58, bM_herbHere_58, 62) := ⟨by decide +kernel, (List.forall_mem_cons.mpr ⟨sC2, (List.forall_mem_cons.mpr ⟨sGO, (fun _ h => absurd h List.not_mem_nil)⟩)⟩)⟩
theorem kM_herbHere_62 : Bok "HerbWatersModel" prog_14_method_24_code (62, bM_herbHere_62, 63) := ⟨by decide +kernel, (List.forall_mem_cons.mpr ⟨sCm1, (fun _ h => absurd h List.not_mem_nil)⟩)⟩
theorem kM_herbHere_63 : Bok "HerbWatersModel" prog_14_method_24_code (63, bM_herbHere_63, 64) := ⟨by decide +kernel, (List.forall_mem_cons.mpr ⟨sRI, (fun _ h => absurd h List.not_mem_nil)⟩)⟩
theorem kM_herbHere : ∀ q ∈ tM_herbHere, Bok "HerbWatersModel" prog_14_method_24_code q := (List.forall_mem_cons.mpr ⟨kM_herbHere_0, (List.forall_mem_cons.mpr ⟨kM_herbHere_18, (List.forall_mem_cons.mpr ⟨kM_herbHere_22, (List.forall_mem_cons.mpr ⟨kM_herbHere_38, (List.forall_mem_cons.mpr ⟨kM_herbHere_42, (List.forall_mem_cons.mpr ⟨kM_herbHere_58, (List.forall_mem_cons.mpr ⟨kM_herbHere_62, (List.forall_mem_cons.mpr ⟨kM_herbHere_63, (fun _ h => absurd h List.not_mem_nil)⟩)⟩)⟩)⟩)⟩)⟩)⟩)⟩)
def mM_partsFrom : Mt := (⟨"HerbWatersModel", "partsFrom", "(I)I"⟩, prog_14_method_25_code, 4, some .int)
theorem ok_M_partsFrom : Mok mM_partsFrom := ⟨gtb_mem 1979 (by decide +kernel) rfl, gtb_mem 107 (by decide +kernel) rfl, by decide +kernel, by decide⟩
theorem lM_g34 : Snd "HerbWatersModel" (iGR 34 11 15) := sGR _ rfl (gtb_mem 1738 (by decide +kernel) rfl)
def bM_partsFrom_0 : List Ir := [iLA0, (iGR 20 11 11), iC2, iIALD, iLI1, (iICne (12) 19)]
def bM_partsFrom_10 : List Ir := [iLA0, (iGR 20 11 11), iC3, iIALD, (iGO (4) 20)]
def bM_partsFrom_19 : List Ir := [iC0]
def bM_partsFrom_20 : List Ir := [iSI2, iC0, iSI3]
def bM_partsFrom_23 : List Ir := [iLI3, iLA0, (iGR 20 11 11), iC1, iIALD, (iICge (36) 66)]
def bM_partsFrom_33 : List Ir := [iLI2, iLA0, (iGR 34 11 15), iLI3, iAALD107, iC0, iIALD, iLI1, (iICne (14) 57)]
def bM_partsFrom_46 : List Ir := [iLA0, (iGR 34 11 15), iLI3, iAALD107, iC2, iIALD, (iGO (4) 58)]
def bM_partsFrom_57 : List Ir := [iC0]
def bM_partsFrom_58 : List Ir := [iADD, iSI2, (iINC3 1), (iGO (-40) 23)]
def bM_partsFrom_66 : List Ir := [iLI2, iRI]
def tM_partsFrom : Tb := [(0, bM_partsFrom_0, 10), (10, bM_partsFrom_10, 19), (19, bM_partsFrom_19, 20), (20, bM_partsFrom_20, 23), (23, bM_partsFrom_23, 33), (33, bM_partsFrom_33, 46), (46, bM_partsFrom_46, 57), (57, bM_partsFrom_57, 58), (58, bM_partsFrom_58, 66), (66, bM_partsFrom_66, 68)]
theorem fM_partsFrom_0 : tbf tM_partsFrom 0 = some (bM_partsFrom_0, 10) := rfl
theorem fM_partsFrom_10 : tbf tM_partsFrom 10 = some (bM_partsFrom_10, 19) := rfl
theorem fM_partsFrom_19 : tbf tM_partsFrom 19 = some (bM_partsFrom_19, 20) := rfl
theorem fM_partsFrom_20 : tbf tM_partsFrom 20 = some (bM_partsFrom_20, 23) := rfl
theorem fM_partsFrom_23 : tbf tM_partsFrom 23 = some (bM_partsFrom_23, 33) := rfl
theorem fM_partsFrom_33 : tbf tM_partsFrom 33 = some (bM_partsFrom_33, 46) := rfl
theorem fM_partsFrom_46 : tbf tM_partsFrom 46 = some (bM_partsFrom_46, 57) := rfl
theorem fM_partsFrom_57 : tbf tM_partsFrom 57 = some (bM_partsFrom_57, 58) := rfl
theorem fM_partsFrom_58 : tbf tM_partsFrom 58 = some (bM_partsFrom_58, 66) := rfl
theorem fM_partsFrom_66 : tbf tM_partsFrom 66 = some (bM_partsFrom_66, 68) := rfl
theorem kM_partsFrom_0 : Bok "HerbWatersModel" prog_14_method_25_code (0, bM_partsFrom_0, 10) := ⟨by decide +kernel, (List.forall_mem_cons.mpr ⟨sLA0, (List.forall_mem_cons.mpr ⟨lM_g20, (List.forall_mem_cons.mpr ⟨sC2, (List.forall_mem_cons.mpr ⟨sIALD, (List.forall_mem_cons.mpr ⟨sLI1, (List.forall_mem_cons.mpr ⟨sICne, (fun _ h => absurd h List.not_mem_nil)⟩)⟩)⟩)⟩)⟩)⟩)⟩
theorem kM_partsFrom_10 : Bok "HerbWatersModel" prog_14_method_25_code (10, bM_partsFrom_10, 19) := ⟨by decide +kernel, (List.forall_mem_cons.mpr ⟨sLA0, (List.forall_mem_cons.mpr ⟨lM_g20, (List.forall_mem_cons.mpr ⟨sC3, (List.forall_mem_cons.mpr ⟨sIALD, (List.forall_mem_cons.mpr ⟨sGO, (fun _ h => absurd h List.not_mem_nil)⟩)⟩)⟩)⟩)⟩)⟩
theorem kM_partsFrom_19 : Bok "HerbWatersModel" prog_14_method_25_code (19, bM_partsFrom_19, 20) := ⟨by decide +kernel, (List.forall_mem_cons.mpr ⟨sC0, (fun _ h => absurd h List.not_mem_nil)⟩)⟩
theorem kM_partsFrom_20 : Bok "HerbWatersModel" prog_14_method_25_code (20, bM_partsFrom_20, 23) := ⟨by decide +kernel, (List.forall_mem_cons.mpr ⟨sSI2, (List.forall_mem_cons.mpr ⟨sC0, (List.forall_mem_cons.mpr ⟨sSI3, (fun _ h => absurd h List.not_mem_nil)⟩)⟩)⟩)⟩
theorem kM_partsFrom_23 : Bok "HerbWatersModel" prog_14_method_25_code (23, bM_partsFrom_23, 33) := ⟨by decide +kernel, (List.forall_mem_cons.mpr ⟨sLI3, (List.forall_mem_cons.mpr ⟨sLA0, (List.forall_mem_cons.mpr ⟨lM_g20, (List.forall_mem_cons.mpr ⟨sC1, (List.forall_mem_cons.mpr ⟨sIALD, (List.forall_mem_cons.mpr ⟨sICge, (fun _ h => absurd h List.not_mem_nil)⟩)⟩)⟩)⟩)⟩)⟩)⟩
theorem kM_partsFrom_33 : Bok "HerbWatersModel" prog_14_method_25_code (33, bM_partsFrom_33, 46) := ⟨by decide +kernel, (List.forall_mem_cons.mpr ⟨sLI2, (List.forall_mem_cons.mpr ⟨sLA0, (List.forall_mem_cons.mpr ⟨lM_g34, (List.forall_mem_cons.mpr ⟨sLI3, (List.forall_mem_cons.mpr ⟨sAALD107, (List.forall_mem_cons.mpr ⟨sC0, (List.forall_mem_cons.mpr ⟨sIALD, (List.forall_mem_cons.mpr ⟨sLI1, (List.forall_mem_cons.mpr ⟨sICne, (fun _ h => absurd h List.not_mem_nil)⟩)⟩)⟩)⟩)⟩)⟩)⟩)⟩)⟩)⟩
theorem kM_partsFrom_46 : Bok "HerbWatersModel" prog_14_method_25_code (46, bM_partsFrom_46, 57) := ⟨by decide +kernel, (List.forall_mem_cons.mpr ⟨sLA0, (List.forall_mem_cons.mpr ⟨lM_g34, (List.forall_mem_cons.mpr ⟨sLI3, (List.forall_mem_cons.mpr ⟨sAALD107, (List.forall_mem_cons.mpr ⟨sC2, (List.forall_mem_cons.mpr ⟨sIALD, (List.forall_mem_cons.mpr ⟨sGO, (fun _ h => absurd h List.not_mem_nil)⟩)⟩)⟩)⟩)⟩)⟩)⟩)⟩
theorem kM_partsFrom_57 : Bok "HerbWatersModel" prog_14_method_25_code (57, bM_partsFrom_57, 58) := ⟨by decide +kernel, (List.forall_mem_cons.mpr ⟨sC0, (fun _ h => absurd h List.not_mem_nil)⟩)⟩
theorem kM_partsFrom_58 : Bok "HerbWatersModel" prog_14_method_25_code (58, bM_partsFrom_58, 66) := ⟨by decide +kernel, (List.forall_mem_cons.mpr ⟨sADD, (List.forall_mem_cons.mpr ⟨sSI2, (List.forall_mem_cons.mpr ⟨sINC3, (List.forall_mem_cons.mpr ⟨sGO, (fun _ h => absurd h List.not_mem_nil)⟩)⟩)⟩)⟩)⟩
theorem kM_partsFrom_66 : Bok "HerbWatersModel" prog_14_method_25_code (66, bM_partsFrom_66, 68) := ⟨by decide +kernel, (List.forall_mem_cons.mpr ⟨sLI2, (List.forall_mem_cons.mpr ⟨sRI, (fun _ h => absurd h List.not_mem_nil)⟩)⟩)⟩
theorem kM_partsFrom : ∀ q ∈ tM_partsFrom, Bok "HerbWatersModel" prog_14_method_25_code q := (List.forall_mem_cons.mpr ⟨kM_partsFrom_0, (List.forall_mem_cons.mpr ⟨kM_partsFrom_10, (List.forall_mem_cons.mpr ⟨kM_partsFrom_19, (List.forall_mem_cons.mpr ⟨kM_partsFrom_20, (List.forall_mem_cons.mpr ⟨kM_partsFrom_23, (List.forall_mem_cons.mpr ⟨kM_partsFrom_33, (List.forall_mem_cons.mpr ⟨kM_partsFrom_46, (List.forall_mem_cons.mpr ⟨kM_partsFrom_57, (List.forall_mem_cons.mpr ⟨kM_partsFrom_58, (List.forall_mem_cons.mpr ⟨kM_partsFrom_66, (fun _ h => absurd h List.not_mem_nil)⟩)⟩)⟩)⟩)⟩)⟩)⟩)⟩)⟩)⟩)
def mM_partsHere : Mt := (⟨"HerbWatersModel", "partsHere", "(II)I"⟩, prog_14_method_26_code, 5, some .int)
theorem ok_M_partsHere : Mok mM_partsHere := ⟨gtb_mem 1983 (by decide +kernel) rfl, gtb_mem 107 (by decide +kernel) rfl, by decide +kernel, by decide⟩
def bM_partsHere_0 : List Ir := [iLA0, (iGI 139 11 5), (iIFeq (5) 9)]
def bM_partsHere_7 : List Ir := [iC0, iRI]
def bM_partsHere_9 : List Ir := [iLA0, (iCV0 145 11 mM_blanks), iLA0, (iGI 132 11 4), iSI3, iLA0, iLI1, (iBP 8), (iCV2 191 11 mM_number), iSI4, iLA0, (iGI 139 11 5), (iIFne (18) 49)]
def bM_partsHere_34 : List Ir := [iLI2, iLI4, iADD, (iBP 8), (iICle (9) 49)]
def bM_partsHere_43 : List Ir := [iLA0, iC2, iLI3, (iCV2 152 11 mM_wrong)]
def bM_partsHere_49 : List Ir := [iLI4, iRI]
def tM_partsHere : Tb := [(0, bM_partsHere_0, 7), (7, bM_partsHere_7, 9), (9, bM_partsHere_9, 34), (34, bM_partsHere_34, 43), (43, bM_partsHere_43, 49), (49, bM_partsHere_49, 52)]
theorem fM_partsHere_0 : tbf tM_partsHere 0 = some (bM_partsHere_0, 7) := rfl
theorem fM_partsHere_7 : tbf tM_partsHere 7 = some (bM_partsHere_7, 9) := rfl
theorem fM_partsHere_9 : tbf tM_partsHere 9 = some (bM_partsHere_9, 34) := rfl
theorem fM_partsHere_34 : tbf tM_partsHere 34 = some (bM_partsHere_34, 43) := rfl
theorem fM_partsHere_43 : tbf tM_partsHere 43 = some (bM_partsHere_43, 49) := rfl
theorem fM_partsHere_49 : tbf tM_partsHere 49 = some (bM_partsHere_49, 52) := rfl
theorem kM_partsHere_0 : Bok "HerbWatersModel" prog_14_method_26_code (0, bM_partsHere_0, 7) := ⟨by decide +kernel, (List.forall_mem_cons.mpr ⟨sLA0, (List.forall_mem_cons.mpr ⟨lM_g139, (List.forall_mem_cons.mpr ⟨sIFeq, (fun _ h => absurd h List.not_mem_nil)⟩)⟩)⟩)⟩
theorem kM_partsHere_7 : Bok "HerbWatersModel" prog_14_method_26_code (7, bM_partsHere_7, 9) := ⟨by decide +kernel, (List.forall_mem_cons.mpr ⟨sC0, (List.forall_mem_cons.mpr ⟨sRI, (fun _ h => absurd h List.not_mem_nil)⟩)⟩)⟩
theorem kM_partsHere_9 : Bok "HerbWatersModel" prog_14_method_26_code (9, bM_partsHere_9, 34) := ⟨by decide +kernel, (List.forall_mem_cons.mpr ⟨sLA0, (List.forall_mem_cons.mpr ⟨lM_v145, (List.forall_mem_cons.mpr ⟨sLA0, (List.forall_mem_cons.mpr ⟨lM_g132, (List.forall_mem_cons.mpr ⟨sSI3, (List.forall_mem_cons.mpr ⟨sLA0, (List.forall_mem_cons.mpr ⟨sLI1, (List.forall_mem_cons.mpr ⟨sBP, (List.forall_mem_cons.mpr ⟨lM_v191, (List.forall_mem_cons.mpr ⟨sSI4, (List.forall_mem_cons.mpr ⟨sLA0, (List.forall_mem_cons.mpr ⟨lM_g139, (List.forall_mem_cons.mpr ⟨sIFne, (fun _ h => absurd h List.not_mem_nil)⟩)⟩)⟩)⟩)⟩)⟩)⟩)⟩)⟩)⟩)⟩)⟩)⟩)⟩
theorem kM_partsHere_34 : Bok "HerbWatersModel" prog_14_method_26_code (34, bM_partsHere_34, 43) := ⟨by decide +kernel, (List.forall_mem_cons.mpr ⟨sLI2, (List.forall_mem_cons.mpr ⟨sLI4, (List.forall_mem_cons.mpr ⟨sADD, (List.forall_mem_cons.mpr ⟨sBP, (List.forall_mem_cons.mpr ⟨sICle, (fun _ h => absurd h List.not_mem_nil)⟩)⟩)⟩)⟩)⟩)⟩
theorem kM_partsHere_43 : Bok "HerbWatersModel" prog_14_method_26_code (43, bM_partsHere_43, 49) := ⟨by decide +kernel, (List.forall_mem_cons.mpr ⟨sLA0, (List.forall_mem_cons.mpr ⟨sC2, (List.forall_mem_cons.mpr ⟨sLI3, (List.forall_mem_cons.mpr ⟨lM_v152, (fun _ h => absurd h List.not_mem_nil)⟩)⟩)⟩)⟩)⟩
theorem kM_partsHere_49 : Bok "HerbWatersModel" prog_14_method_26_code (49, bM_partsHere_49, 52) := ⟨by decide +kernel, (List.forall_mem_cons.mpr ⟨sLI4, (List.forall_mem_cons.mpr ⟨sRI, (fun _ h => absurd h List.not_mem_nil)⟩)⟩)⟩
theorem kM_partsHere : ∀ q ∈ tM_partsHere, Bok "HerbWatersModel" prog_14_method_26_code q := (List.forall_mem_cons.mpr ⟨kM_partsHere_0, (List.forall_mem_cons.mpr ⟨kM_partsHere_7, (List.forall_mem_cons.mpr ⟨kM_partsHere_9, (List.forall_mem_cons.mpr ⟨kM_partsHere_34, (List.forall_mem_cons.mpr ⟨kM_partsHere_43, (List.forall_mem_cons.mpr ⟨kM_partsHere_49, (fun _ h => absurd h List.not_mem_nil)⟩)⟩)⟩)⟩)⟩)⟩)
def mM_clause : Mt := (⟨"HerbWatersModel", "clause", "()V"⟩, prog_14_method_27_code, 4, none)
theorem ok_M_clause : Mok mM_clause := ⟨gtb_mem 1930 (by decide +kernel) rfl, gtb_mem 107 (by decide +kernel) rfl, by decide +kernel, by decide⟩
theorem lM_v198 : Snd "HerbWatersModel" (iCV0 198 11 mM_kindHere) := sCV0 _ rfl rfl ok_M_kindHere (gtb_mem 1933 (by decide +kernel) rfl) (gtb_mem 48 (by decide +kernel) rfl) (gtb_mem 1931 (by decide +kernel) rfl)
theorem lM_g185 : Snd "HerbWatersModel" (iGI 185 11 7) := sGI _ rfl (gtb_mem 1730 (by decide +kernel) rfl)
theorem lM_g28 : Snd "HerbWatersModel" (iGR 28 11 13) := sGR _ rfl (gtb_mem 1736 (by decide +kernel) rfl)
theorem lM_v202 : Snd "HerbWatersModel" (iCV0 202 11 mM_villageHere) := sCV0 _ rfl rfl ok_M_villageHere (gtb_mem 1970 (by decide +kernel) rfl) (gtb_mem 54 (by decide +kernel) rfl) (gtb_mem 1968 (by decide +kernel) rfl)
def mM_ofVillage : Mt := (⟨"HerbWatersModel", "ofVillage", "(II)V"⟩, prog_14_method_28_code, 7, none)
theorem ok_M_ofVillage : Mok mM_ofVillage := ⟨gtb_mem 1975 (by decide +kernel) rfl, gtb_mem 107 (by decide +kernel) rfl, by decide +kernel, by decide⟩
theorem lM_v205 : Snd "HerbWatersModel" (iCV2 205 11 mM_ofVillage) := sCV2 _ rfl rfl ok_M_ofVillage (gtb_mem 1974 (by decide +kernel) rfl) (gtb_mem 55 (by decide +kernel) rfl) (gtb_mem 1972 (by decide +kernel) rfl)
theorem lM_v208 : Snd "HerbWatersModel" (iCV1 208 11 mM_sign) := sCV1 _ rfl rfl ok_M_sign (gtb_mem 1994 (by decide +kernel) rfl) (gtb_mem 60 (by decide +kernel) rfl) (gtb_mem 1992 (by decide +kernel) rfl)
def bM_clause_0 : List Ir := [iLA0, (iCV0 198 11 mM_kindHere), iSI1, iLI1, iCm1, (iICne (15) 22)]
def bM_clause_10 : List Ir := [iLA0, iC1, iLA0, (iGI 132 11 4), (iCV2 152 11 mM_wrong), (iGO (79) 98)]
def bM_clause_22 : List Ir := [iLA0, (iGI 185 11 7), (iBP 60), (iICeq (34) 62)]
def bM_clause_31 : List Ir := [iLI1, (iIFne (14) 46)]
def bM_clause_35 : List Ir := [iLA0, (iGR 20 11 11), iC0, iIALD, (iBP 9), (iICeq (19) 62)]
def bM_clause_46 : List Ir := [iLI1, iC1, (iICne (26) 74)]
def bM_clause_51 : List Ir := [iLA0, (iGR 20 11 11), iC1, iIALD, (iBP 20), (iICne (15) 74)]
def bM_clause_62 : List Ir := [iLA0, iC3, iLA0, (iGI 132 11 4), (iCV2 152 11 mM_wrong), (iGO (27) 98)]
def bM_clause_74 : List Ir := [iLI1, iC2, (iICne (22) 98)]
def bM_clause_79 : List Ir := [iLA0, (iGR 20 11 11), iC2, iIALD, iCm1, (iICeq (12) 98)]
def bM_clause_89 : List Ir := [iLA0, iC4, iLA0, (iGI 132 11 4), (iCV2 152 11 mM_wrong)]
def bM_clause_98 : List Ir := [iLA0, (iGI 139 11 5), (iIFeq (4) 106)]
def bM_clause_105 : List Ir := [iRV]
def bM_clause_106 : List Ir := [iLA0, (iCV0 182 11 mM_skipWord), iLA0, iDUPr, (iGI 185 11 7), iC1, iADD, (iPI 185 11 7), iLI1, (iIFne (67) 188)]
def bM_clause_124 : List Ir := [iLA0, (iGR 28 11 13), iLA0, (iGR 20 11 11), iC0, iIALD, iAALD107, iSA2, iC0, iSI3]
def bM_clause_138 : List Ir := [iLI3, (iBP 8), (iICge (13) 154)]
def bM_clause_144 : List Ir := [iLA2, iLI3, iC0, iIAST, (iINC3 1), (iGO (-13) 138)]
def bM_clause_154 : List Ir := [iLA2, iC0, iLA0, iC0, (iBP 99), (iCV2 191 11 mM_number), iIAST, iLA0, (iGR 20 11 11), iC0, iDUP2, iIALD, iLA0, (iGI 139 11 5), (iIFne (7) 182)]
def bM_clause_178 : List Ir := [iC1, (iGO (4) 183)]
def bM_clause_182 : List Ir := [iC0]
def bM_clause_183 : List Ir := [iADD, iIAST, (iGO (33) 218)]
def bM_clause_188 : List Ir := [iLI1, iC4, (iICne (19) 209)]
def bM_clause_193 : List Ir := [iLA0, (iGR 20 11 11), iC4, iLA0, iC0, (iBP 60), (iCV2 191 11 mM_number), iIAST, (iGO (12) 218)]
def bM_clause_209 : List Ir := [iLA0, iLI1, iLA0, (iCV0 202 11 mM_villageHere), (iCV2 205 11 mM_ofVillage)]
def bM_clause_218 : List Ir := [iLA0, (iBP 59), (iCV1 208 11 mM_sign), iRV]
def tM_clause : Tb := [(0, bM_clause_0, 10), (10, bM_clause_10, 22), (22, bM_clause_22, 31), (31, bM_clause_31, 35), (35, bM_clause_35, 46), (46, bM_clause_46, 51), (51, bM_clause_51, 62), (62, bM_clause_62, 74), (74, bM_clause_74, 79), (79, bM_clause_79, 89), (89, bM_clause_89, 98), (98, bM_clause_98, 105), (105, bM_clause_105, 106), (106, bM_clause_106, 124), (124, bM_clause_124, 138), (138, bM_clause_138, 144), (144, bM_clause_144, 154), (154, bM_clause_154, 178), (178, bM_clause_178, 182), (182, bM_clause_182, 183), (183, bM_clause_183, 188), (188, bM_clause_188, 193), (193, bM_clause_193, 209), (209, bM_clause_209, 218), (218, bM_clause_218, 225)]
theorem fM_clause_0 : tbf tM_clause 0 = some (bM_clause_0, 10) := rfl
theorem fM_clause_10 : tbf tM_clause 10 = some (bM_clause_10, 22) := rfl
theorem fM_clause_22 : tbf tM_clause 22 = some (bM_clause_22, 31) := rfl
theorem fM_clause_31 : tbf tM_clause 31 = some (bM_clause_31, 35) := rfl
theorem fM_clause_35 : tbf tM_clause 35 = some (bM_clause_35, 46) := rfl
theorem fM_clause_46 : tbf tM_clause 46 = some (bM_clause_46, 51) := rfl
theorem fM_clause_51 : tbf tM_clause 51 = some (bM_clause_51, 62) := rfl
theorem fM_clause_62 : tbf tM_clause 62 = some (bM_clause_62, 74) := rfl
theorem fM_clause_74 : tbf tM_clause 74 = some (bM_clause_74, 79) := rfl
theorem fM_clause_79 : tbf tM_clause 79 = some (bM_clause_79, 89) := rfl
theorem fM_clause_89 : tbf tM_clause 89 = some (bM_clause_89, 98) := rfl
theorem fM_clause_98 : tbf tM_clause 98 = some (bM_clause_98, 105) := rfl
theorem fM_clause_105 : tbf tM_clause 105 = some (bM_clause_105, 106) := rfl
theorem fM_clause_106 : tbf tM_clause 106 = some (bM_clause_106, 124) := rfl
theorem fM_clause_124 : tbf tM_clause 124 = some (bM_clause_124, 138) := rfl
theorem fM_clause_138 : tbf tM_clause 138 = some (bM_clause_138, 144) := rfl
theorem fM_clause_144 : tbf tM_clause 144 = some (bM_clause_144, 154) := rfl
theorem fM_clause_154 : tbf tM_clause 154 = some (bM_clause_154, 178) := rfl
theorem fM_clause_178 : tbf tM_clause 178 = some (bM_clause_178, 182) := rfl
theorem fM_clause_182 : tbf tM_clause 182 = some (bM_clause_182, 183) := rfl
theorem fM_clause_183 : tbf tM_clause 183 = some (bM_clause_183, 188) := rfl
theorem fM_clause_188 : tbf tM_clause 188 = some (bM_clause_188, 193) := rfl
theorem fM_clause_193 : tbf tM_clause 193 = some (bM_clause_193, 209) := rfl
theorem fM_clause_209 : tbf tM_clause 209 = some (bM_clause_209, 218) := rfl
theorem fM_clause_218 : tbf tM_clause 218 = some (bM_clause_218, 225) := rfl
theorem kM_clause_0 : Bok "HerbWatersModel" prog_14_method_27_code (0, bM_clause_0, 10) := ⟨by decide +kernel, (List.forall_mem_cons.mpr ⟨sLA0, (List.forall_mem_cons.mpr ⟨lM_v198, (List.forall_mem_cons.mpr ⟨sSI1, (List.forall_mem_cons.mpr ⟨sLI1, (List.forall_mem_cons.mpr ⟨sCm1, (List.forall_mem_cons.mpr ⟨sICne, (fun _ h => absurd h List.not_mem_nil)⟩)⟩)⟩)⟩)⟩)⟩)⟩
theorem kM_clause_10 : Bok "HerbWatersModel" prog_14_method_27_code (10, bM_clause_10, 22) := ⟨by decide +kernel, (List.forall_mem_cons.mpr ⟨sLA0, (List.forall_mem_cons.mpr ⟨sC1, (List.forall_mem_cons.mpr ⟨sLA0, (List.forall_mem_cons.mpr ⟨lM_g132, (List.forall_mem_cons.mpr ⟨lM_v152, (List.forall_mem_cons.mpr ⟨sGO, (fun _ h => absurd h List.not_mem_nil)⟩)⟩)⟩)⟩)⟩)⟩)⟩
theorem kM_clause_22 : Bok "HerbWatersModel" prog_14_method_27_code (22, bM_clause_22, 31) := ⟨by decide +kernel, (List.forall_mem_cons.mpr ⟨sLA0, (List.forall_mem_cons.mpr ⟨lM_g185, (List.forall_mem_cons.mpr ⟨sBP, (List.forall_mem_cons.mpr ⟨sICeq, (fun _ h => absurd h List.not_mem_nil)⟩)⟩)⟩)⟩)⟩
theorem kM_clause_31 : Bok "HerbWatersModel" prog_14_method_27_code (31, bM_clause_31, 35) := ⟨by decide +kernel, (List.forall_mem_cons.mpr ⟨sLI1, (List.forall_mem_cons.mpr ⟨sIFne, (fun _ h => absurd h List.not_mem_nil)⟩)⟩)⟩
theorem kM_clause_35 : Bok "HerbWatersModel" prog_14_method_27_code (35, bM_clause_35, 46) := ⟨by decide +kernel, (List.forall_mem_cons.mpr ⟨sLA0, (List.forall_mem_cons.mpr ⟨lM_g20, (List.forall_mem_cons.mpr ⟨sC0, (List.forall_mem_cons.mpr ⟨sIALD, (List.forall_mem_cons.mpr ⟨sBP, (List.forall_mem_cons.mpr ⟨sICeq, (fun _ h => absurd h List.not_mem_nil)⟩)⟩)⟩)⟩)⟩)⟩)⟩
theorem kM_clause_46 : Bok "HerbWatersModel" prog_14_method_27_code (46, bM_clause_46, 51) := ⟨by decide +kernel, (List.forall_mem_cons.mpr ⟨sLI1, (List.forall_mem_cons.mpr ⟨sC1, (List.forall_mem_cons.mpr ⟨sICne, (fun _ h => absurd h List.not_mem_nil)⟩)⟩)⟩)⟩
theorem kM_clause_51 : Bok "HerbWatersModel" prog_14_method_27_code (51, bM_clause_51, 62) := ⟨by decide +kernel, (List.forall_mem_cons.mpr ⟨sLA0, (List.forall_mem_cons.mpr ⟨lM_g20, (List.forall_mem_cons.mpr ⟨sC1, (List.forall_mem_cons.mpr ⟨sIALD, (List.forall_mem_cons.mpr ⟨sBP, (List.forall_mem_cons.mpr ⟨sICne, (fun _ h => absurd h List.not_mem_nil)⟩)⟩)⟩)⟩)⟩)⟩)⟩
theorem kM_clause_62 : Bok "HerbWatersModel" prog_14_method_27_code (62, bM_clause_62, 74) := ⟨by decide +kernel, (List.forall_mem_cons.mpr ⟨sLA0, (List.forall_mem_cons.mpr ⟨sC3, (List.forall_mem_cons.mpr ⟨sLA0, (List.forall_mem_cons.mpr ⟨lM_g132, (List.forall_mem_cons.mpr ⟨lM_v152, (List.forall_mem_cons.mpr ⟨sGO, (fun _ h => absurd h List.not_mem_nil)⟩)⟩)⟩)⟩)⟩)⟩)⟩
theorem kM_clause_74 : Bok "HerbWatersModel" prog_14_method_27_code (74, bM_clause_74, 79) := ⟨by decide +kernel, (List.forall_mem_cons.mpr ⟨sLI1, (List.forall_mem_cons.mpr ⟨sC2, (List.forall_mem_cons.mpr ⟨sICne, (fun _ h => absurd h List.not_mem_nil)⟩)⟩)⟩)⟩
theorem kM_clause_79 : Bok "HerbWatersModel" prog_14_method_27_code (79, bM_clause_79, 89) := ⟨by decide +kernel, (List.forall_mem_cons.mpr ⟨sLA0, (List.forall_mem_cons.mpr ⟨lM_g20, (List.forall_mem_cons.mpr ⟨sC2, (List.forall_mem_cons.mpr ⟨sIALD, (List.forall_mem_cons.mpr ⟨sCm1, (List.forall_mem_cons.mpr ⟨sICeq, (fun _ h => absurd h List.not_mem_nil)⟩)⟩)⟩)⟩)⟩)⟩)⟩
theorem kM_clause_89 : Bok "HerbWatersModel" prog_14_method_27_code (89, bM_clause_89, 98) := ⟨by decide +kernel, (List.forall_mem_cons.mpr ⟨sLA0, (List.forall_mem_cons.mpr ⟨sC4, (List.forall_mem_cons.mpr ⟨sLA0, (List.forall_mem_cons.mpr ⟨lM_g132, (List.forall_mem_cons.mpr ⟨lM_v152, (fun _ h => absurd h List.not_mem_nil)⟩)⟩)⟩)⟩)⟩)⟩
theorem kM_clause_98 : Bok "HerbWatersModel" prog_14_method_27_code (98, bM_clause_98, 105) := ⟨by decide +kernel, (List.forall_mem_cons.mpr ⟨sLA0, (List.forall_mem_cons.mpr ⟨lM_g139, (List.forall_mem_cons.mpr ⟨sIFeq, (fun _ h => absurd h List.not_mem_nil)⟩)⟩)⟩)⟩
theorem kM_clause_105 : Bok "HerbWatersModel" prog_14_method_27_code (105, bM_clause_105, 106) := ⟨by decide +kernel, (List.forall_mem_cons.mpr ⟨sRV, (fun _ h => absurd h List.not_mem_nil)⟩)⟩
theorem kM_clause_106 : Bok "HerbWatersModel" prog_14_method_27_code (106, bM_clause_106, 124) := ⟨by decide +kernel, (List.forall_mem_cons.mpr ⟨sLA0, (List.forall_mem_cons.mpr ⟨lM_v182, (List.forall_mem_cons.mpr ⟨sLA0, (List.forall_mem_cons.mpr ⟨sDUPr, (List.forall_mem_cons.mpr ⟨lM_g185, (List.forall_mem_cons.mpr ⟨sC1, (List.forall_mem_cons.mpr ⟨sADD, (List.forall_mem_cons.mpr ⟨lM_p185, (List.forall_mem_cons.mpr ⟨sLI1, (List.forall_mem_cons.mpr ⟨sIFne, (fun _ h => absurd h List.not_mem_nil)⟩)⟩)⟩)⟩)⟩)⟩)⟩)⟩)⟩)⟩)⟩
theorem kM_clause_124 : Bok "HerbWatersModel" prog_14_method_27_code (124, bM_clause_124, 138) := ⟨by decide +kernel, (List.forall_mem_cons.mpr ⟨sLA0, (List.forall_mem_cons.mpr ⟨lM_g28, (List.forall_mem_cons.mpr ⟨sLA0, (List.forall_mem_cons.mpr ⟨lM_g20, (List.forall_mem_cons.mpr ⟨sC0, (List.forall_mem_cons.mpr ⟨sIALD, (List.forall_mem_cons.mpr ⟨sAALD107, (List.forall_mem_cons.mpr ⟨sSA2, (List.forall_mem_cons.mpr ⟨sC0, (List.forall_mem_cons.mpr ⟨sSI3, (fun _ h => absurd h List.not_mem_nil)⟩)⟩)⟩)⟩)⟩)⟩)⟩)⟩)⟩)⟩)⟩
theorem kM_clause_138 : Bok "HerbWatersModel" prog_14_method_27_code (138, bM_clause_138, 144) := ⟨by decide +kernel, (List.forall_mem_cons.mpr ⟨sLI3, (List.forall_mem_cons.mpr ⟨sBP, (List.forall_mem_cons.mpr ⟨sICge, (fun _ h => absurd h List.not_mem_nil)⟩)⟩)⟩)⟩
theorem kM_clause_144 : Bok "HerbWatersModel" prog_14_method_27_code (144, bM_clause_144, 154) := ⟨by decide +kernel, (List.forall_mem_cons.mpr ⟨sLA2, (List.forall_mem_cons.mpr ⟨sLI3, (List.forall_mem_cons.mpr ⟨sC0, (List.forall_mem_cons.mpr ⟨sIAST, (List.forall_mem_cons.mpr ⟨sINC3, (List.forall_mem_cons.mpr ⟨sGO, (fun _ h => absurd h List.not_mem_nil)⟩)⟩)⟩)⟩)⟩)⟩)⟩
theorem kM_clause_154 : Bok "HerbWatersModel" prog_14_method_27_code (154, bM_clause_154, 178) := ⟨by decide +kernel, (List.forall_mem_cons.mpr ⟨sLA2, (List.forall_mem_cons.mpr ⟨sC0, (List.forall_mem_cons.mpr ⟨sLA0, (List.forall_mem_cons.mpr ⟨sC0, (List.forall_mem_cons.mpr ⟨sBP, (List.forall_mem_cons.mpr ⟨lM_v191, (List.forall_mem_cons.mpr ⟨sIAST, (List.forall_mem_cons.mpr ⟨sLA0, (List.forall_mem_cons.mpr ⟨lM_g20, (List.forall_mem_cons.mpr ⟨sC0, (List.forall_mem_cons.mpr ⟨sDUP2, (List.forall_mem_cons.mpr ⟨sIALD, (List.forall_mem_cons.mpr ⟨sLA0, (List.forall_mem_cons.mpr ⟨lM_g139, (List.forall_mem_cons.mpr ⟨sIFne, (fun _ h => absurd h List.not_mem_nil)⟩)⟩)⟩)⟩)⟩)⟩)⟩)⟩)⟩)⟩)⟩)⟩)⟩)⟩)⟩)⟩
theorem kM_clause_178 : Bok "HerbWatersModel" prog_14_method_27_code (178, bM_clause_178, 182) := ⟨by decide +kernel, (List.forall_mem_cons.mpr ⟨sC1, (List.forall_mem_cons.mpr ⟨sGO, (fun _ h => absurd h List.not_mem_nil)⟩)⟩)⟩
theorem kM_clause_182 : Bok "HerbWatersModel" prog_14_method_27_code (182, bM_clause_182, 183) := ⟨by decide +kernel, (List.forall_mem_cons.mpr ⟨sC0, (fun _ h => absurd h List.not_mem_nil)⟩)⟩
theorem kM_clause_183 : Bok "HerbWatersModel" prog_14_method_27_code (183, bM_clause_183, 188) := ⟨by decide +kernel, (List.forall_mem_cons.mpr ⟨sADD, (List.forall_mem_cons.mpr ⟨sIAST, (List.forall_mem_cons.mpr ⟨sGO, (fun _ h => absurd h List.not_mem_nil)⟩)⟩)⟩)⟩
theorem kM_clause_188 : Bok "HerbWatersModel" prog_14_method_27_code (188, bM_clause_188, 193) := ⟨by decide +kernel, (List.forall_mem_cons.mpr ⟨sLI1, (List.forall_mem_cons.mpr ⟨sC4, (List.forall_mem_cons.mpr ⟨sICne, (fun _ h => absurd h List.not_mem_nil)⟩)⟩)⟩)⟩
theorem kM_clause_193 : Bok "HerbWatersModel" prog_14_method_27_code (193, bM_clause_193, 209) := ⟨by decide +kernel, (List.forall_mem_cons.mpr ⟨sLA0, (List.forall_mem_cons.mpr ⟨lM_g20, (List.forall_mem_cons.mpr ⟨sC4, (List.forall_mem_cons.mpr ⟨sLA0, (List.forall_mem_cons.mpr ⟨sC0, (List.forall_mem_cons.mpr ⟨sBP, (List.forall_mem_cons.mpr ⟨lM_v191, (List.forall_mem_cons.mpr ⟨sIAST, (List.forall_mem_cons.mpr ⟨sGO, (fun _ h => absurd h List.not_mem_nil)⟩)⟩)⟩)⟩)⟩)⟩)⟩)⟩)⟩)⟩
theorem kM_clause_209 : Bok "HerbWatersModel" prog_14_method_27_code (209, bM_clause_209, 218) := ⟨by decide +kernel, (List.forall_mem_cons.mpr ⟨sLA0, (List.forall_mem_cons.mpr ⟨sLI1, (List.forall_mem_cons.mpr ⟨sLA0, (List.forall_mem_cons.mpr ⟨lM_v202, (List.forall_mem_cons.mpr ⟨lM_v205, (fun _ h => absurd h List.not_mem_nil)⟩)⟩)⟩)⟩)⟩)⟩
theorem kM_clause_218 : Bok "HerbWatersModel" prog_14_method_27_code (218, bM_clause_218, 225) := ⟨by decide +kernel, (List.forall_mem_cons.mpr ⟨sLA0, (List.forall_mem_cons.mpr ⟨sBP, (List.forall_mem_cons.mpr ⟨lM_v208, (List.forall_mem_cons.mpr ⟨sRV, (fun _ h => absurd h List.not_mem_nil)⟩)⟩)⟩)⟩)⟩
theorem kM_clause : ∀ q ∈ tM_clause, Bok "HerbWatersModel" prog_14_method_27_code q := (List.forall_mem_cons.mpr ⟨kM_clause_0, (List.forall_mem_cons.mpr ⟨kM_clause_10, (List.forall_mem_cons.mpr ⟨kM_clause_22, (List.forall_mem_cons.mpr ⟨kM_clause_31, (List.forall_mem_cons.mpr ⟨kM_clause_35, (List.forall_mem_cons.mpr ⟨kM_clause_46, (List.forall_mem_cons.mpr ⟨kM_clause_51, (List.forall_mem_cons.mpr ⟨kM_clause_62, (List.forall_mem_cons.mpr ⟨kM_clause_74, (List.forall_mem_cons.mpr ⟨kM_clause_79, (List.forall_mem_cons.mpr ⟨kM_clause_89, (List.forall_mem_cons.mpr ⟨kM_clause_98, (List.forall_mem_cons.mpr ⟨kM_clause_105, (List.forall_mem_cons.mpr ⟨kM_clause_106, (List.forall_mem_cons.mpr ⟨kM_clause_124, (List.forall_mem_cons.mpr ⟨kM_clause_138, (List.forall_mem_cons.mpr ⟨kM_clause_144, (List.forall_mem_cons.mpr ⟨kM_clause_154, (List.forall_mem_cons.mpr ⟨kM_clause_178, (List.forall_mem_cons.mpr ⟨kM_clause_182, (List.forall_mem_cons.mpr ⟨kM_clause_183, (List.forall_mem_cons.mpr ⟨kM_clause_188, (List.forall_mem_cons.mpr ⟨kM_clause_193, (List.forall_mem_cons.mpr ⟨kM_clause_209, (List.forall_mem_cons.mpr ⟨kM_clause_218, (fun _ h => absurd h List.not_mem_nil)⟩)⟩)⟩)⟩)⟩)⟩)⟩)⟩)⟩)⟩)⟩)⟩)⟩)⟩)⟩)⟩)⟩)⟩)⟩)⟩)⟩)⟩)⟩)⟩)⟩)
theorem lM_v212 : Snd "HerbWatersModel" (iCV1 212 11 mM_partsFrom) := sCV1 _ rfl rfl ok_M_partsFrom (gtb_mem 1978 (by decide +kernel) rfl) (gtb_mem 56 (by decide +kernel) rfl) (gtb_mem 1976 (by decide +kernel) rfl)
theorem lM_v215 : Snd "HerbWatersModel" (iCV2 215 11 mM_partsHere) := sCV2 _ rfl rfl ok_M_partsHere (gtb_mem 1982 (by decide +kernel) rfl) (gtb_mem 57 (by decide +kernel) rfl) (gtb_mem 1980 (by decide +kernel) rfl)
theorem lM_v218 : Snd "HerbWatersModel" (iCV0 218 11 mM_herbHere) := sCV0 _ rfl rfl ok_M_herbHere (gtb_mem 1986 (by decide +kernel) rfl) (gtb_mem 58 (by decide +kernel) rfl) (gtb_mem 1984 (by decide +kernel) rfl)
def bM_ofVillage_0 : List Ir := [iLA0, (iGI 139 11 5), (iIFeq (4) 8)]
def bM_ofVillage_7 : List Ir := [iRV]
def bM_ofVillage_8 : List Ir := [iLA0, (iGR 28 11 13), iLI2, iAALD107, iSA3, iLI1, (iSW 1 (207) #[(44), (117), (159), (207), (172), (188), (200)] 44 [60, 133, 175, 223, 188, 204, 216] 223)]
def bM_ofVillage_60 : List Ir := [iLA0, (iCV0 202 11 mM_villageHere), iSI4, iLA0, iC1, iLA0, iLI2, (iCV1 212 11 mM_partsFrom), iLA3, iC2, iIALD, iADD, (iCV2 215 11 mM_partsHere), iSI5, iLA0, (iGI 139 11 5), (iIFeq (4) 90)]
def bM_ofVillage_89 : List Ir := [iRV]
def bM_ofVillage_90 : List Ir := [iLA0, (iGR 34 11 15), iLA0, (iGR 20 11 11), iC1, iIALD, iAALD107, iSA6, iLA6, iC0, iLI2, iIAST, iLA6, iC1, iLI4, iIAST, iLA6, iC2, iLI5, iIAST, iLA0, (iGR 20 11 11), iC1, iDUP2, iIALD, iC1, iADD, iIAST, (iGO (141) 271)]
def bM_ofVillage_133 : List Ir := [iLA0, iC1, iLA0, iLI2, (iCV1 212 11 mM_partsFrom), iLA3, iC2, iIALD, iADD, (iCV2 215 11 mM_partsHere), iSI4, iLA0, (iGI 139 11 5), (iIFeq (4) 157)]
def bM_ofVillage_156 : List Ir := [iRV]
def bM_ofVillage_157 : List Ir := [iLA0, (iGR 20 11 11), iC2, iLI2, iIAST, iLA0, (iGR 20 11 11), iC3, iLI4, iIAST, (iGO (99) 271)]
def bM_ofVillage_175 : List Ir := [iLA3, iC1, iLA0, iC0, (iBP 99), (iCV2 191 11 mM_number), iIAST, (iGO (86) 271)]
def bM_ofVillage_188 : List Ir := [iLA3, iC2, iLA0, iC0, iLA0, iLI2, (iCV1 212 11 mM_partsFrom), (iCV2 215 11 mM_partsHere), iIAST, (iGO (70) 271)]
def bM_ofVillage_204 : List Ir := [iLA3, iC3, iLA0, iC0, iC5, (iCV2 191 11 mM_number), iIAST, (iGO (58) 271)]
def bM_ofVillage_216 : List Ir := [iLA3, iC4, iC1, iIAST, (iGO (51) 271)]
def bM_ofVillage_223 : List Ir := [iLA0, (iCV0 218 11 mM_herbHere), iSI4, iLI4, iCm1, (iICne (12) 244)]
def bM_ofVillage_235 : List Ir := [iLA0, iC1, iLA0, (iGI 132 11 4), (iCV2 152 11 mM_wrong)]
def bM_ofVillage_244 : List Ir := [iLA0, iC0, (iBP 99), (iCV2 191 11 mM_number), iSI5, iLA0, (iGI 139 11 5), (iIFne (14) 271)]
def bM_ofVillage_260 : List Ir := [iLA3, iC5, iLI4, iADD, iLI5, iIAST, (iGO (3) 271)]
def bM_ofVillage_271 : List Ir := [iRV]
def tM_ofVillage : Tb := [(0, bM_ofVillage_0, 7), (7, bM_ofVillage_7, 8), (8, bM_ofVillage_8, 60), (60, bM_ofVillage_60, 89), (89, bM_ofVillage_89, 90), (90, bM_ofVillage_90, 133), (133, bM_ofVillage_133, 156), (156, bM_ofVillage_156, 157), (157, bM_ofVillage_157, 175), (175, bM_ofVillage_175, 188), (188, bM_ofVillage_188, 204), (204, bM_ofVillage_204, 216), (216, bM_ofVillage_216, 223), (223, bM_ofVillage_223, 235), (235, bM_ofVillage_235, 244), (244, bM_ofVillage_244, 260), (260, bM_ofVillage_260, 271), (271, bM_ofVillage_271, 272)]
theorem fM_ofVillage_0 : tbf tM_ofVillage 0 = some (bM_ofVillage_0, 7) := rfl
theorem fM_ofVillage_7 : tbf tM_ofVillage 7 = some (bM_ofVillage_7, 8) := rfl
theorem fM_ofVillage_8 : tbf tM_ofVillage 8 = some (bM_ofVillage_8, 60) := rfl
theorem fM_ofVillage_60 : tbf tM_ofVillage 60 = some (bM_ofVillage_60, 89) := rfl
theorem fM_ofVillage_89 : tbf tM_ofVillage 89 = some (bM_ofVillage_89, 90) := rfl
theorem fM_ofVillage_90 : tbf tM_ofVillage 90 = some (bM_ofVillage_90, 133) := rfl
theorem fM_ofVillage_133 : tbf tM_ofVillage 133 = some (bM_ofVillage_133, 156) := rfl
theorem fM_ofVillage_156 : tbf tM_ofVillage 156 = some (bM_ofVillage_156, 157) := rfl
theorem fM_ofVillage_157 : tbf tM_ofVillage 157 = some (bM_ofVillage_157, 175) := rfl
theorem fM_ofVillage_175 : tbf tM_ofVillage 175 = some (bM_ofVillage_175, 188) := rfl
theorem fM_ofVillage_188 : tbf tM_ofVillage 188 = some (bM_ofVillage_188, 204) := rfl
theorem fM_ofVillage_204 : tbf tM_ofVillage 204 = some (bM_ofVillage_204, 216) := rfl
theorem fM_ofVillage_216 : tbf tM_ofVillage 216 = some (bM_ofVillage_216, 223) := rfl
theorem fM_ofVillage_223 : tbf tM_ofVillage 223 = some (bM_ofVillage_223, 235) := rfl
theorem fM_ofVillage_235 : tbf tM_ofVillage 235 = some (bM_ofVillage_235, 244) := rfl
theorem fM_ofVillage_244 : tbf tM_ofVillage 244 = some (bM_ofVillage_244, 260) := rfl
theorem fM_ofVillage_260 : tbf tM_ofVillage 260 = some (bM_ofVillage_260, 271) := rfl
theorem fM_ofVillage_271 : tbf tM_ofVillage 271 = some (bM_ofVillage_271, 272) := rfl
theorem kM_ofVillage_0 : Bok "HerbWatersModel" prog_14_method_28_code (0, bM_ofVillage_0, 7) := ⟨by decide +kernel, (List.forall_mem_cons.mpr ⟨sLA0, (List.forall_mem_cons.mpr ⟨lM_g139, (List.forall_mem_cons.mpr ⟨sIFeq, (fun _ h => absurd h List.not_mem_nil)⟩)⟩)⟩)⟩
theorem kM_ofVillage_7 : Bok "HerbWatersModel" prog_14_method_28_code (7, bM_ofVillage_7, 8) := ⟨by decide +kernel, (List.forall_mem_cons.mpr ⟨sRV, (fun _ h => absurd h List.not_mem_nil)⟩)⟩
theorem kM_ofVillage_8 : Bok "HerbWatersModel" prog_14_method_28_code (8, bM_ofVillage_8, 60) := ⟨by decide +kernel, (List.forall_mem_cons.mpr ⟨sLA0, (List.forall_mem_cons.mpr ⟨lM_g28, (List.forall_mem_cons.mpr ⟨sLI2, (List.forall_mem_cons.mpr ⟨sAALD107, (List.forall_mem_cons.mpr ⟨sSA3, (List.forall_mem_cons.mpr ⟨sLI1, (List.forall_mem_cons.mpr ⟨sSW, (fun _ h => absurd h List.not_mem_nil)⟩)⟩)⟩)⟩)⟩)⟩)⟩)⟩
theorem kM_ofVillage_60 : Bok "HerbWatersModel" prog_14_method_28_code (60, bM_ofVillage_60, 89) := ⟨by decide +kernel, (List.forall_mem_cons.mpr ⟨sLA0, (List.forall_mem_cons.mpr ⟨lM_v202, (List.forall_mem_cons.mpr ⟨sSI4, (List.forall_mem_cons.mpr ⟨sLA0, (List.forall_mem_cons.mpr ⟨sC1, (List.forall_mem_cons.mpr ⟨sLA0, (List.forall_mem_cons.mpr ⟨sLI2, (List.forall_mem_cons.mpr ⟨lM_v212, (List.forall_mem_cons.mpr ⟨sLA3, (List.forall_mem_cons.mpr ⟨sC2, (List.forall_mem_cons.mpr ⟨sIALD, (List.forall_mem_cons.mpr ⟨sADD, (List.forall_mem_cons.mpr ⟨lM_v215, (List.forall_mem_cons.mpr ⟨sSI5, (List.forall_mem_cons.mpr ⟨sLA0, (List.forall_mem_cons.mpr ⟨lM_g139, (List.forall_mem_cons.mpr ⟨sIFeq, (fun _ h => absurd h List.not_mem_nil)⟩)⟩)⟩)⟩)⟩)⟩)⟩)⟩)⟩)⟩)⟩)⟩)⟩)⟩)⟩)⟩)⟩)⟩
theorem kM_ofVillage_89 : Bok "HerbWatersModel" prog_14_method_28_code (89, bM_ofVillage_89, 90) := ⟨by decide +kernel, (List.forall_mem_cons.mpr ⟨sRV, (fun _ h => absurd h List.not_mem_nil)⟩)⟩
theorem kM_ofVillage_90 : Bok "HerbWatersModel" prog_14_method_28_code (90, bM_ofVillage_90, 133) := ⟨by decide +kernel, (List.forall_mem_cons.mpr ⟨sLA0, (List.forall_mem_cons.mpr ⟨lM_g34, (List.forall_mem_cons.mpr ⟨sLA0, (List.forall_mem_cons.mpr ⟨lM_g20, (List.forall_mem_cons.mpr ⟨sC1, (List.forall_mem_cons.mpr ⟨sIALD, (List.forall_mem_cons.mpr ⟨sAALD107, (List.forall_mem_cons.mpr ⟨sSA6, (List.forall_mem_cons.mpr ⟨sLA6, (List.forall_mem_cons.mpr ⟨sC0, (List.forall_mem_cons.mpr ⟨sLI2, (List.forall_mem_cons.mpr ⟨sIAST, (List.forall_mem_cons.mpr ⟨sLA6, (List.forall_mem_cons.mpr ⟨sC1, (List.forall_mem_cons.mpr ⟨sLI4, (List.forall_mem_cons.mpr ⟨sIAST, (List.forall_mem_cons.mpr ⟨sLA6, (List.forall_mem_cons.mpr ⟨sC2, (List.forall_mem_cons.mpr ⟨sLI5, (List.forall_mem_cons.mpr ⟨sIAST, (List.forall_mem_cons.mpr ⟨sLA0, (List.forall_mem_cons.mpr ⟨lM_g20, (List.forall_mem_cons.mpr ⟨sC1, (List.forall_mem_cons.mpr ⟨sDUP2, (List.forall_mem_cons.mpr ⟨sIALD, (List.forall_mem_cons.mpr ⟨sC1, (List.forall_mem_cons.mpr ⟨sADD, (List.forall_mem_cons.mpr ⟨sIAST, (List.forall_mem_cons.mpr ⟨sGO, (fun _ h => absurd h List.not_mem_nil)⟩)⟩)⟩)⟩)⟩)⟩)⟩)⟩)⟩)⟩)⟩)⟩)⟩)⟩)⟩)⟩)⟩)⟩)⟩)⟩)⟩)⟩)⟩)⟩)⟩)⟩)⟩)⟩)⟩)⟩
theorem kM_ofVillage_133 : Bok "HerbWatersModel" prog_14_method_28_code (133, bM_ofVillage_133, 156) := ⟨by decide +kernel, (List.forall_mem_cons.mpr ⟨sLA0, (List.forall_mem_cons.mpr ⟨sC1, (List.forall_mem_cons.mpr ⟨sLA0, (List.forall_mem_cons.mpr ⟨sLI2, (List.forall_mem_cons.mpr ⟨lM_v212, (List.forall_mem_cons.mpr ⟨sLA3, (List.forall_mem_cons.mpr ⟨sC2, (List.forall_mem_cons.mpr ⟨sIALD, (List.forall_mem_cons.mpr ⟨sADD, (List.forall_mem_cons.mpr ⟨lM_v215, (List.forall_mem_cons.mpr ⟨sSI4, (List.forall_mem_cons.mpr ⟨sLA0, (List.forall_mem_cons.mpr ⟨lM_g139, (List.forall_mem_cons.mpr ⟨sIFeq, (fun _ h => absurd h List.not_mem_nil)⟩)⟩)⟩)⟩)⟩)⟩)⟩)⟩)⟩)⟩)⟩)⟩)⟩)⟩)⟩
theorem kM_ofVillage_156 : Bok "HerbWatersModel" prog_14_method_28_code (156, bM_ofVillage_156, 157) := ⟨by decide +kernel, (List.forall_mem_cons.mpr ⟨sRV, (fun _ h => absurd h List.not_mem_nil)⟩)⟩
theorem kM_ofVillage_157 : Bok "HerbWatersModel" prog_14_method_28_code (157, bM_ofVillage_157, 175) := ⟨by decide +kernel, (List.forall_mem_cons.mpr ⟨sLA0, (List.forall_mem_cons.mpr ⟨lM_g20, (List.forall_mem_cons.mpr ⟨sC2, (List.forall_mem_cons.mpr ⟨sLI2, (List.forall_mem_cons.mpr ⟨sIAST, (List.forall_mem_cons.mpr ⟨sLA0, (List.forall_mem_cons.mpr ⟨lM_g20, (List.forall_mem_cons.mpr ⟨sC3, (List.forall_mem_cons.mpr ⟨sLI4, (List.forall_mem_cons.mpr ⟨sIAST, (List.forall_mem_cons.mpr ⟨sGO, (fun _ h => absurd h List.not_mem_nil)⟩)⟩)⟩)⟩)⟩)⟩)⟩)⟩)⟩)⟩)⟩)⟩
theorem kM_ofVillage_175 : Bok "HerbWatersModel" prog_14_method_28_code (175, bM_ofVillage_175, 188) := ⟨by decide +kernel, (List.forall_mem_cons.mpr ⟨sLA3, (List.forall_mem_cons.mpr ⟨sC1, (List.forall_mem_cons.mpr ⟨sLA0, (List.forall_mem_cons.mpr ⟨sC0, (List.forall_mem_cons.mpr ⟨sBP, (List.forall_mem_cons.mpr ⟨lM_v191, (List.forall_mem_cons.mpr ⟨sIAST, (List.forall_mem_cons.mpr ⟨sGO, (fun _ h => absurd h List.not_mem_nil)⟩)⟩)⟩)⟩)⟩)⟩)⟩)⟩)⟩
theorem kM_ofVillage_188 : Bok "HerbWatersModel" prog_14_method_28_code (188, bM_ofVillage_188, 204) := ⟨by decide +kernel, (List.forall_mem_cons.mpr ⟨sLA3, (List.forall_mem_cons.mpr ⟨sC2, (List.forall_mem_cons.mpr ⟨sLA0, (List.forall_mem_cons.mpr ⟨sC0, (List.forall_mem_cons.mpr ⟨sLA0, (List.forall_mem_cons.mpr ⟨sLI2, (List.forall_mem_cons.mpr ⟨lM_v212, (List.forall_mem_cons.mpr ⟨lM_v215, (List.forall_mem_cons.mpr ⟨sIAST, (List.forall_mem_cons.mpr ⟨sGO, (fun _ h => absurd h List.not_mem_nil)⟩)⟩)⟩)⟩)⟩)⟩)⟩)⟩)⟩)⟩)⟩
theorem kM_ofVillage_204 : Bok "HerbWatersModel" prog_14_method_28_code (204, bM_ofVillage_204, 216) := ⟨by decide +kernel, (List.forall_mem_cons.mpr ⟨sLA3, (List.forall_mem_cons.mpr ⟨sC3, (List.forall_mem_cons.mpr ⟨sLA0, (List.forall_mem_cons.mpr ⟨sC0, (List.forall_mem_cons.mpr ⟨sC5, (List.forall_mem_cons.mpr ⟨lM_v191, (List.forall_mem_cons.mpr ⟨sIAST, (List.forall_mem_cons.mpr ⟨sGO, (fun _ h => absurd h List.not_mem_nil)⟩)⟩)⟩)⟩)⟩)⟩)⟩)⟩)⟩
theorem kM_ofVillage_216 : Bok "HerbWatersModel" prog_14_method_28_code (216, bM_ofVillage_216, 223) := ⟨by decide +kernel, (List.forall_mem_cons.mpr ⟨sLA3, (List.forall_mem_cons.mpr ⟨sC4, (List.forall_mem_cons.mpr ⟨sC1, (List.forall_mem_cons.mpr ⟨sIAST, (List.forall_mem_cons.mpr ⟨sGO, (fun _ h => absurd h List.not_mem_nil)⟩)⟩)⟩)⟩)⟩)⟩
theorem kM_ofVillage_223 : Bok "HerbWatersModel" prog_14_method_28_code (223, bM_ofVillage_223, 235) := ⟨by decide +kernel, (List.forall_mem_cons.mpr ⟨sLA0, (List.forall_mem_cons.mpr ⟨lM_v218, (List.forall_mem_cons.mpr ⟨sSI4, (List.forall_mem_cons.mpr ⟨sLI4, (List.forall_mem_cons.mpr ⟨sCm1, (List.forall_mem_cons.mpr ⟨sICne, (fun _ h => absurd h List.not_mem_nil)⟩)⟩)⟩)⟩)⟩)⟩)⟩
theorem kM_ofVillage_235 : Bok "HerbWatersModel" prog_14_method_28_code (235, bM_ofVillage_235, 244) := ⟨by decide +kernel, (List.forall_mem_cons.mpr ⟨sLA0, (List.forall_mem_cons.mpr ⟨sC1, (List.forall_mem_cons.mpr ⟨sLA0, (List.forall_mem_cons.mpr ⟨lM_g132, (List.forall_mem_cons.mpr ⟨lM_v152, (fun _ h => absurd h List.not_mem_nil)⟩)⟩)⟩)⟩)⟩)⟩
theorem kM_ofVillage_244 : Bok "HerbWatersModel" prog_14_method_28_code (244, bM_ofVillage_244, 260) := ⟨by decide +kernel, (List.forall_mem_cons.mpr ⟨sLA0, (List.forall_mem_cons.mpr ⟨sC0, (List.forall_mem_cons.mpr ⟨sBP, (List.forall_mem_cons.mpr ⟨lM_v191, (List.forall_mem_cons.mpr ⟨sSI5, (List.forall_mem_cons.mpr ⟨sLA0, (List.forall_mem_cons.mpr ⟨lM_g139, (List.forall_mem_cons.mpr ⟨sIFne, (fun _ h => absurd h List.not_mem_nil)⟩)⟩)⟩)⟩)⟩)⟩)⟩)⟩)⟩
theorem kM_ofVillage_260 : Bok "HerbWatersModel" prog_14_method_28_code (260, bM_ofVillage_260, 271) := ⟨by decide +kernel, (List.forall_mem_cons.mpr ⟨sLA3, (List.forall_mem_cons.mpr ⟨sC5, (List.forall_mem_cons.mpr ⟨sLI4, (List.forall_mem_cons.mpr ⟨sADD, (List.forall_mem_cons.mpr ⟨sLI5, (List.forall_mem_cons.mpr ⟨sIAST, (List.forall_mem_cons.mpr ⟨sGO, (fun _ h => absurd h List.not_mem_nil)⟩)⟩)⟩)⟩)⟩)⟩)⟩)⟩
theorem kM_ofVillage_271 : Bok "HerbWatersModel" prog_14_method_28_code (271, bM_ofVillage_271, 272) := ⟨by decide +kernel, (List.forall_mem_cons.mpr ⟨sRV, (fun _ h => absurd h List.not_mem_nil)⟩)⟩
theorem kM_ofVillage : ∀ q ∈ tM_ofVillage, Bok "HerbWatersModel" prog_14_method_28_code q := (List.forall_mem_cons.mpr ⟨kM_ofVillage_0, (List.forall_mem_cons.mpr ⟨kM_ofVillage_7, (List.forall_mem_cons.mpr ⟨kM_ofVillage_8, (List.forall_mem_cons.mpr ⟨kM_ofVillage_60, (List.forall_mem_cons.mpr ⟨kM_ofVillage_89, (List.forall_mem_cons.mpr ⟨kM_ofVillage_90, (List.forall_mem_cons.mpr ⟨kM_ofVillage_133, (List.forall_mem_cons.mpr ⟨kM_ofVillage_156, (List.forall_mem_cons.mpr ⟨kM_ofVillage_157, (List.forall_mem_cons.mpr ⟨kM_ofVillage_175, (List.forall_mem_cons.mpr ⟨kM_ofVillage_188, (List.forall_mem_cons.mpr ⟨kM_ofVillage_204, (List.forall_mem_cons.mpr ⟨kM_ofVillage_216, (List.forall_mem_cons.mpr ⟨kM_ofVillage_223, (List.forall_mem_cons.mpr ⟨kM_ofVillage_235, (List.forall_mem_cons.mpr ⟨kM_ofVillage_244, (List.forall_mem_cons.mpr ⟨kM_ofVillage_260, (List.forall_mem_cons.mpr ⟨kM_ofVillage_271, (fun _ h => absurd h List.not_mem_nil)⟩)⟩)⟩)⟩)⟩)⟩)⟩)⟩)⟩)⟩)⟩)⟩)⟩)⟩)⟩)⟩)⟩)⟩)
def mM_town : Mt := (⟨"HerbWatersModel", "town", "(I)I"⟩, prog_14_method_29_code, 2, some .int)
theorem ok_M_town : Mok mM_town := ⟨gtb_mem 1907 (by decide +kernel) rfl, gtb_mem 107 (by decide +kernel) rfl, by decide +kernel, by decide⟩
theorem lM_v221 : Snd "HerbWatersModel" (iCV3 221 11 mM_bad) := sCV3 _ rfl rfl ok_M_bad (gtb_mem 1913 (by decide +kernel) rfl) (gtb_mem 43 (by decide +kernel) rfl) (gtb_mem 1911 (by decide +kernel) rfl)
theorem lM_v225 : Snd "HerbWatersModel" (iCV1 225 11 mM_starts) := sCV1 _ rfl rfl ok_M_starts (gtb_mem 1917 (by decide +kernel) rfl) (gtb_mem 44 (by decide +kernel) rfl) (gtb_mem 1915 (by decide +kernel) rfl)
theorem lM_v117 : Snd "HerbWatersModel" (iCV0 117 11 mM_tellsNothing) := sCV0 _ rfl rfl ok_M_tellsNothing (gtb_mem 1710 (by decide +kernel) rfl) (gtb_mem 40 (by decide +kernel) rfl) (gtb_mem 1708 (by decide +kernel) rfl)
theorem lM_v228 : Snd "HerbWatersModel" (iCV0 228 11 mM_clause) := sCV0 _ rfl rfl ok_M_clause (gtb_mem 1929 (by decide +kernel) rfl) (gtb_mem 47 (by decide +kernel) rfl) (gtb_mem 1927 (by decide +kernel) rfl)
theorem lM_g142 : Snd "HerbWatersModel" (iGI 142 11 6) := sGI _ rfl (gtb_mem 1729 (by decide +kernel) rfl)
theorem lM_p9 : Snd "HerbWatersModel" (iPI 9 11 3) := sPI _ rfl rfl (gtb_mem 1726 (by decide +kernel) rfl)
def mM_stands : Mt := (⟨"HerbWatersModel", "stands", "()V"⟩, prog_14_method_30_code, 3, none)
theorem ok_M_stands : Mok mM_stands := ⟨gtb_mem 1715 (by decide +kernel) rfl, gtb_mem 107 (by decide +kernel) rfl, by decide +kernel, by decide⟩
theorem lM_v120 : Snd "HerbWatersModel" (iCV0 120 11 mM_stands) := sCV0 _ rfl rfl ok_M_stands (gtb_mem 1714 (by decide +kernel) rfl) (gtb_mem 41 (by decide +kernel) rfl) (gtb_mem 1712 (by decide +kernel) rfl)
theorem lM_g23 : Snd "HerbWatersModel" (iGR 23 11 12) := sGR _ rfl (gtb_mem 1735 (by decide +kernel) rfl)
def bM_town_0 : List Ir := [iLA0, iC0, (iPI 123 11 0), iLA0, iLI1, iC0, iLA0, (iGI 126 11 1), (iCS3 157 mM_in), (iIFne (7) 22)]
def bM_town_18 : List Ir := [iC1, (iGO (4) 23)]
def bM_town_22 : List Ir := [iC0]
def bM_town_23 : List Ir := [iC1, iC1, (iCV3 221 11 mM_bad), (iIFeq (5) 33)]
def bM_town_31 : List Ir := [iC0, iRI]
def bM_town_33 : List Ir := [iLA0, iLI1, (iCV1 225 11 mM_starts), iLA0, (iCV0 117 11 mM_tellsNothing)]
def bM_town_42 : List Ir := [iLA0, (iGI 139 11 5), (iIFne (25) 71)]
def bM_town_49 : List Ir := [iLA0, (iGI 132 11 4), iLA0, (iGI 129 11 2), (iICge (14) 71)]
def bM_town_60 : List Ir := [iLA0, (iCV0 228 11 mM_clause), iLA0, (iCV0 145 11 mM_blanks), (iGO (-26) 42)]
def bM_town_71 : List Ir := [iLA0, iLA0, (iGI 142 11 6), (iPI 9 11 3), iLA0, (iGI 139 11 5), (iIFeq (11) 94)]
def bM_town_86 : List Ir := [iLA0, (iGI 139 11 5), (iBP 10), iSUB, iRI]
def bM_town_94 : List Ir := [iLA0, (iCV0 120 11 mM_stands), iLA0, (iGR 23 11 12), iC0, iIALD, iRI]
def tM_town : Tb := [(0, bM_town_0, 18), (18, bM_town_18, 22), (22, bM_town_22, 23), (23, bM_town_23, 31), (31, bM_town_31, 33), (33, bM_town_33, 42), (42, bM_town_42, 49), (49, bM_town_49, 60), (60, bM_town_60, 71), (71, bM_town_71, 86), (86, bM_town_86, 94), (94, bM_town_94, 105)]
theorem fM_town_0 : tbf tM_town 0 = some (bM_town_0, 18) := rfl
theorem fM_town_18 : tbf tM_town 18 = some (bM_town_18, 22) := rfl
theorem fM_town_22 : tbf tM_town 22 = some (bM_town_22, 23) := rfl
theorem fM_town_23 : tbf tM_town 23 = some (bM_town_23, 31) := rfl
theorem fM_town_31 : tbf tM_town 31 = some (bM_town_31, 33) := rfl
theorem fM_town_33 : tbf tM_town 33 = some (bM_town_33, 42) := rfl
theorem fM_town_42 : tbf tM_town 42 = some (bM_town_42, 49) := rfl
theorem fM_town_49 : tbf tM_town 49 = some (bM_town_49, 60) := rfl
theorem fM_town_60 : tbf tM_town 60 = some (bM_town_60, 71) := rfl
theorem fM_town_71 : tbf tM_town 71 = some (bM_town_71, 86) := rfl
theorem fM_town_86 : tbf tM_town 86 = some (bM_town_86, 94) := rfl
theorem fM_town_94 : tbf tM_town 94 = some (bM_town_94, 105) := rfl
theorem kM_town_0 : Bok "HerbWatersModel" prog_14_method_29_code (0, bM_town_0, 18) := ⟨by decide +kernel, (List.forall_mem_cons.mpr ⟨sLA0, (List.forall_mem_cons.mpr ⟨sC0, (List.forall_mem_cons.mpr ⟨lM_p123, (List.forall_mem_cons.mpr ⟨sLA0, (List.forall_mem_cons.mpr ⟨sLI1, (List.forall_mem_cons.mpr ⟨sC0, (List.forall_mem_cons.mpr ⟨sLA0, (List.forall_mem_cons.mpr ⟨lM_g126, (List.forall_mem_cons.mpr ⟨lM_s157, (List.forall_mem_cons.mpr ⟨sIFne, (fun _ h => absurd h List.not_mem_nil)⟩)⟩)⟩)⟩)⟩)⟩)⟩)⟩)⟩)⟩)⟩
theorem kM_town_18 : Bok "HerbWatersModel" prog_14_method_29_code (18, bM_town_18, 22) := ⟨by decide +kernel, (List.forall_mem_cons.mpr ⟨sC1, (List.forall_mem_cons.mpr ⟨sGO, (fun _ h => absurd h List.not_mem_nil)⟩)⟩)⟩
theorem kM_town_22 : Bok "HerbWatersModel" prog_14_method_29_code (22, bM_town_22, 23) := ⟨by decide +kernel, (List.forall_mem_cons.mpr ⟨sC0, (fun _ h => absurd h List.not_mem_nil)⟩)⟩
theorem kM_town_23 : Bok "HerbWatersModel" prog_14_method_29_code (23, bM_town_23, 31) := ⟨by decide +kernel, (List.forall_mem_cons.mpr ⟨sC1, (List.forall_mem_cons.mpr ⟨sC1, (List.forall_mem_cons.mpr ⟨lM_v221, (List.forall_mem_cons.mpr ⟨sIFeq, (fun _ h => absurd h List.not_mem_nil)⟩)⟩)⟩)⟩)⟩
theorem kM_town_31 : Bok "HerbWatersModel" prog_14_method_29_code (31, bM_town_31, 33) := ⟨by decide +kernel, (List.forall_mem_cons.mpr ⟨sC0, (List.forall_mem_cons.mpr ⟨sRI, (fun _ h => absurd h List.not_mem_nil)⟩)⟩)⟩
theorem kM_town_33 : Bok "HerbWatersModel" prog_14_method_29_code (33, bM_town_33, 42) := ⟨by decide +kernel, (List.forall_mem_cons.mpr ⟨sLA0, (List.forall_mem_cons.mpr ⟨sLI1, (List.forall_mem_cons.mpr ⟨lM_v225, (List.forall_mem_cons.mpr ⟨sLA0, (List.forall_mem_cons.mpr ⟨lM_v117, (fun _ h => absurd h List.not_mem_nil)⟩)⟩)⟩)⟩)⟩)⟩
theorem kM_town_42 : Bok "HerbWatersModel" prog_14_method_29_code (42, bM_town_42, 49) := ⟨by decide +kernel, (List.forall_mem_cons.mpr ⟨sLA0, (List.forall_mem_cons.mpr ⟨lM_g139, (List.forall_mem_cons.mpr ⟨sIFne, (fun _ h => absurd h List.not_mem_nil)⟩)⟩)⟩)⟩
theorem kM_town_49 : Bok "HerbWatersModel" prog_14_method_29_code (49, bM_town_49, 60) := ⟨by decide +kernel, (List.forall_mem_cons.mpr ⟨sLA0, (List.forall_mem_cons.mpr ⟨lM_g132, (List.forall_mem_cons.mpr ⟨sLA0, (List.forall_mem_cons.mpr ⟨lM_g129, (List.forall_mem_cons.mpr ⟨sICge, (fun _ h => absurd h List.not_mem_nil)⟩)⟩)⟩)⟩)⟩)⟩
theorem kM_town_60 : Bok "HerbWatersModel" prog_14_method_29_code (60, bM_town_60, 71) := ⟨by decide +kernel, (List.forall_mem_cons.mpr ⟨sLA0, (List.forall_mem_cons.mpr ⟨lM_v228, (List.forall_mem_cons.mpr ⟨sLA0, (List.forall_mem_cons.mpr ⟨lM_v145, (List.forall_mem_cons.mpr ⟨sGO, (fun _ h => absurd h List.not_mem_nil)⟩)⟩)⟩)⟩)⟩)⟩
theorem kM_town_71 : Bok "HerbWatersModel" prog_14_method_29_code (71, bM_town_71, 86) := ⟨by decide +kernel, (List.forall_mem_cons.mpr ⟨sLA0, (List.forall_mem_cons.mpr ⟨sLA0, (List.forall_mem_cons.mpr ⟨lM_g142, (List.forall_mem_cons.mpr ⟨lM_p9, (List.forall_mem_cons.mpr ⟨sLA0, (List.forall_mem_cons.mpr ⟨lM_g139, (List.forall_mem_cons.mpr ⟨sIFeq, (fun _ h => absurd h List.not_mem_nil)⟩)⟩)⟩)⟩)⟩)⟩)⟩)⟩
theorem kM_town_86 : Bok "HerbWatersModel" prog_14_method_29_code (86, bM_town_86, 94) := ⟨by decide +kernel, (List.forall_mem_cons.mpr ⟨sLA0, (List.forall_mem_cons.mpr ⟨lM_g139, (List.forall_mem_cons.mpr ⟨sBP, (List.forall_mem_cons.mpr ⟨sSUB, (List.forall_mem_cons.mpr ⟨sRI, (fun _ h => absurd h List.not_mem_nil)⟩)⟩)⟩)⟩)⟩)⟩
theorem kM_town_94 : Bok "HerbWatersModel" prog_14_method_29_code (94, bM_town_94, 105) := ⟨by decide +kernel, (List.forall_mem_cons.mpr ⟨sLA0, (List.forall_mem_cons.mpr ⟨lM_v120, (List.forall_mem_cons.mpr ⟨sLA0, (List.forall_mem_cons.mpr ⟨lM_g23, (List.forall_mem_cons.mpr ⟨sC0, (List.forall_mem_cons.mpr ⟨sIALD, (List.forall_mem_cons.mpr ⟨sRI, (fun _ h => absurd h List.not_mem_nil)⟩)⟩)⟩)⟩)⟩)⟩)⟩)⟩
theorem kM_town : ∀ q ∈ tM_town, Bok "HerbWatersModel" prog_14_method_29_code q := (List.forall_mem_cons.mpr ⟨kM_town_0, (List.forall_mem_cons.mpr ⟨kM_town_18, (List.forall_mem_cons.mpr ⟨kM_town_22, (List.forall_mem_cons.mpr ⟨kM_town_23, (List.forall_mem_cons.mpr ⟨kM_town_31, (List.forall_mem_cons.mpr ⟨kM_town_33, (List.forall_mem_cons.mpr ⟨kM_town_42, (List.forall_mem_cons.mpr ⟨kM_town_49, (List.forall_mem_cons.mpr ⟨kM_town_60, (List.forall_mem_cons.mpr ⟨kM_town_71, (List.forall_mem_cons.mpr ⟨kM_town_86, (List.forall_mem_cons.mpr ⟨kM_town_94, (fun _ h => absurd h List.not_mem_nil)⟩)⟩)⟩)⟩)⟩)⟩)⟩)⟩)⟩)⟩)⟩)⟩)
theorem lM_g31 : Snd "HerbWatersModel" (iGR 31 11 14) := sGR _ rfl (gtb_mem 1737 (by decide +kernel) rfl)
theorem lM_g37 : Snd "HerbWatersModel" (iGR 37 11 16) := sGR _ rfl (gtb_mem 1739 (by decide +kernel) rfl)
theorem lM_g40 : Snd "HerbWatersModel" (iGR 40 11 17) := sGR _ rfl (gtb_mem 1740 (by decide +kernel) rfl)
theorem lM_g43 : Snd "HerbWatersModel" (iGR 43 11 18) := sGR _ rfl (gtb_mem 1741 (by decide +kernel) rfl)
theorem lM_g74 : Snd "HerbWatersModel" (iGR 74 11 31) := sGR _ rfl (gtb_mem 1754 (by decide +kernel) rfl)
theorem lM_g86 : Snd "HerbWatersModel" (iGR 86 11 35) := sGR _ rfl (gtb_mem 1758 (by decide +kernel) rfl)
theorem lM_g77 : Snd "HerbWatersModel" (iGR 77 11 32) := sGR _ rfl (gtb_mem 1755 (by decide +kernel) rfl)
def mM_copies : Mt := (⟨"HerbWatersModel", "copies", "([I[I)V"⟩, prog_14_method_31_code, 3, none)
theorem ok_M_copies : Mok mM_copies := ⟨gtb_mem 1718 (by decide +kernel) rfl, gtb_mem 107 (by decide +kernel) rfl, by decide +kernel, by decide⟩
theorem lM_s231 : Snd "HerbWatersModel" (iCS2 231 mM_copies) := sCS2 ok_M_copies (gtb_mem 1717 (by decide +kernel) rfl) (gtb_mem 1716 (by decide +kernel) rfl)
theorem lM_p235 : Snd "HerbWatersModel" (iPI 235 11 36) := sPI _ rfl rfl (gtb_mem 1759 (by decide +kernel) rfl)
theorem lM_p238 : Snd "HerbWatersModel" (iPI 238 11 37) := sPI _ rfl rfl (gtb_mem 1760 (by decide +kernel) rfl)
theorem lM_p241 : Snd "HerbWatersModel" (iPI 241 11 38) := sPI _ rfl rfl (gtb_mem 1761 (by decide +kernel) rfl)
theorem lM_p244 : Snd "HerbWatersModel" (iPI 244 11 40) := sPI _ rfl rfl (gtb_mem 1763 (by decide +kernel) rfl)
def mM_settles : Mt := (⟨"HerbWatersModel", "settles", "()V"⟩, prog_14_method_32_code, 1, none)
theorem ok_M_settles : Mok mM_settles := ⟨gtb_mem 1722 (by decide +kernel) rfl, gtb_mem 107 (by decide +kernel) rfl, by decide +kernel, by decide⟩
theorem lM_v247 : Snd "HerbWatersModel" (iCV0 247 11 mM_settles) := sCV0 _ rfl rfl ok_M_settles (gtb_mem 1721 (by decide +kernel) rfl) (gtb_mem 42 (by decide +kernel) rfl) (gtb_mem 1719 (by decide +kernel) rfl)
def bM_stands_0 : List Ir := [iC0, iSI1]
def bM_stands_2 : List Ir := [iLI1, iC5, (iICge (21) 25)]
def bM_stands_7 : List Ir := [iLA0, (iGR 23 11 12), iLI1, iLA0, (iGR 20 11 11), iLI1, iIALD, iIAST, (iINC1 1), (iGO (-20) 2)]
def bM_stands_25 : List Ir := [iC0, iSI1]
def bM_stands_27 : List Ir := [iLI1, iLA0, (iGR 23 11 12), iC0, iIALD, (iICge (39) 73)]
def bM_stands_37 : List Ir := [iC0, iSI2]
def bM_stands_39 : List Ir := [iLI2, (iBP 8), (iICge (25) 67)]
def bM_stands_45 : List Ir := [iLA0, (iGR 31 11 14), iLI1, iAALD107, iLI2, iLA0, (iGR 28 11 13), iLI1, iAALD107, iLI2, iIALD, iIAST, (iINC2 1), (iGO (-25) 39)]
def bM_stands_67 : List Ir := [(iINC1 1), (iGO (-43) 27)]
def bM_stands_73 : List Ir := [iC0, iSI1]
def bM_stands_75 : List Ir := [iLI1, iLA0, (iGR 23 11 12), iC1, iIALD, (iICge (38) 120)]
def bM_stands_85 : List Ir := [iC0, iSI2]
def bM_stands_87 : List Ir := [iLI2, iC3, (iICge (25) 114)]
def bM_stands_92 : List Ir := [iLA0, (iGR 37 11 16), iLI1, iAALD107, iLI2, iLA0, (iGR 34 11 15), iLI1, iAALD107, iLI2, iIALD, iIAST, (iINC2 1), (iGO (-24) 87)]
def bM_stands_114 : List Ir := [(iINC1 1), (iGO (-42) 75)]
def bM_stands_120 : List Ir := [iC0, iSI1]
def bM_stands_122 : List Ir := [iLI1, (iBP 9), (iICge (30) 155)]
def bM_stands_128 : List Ir := [iLA0, (iGR 40 11 17), iLI1, iC0, iIAST, iLA0, (iGR 43 11 18), iLI1, iC0, iZAST, iLA0, (iGR 74 11 31), iLI1, iC0, iIAST, (iINC1 1), (iGO (-30) 122)]
def bM_stands_155 : List Ir := [iC0, iSI1]
def bM_stands_157 : List Ir := [iLI1, (iSP 502), (iICge (16) 177)]
def bM_stands_164 : List Ir := [iLA0, (iGR 86 11 35), iLI1, iC0, iIAST, (iINC1 1), (iGO (-17) 157)]
def bM_stands_177 : List Ir := [iC0, iSI1]
def bM_stands_179 : List Ir := [iLI1, iLA0, (iGR 23 11 12), iC0, iIALD, (iICge (25) 211)]
def bM_stands_189 : List Ir := [iLA0, (iGR 86 11 35), iC0, iLI1, iADD, iLA0, (iGR 31 11 14), iLI1, iAALD107, iC0, iIALD, iIAST, (iINC1 1), (iGO (-29) 179)]
def bM_stands_211 : List Ir := [iC0, iSI1]
def bM_stands_213 : List Ir := [iLI1, iC5, (iICge (52) 267)]
def bM_stands_218 : List Ir := [iC0, iSI2]
def bM_stands_220 : List Ir := [iLI2, iLA0, (iGR 23 11 12), iC0, iIALD, (iICge (34) 261)]
def bM_stands_230 : List Ir := [iLA0, (iGR 86 11 35), (iSP 252), (iBP 36), iLI1, iMUL, iADD, iC4, iLI2, iMUL, iADD, iLA0, (iGR 31 11 14), iLI2, iAALD107, iC0, iIALD, iIAST, (iINC2 1), (iGO (-38) 220)]
def bM_stands_261 : List Ir := [(iINC1 1), (iGO (-51) 213)]
def bM_stands_267 : List Ir := [iLA0, (iGR 86 11 35), iLA0, (iGR 77 11 32), (iCS2 231 mM_copies), iLA0, iC0, (iPI 235 11 36), iLA0, iC0, (iPI 238 11 37), iLA0, iC0, (iPI 241 11 38), iLA0, iC0, (iPI 244 11 40), iLA0, (iCV0 247 11 mM_settles), iRV]
def tM_stands : Tb := [(0, bM_stands_0, 2), (2, bM_stands_2, 7), (7, bM_stands_7, 25), (25, bM_stands_25, 27), (27, bM_stands_27, 37), (37, bM_stands_37, 39), (39, bM_stands_39, 45), (45, bM_stands_45, 67), (67, bM_stands_67, 73), (73, bM_stands_73, 75), (75, bM_stands_75, 85), (85, bM_stands_85, 87), (87, bM_stands_87, 92), (92, bM_stands_92, 114), (114, bM_stands_114, 120), (120, bM_stands_120, 122), (122, bM_stands_122, 128), (128, bM_stands_128, 155), (155, bM_stands_155, 157), (157, bM_stands_157, 164), (164, bM_stands_164, 177), (177, bM_stands_177, 179), (179, bM_stands_179, 189), (189, bM_stands_189, 211), (211, bM_stands_211, 213), (213, bM_stands_213, 218), (218, bM_stands_218, 220), (220, bM_stands_220, 230), (230, bM_stands_230, 261), (261, bM_stands_261, 267), (267, bM_stands_267, 303)]
theorem fM_stands_0 : tbf tM_stands 0 = some (bM_stands_0, 2) := rfl
theorem fM_stands_2 : tbf tM_stands 2 = some (bM_stands_2, 7) := rfl
theorem fM_stands_7 : tbf tM_stands 7 = some (bM_stands_7, 25) := rfl
theorem fM_stands_25 : tbf tM_stands 25 = some (bM_stands_25, 27) := rfl
theorem fM_stands_27 : tbf tM_stands 27 = some (bM_stands_27, 37) := rfl
theorem fM_stands_37 : tbf tM_stands 37 = some (bM_stands_37, 39) := rfl
theorem fM_stands_39 : tbf tM_stands 39 = some (bM_stands_39, 45) := rfl
theorem fM_stands_45 : tbf tM_stands 45 = some (bM_stands_45, 67) := rfl
theorem fM_stands_67 : tbf tM_stands 67 = some (bM_stands_67, 73) := rfl
theorem fM_stands_73 : tbf tM_stands 73 = some (bM_stands_73, 75) := rfl
theorem fM_stands_75 : tbf tM_stands 75 = some (bM_stands_75, 85) := rfl
theorem fM_stands_85 : tbf tM_stands 85 = some (bM_stands_85, 87) := rfl
theorem fM_stands_87 : tbf tM_stands 87 = some (bM_stands_87, 92) := rfl
theorem fM_stands_92 : tbf tM_stands 92 = some (bM_stands_92, 114) := rfl
theorem fM_stands_114 : tbf tM_stands 114 = some (bM_stands_114, 120) := rfl
theorem fM_stands_120 : tbf tM_stands 120 = some (bM_stands_120, 122) := rfl
theorem fM_stands_122 : tbf tM_stands 122 = some (bM_stands_122, 128) := rfl
theorem fM_stands_128 : tbf tM_stands 128 = some (bM_stands_128, 155) := rfl
theorem fM_stands_155 : tbf tM_stands 155 = some (bM_stands_155, 157) := rfl
theorem fM_stands_157 : tbf tM_stands 157 = some (bM_stands_157, 164) := rfl
theorem fM_stands_164 : tbf tM_stands 164 = some (bM_stands_164, 177) := rfl
theorem fM_stands_177 : tbf tM_stands 177 = some (bM_stands_177, 179) := rfl
theorem fM_stands_179 : tbf tM_stands 179 = some (bM_stands_179, 189) := rfl
theorem fM_stands_189 : tbf tM_stands 189 = some (bM_stands_189, 211) := rfl
theorem fM_stands_211 : tbf tM_stands 211 = some (bM_stands_211, 213) := rfl
theorem fM_stands_213 : tbf tM_stands 213 = some (bM_stands_213, 218) := rfl
theorem fM_stands_218 : tbf tM_stands 218 = some (bM_stands_218, 220) := rfl
theorem fM_stands_220 : tbf tM_stands 220 = some (bM_stands_220, 230) := rfl
theorem fM_stands_230 : tbf tM_stands 230 = some (bM_stands_230, 261) := rfl
theorem fM_stands_261 : tbf tM_stands 261 = some (bM_stands_261, 267) := rfl
theorem fM_stands_267 : tbf tM_stands 267 = some (bM_stands_267, 303) := rfl
theorem kM_stands_0 : Bok "HerbWatersModel" prog_14_method_30_code (0, bM_stands_0, 2) := ⟨by decide +kernel, (List.forall_mem_cons.mpr ⟨sC0, (List.forall_mem_cons.mpr ⟨sSI1, (fun _ h => absurd h List.not_mem_nil)⟩)⟩)⟩
theorem kM_stands_2 : Bok "HerbWatersModel" prog_14_method_30_code (2, bM_stands_2, 7) := ⟨by decide +kernel, (List.forall_mem_cons.mpr ⟨sLI1, (List.forall_mem_cons.mpr ⟨sC5, (List.forall_mem_cons.mpr ⟨sICge, (fun _ h => absurd h List.not_mem_nil)⟩)⟩)⟩)⟩
theorem kM_stands_7 : Bok "HerbWatersModel" prog_14_method_30_code (7, bM_stands_7, 25) := ⟨by decide +kernel, (List.forall_mem_cons.mpr ⟨sLA0, (List.forall_mem_cons.mpr ⟨lM_g23, (List.forall_mem_cons.mpr ⟨sLI1, (List.forall_mem_cons.mpr ⟨sLA0, (List.forall_mem_cons.mpr ⟨lM_g20, (List.forall_mem_cons.mpr ⟨sLI1, (List.forall_mem_cons.mpr ⟨sIALD, (List.forall_mem_cons.mpr ⟨sIAST, (List.forall_mem_cons.mpr ⟨sINC1, (List.forall_mem_cons.mpr ⟨sGO, (fun _ h => absurd h List.not_mem_nil)⟩)⟩)⟩)⟩)⟩)⟩)⟩)⟩)⟩)⟩)⟩
theorem kM_stands_25 : Bok "HerbWatersModel" prog_14_method_30_code (25, bM_stands_25, 27) := ⟨by decide +kernel, (List.forall_mem_cons.mpr ⟨sC0, (List.forall_mem_cons.mpr ⟨sSI1, (fun _ h => absurd h List.not_mem_nil)⟩)⟩)⟩
theorem kM_stands_27 : Bok "HerbWatersModel" prog_14_method_30_code (27, bM_stands_27, 37) := ⟨by decide +kernel, (List.forall_mem_cons.mpr ⟨sLI1, (List.forall_mem_cons.mpr ⟨sLA0, (List.forall_mem_cons.mpr ⟨lM_g23, (List.forall_mem_cons.mpr ⟨sC0, (List.forall_mem_cons.mpr ⟨sIALD, (List.forall_mem_cons.mpr ⟨sICge, (fun _ h => absurd h List.not_mem_nil)⟩)⟩)⟩)⟩)⟩)⟩)⟩
theorem kM_stands_37 : Bok "HerbWatersModel" prog_14_method_30_code (37, bM_stands_37, 39) := ⟨by decide +kernel, (List.forall_mem_cons.mpr ⟨sC0, (List.forall_mem_cons.mpr ⟨sSI2, (fun _ h => absurd h List.not_mem_nil)⟩)⟩)⟩
theorem kM_stands_39 : Bok "HerbWatersModel" prog_14_method_30_code (39, bM_stands_39, 45) := ⟨by decide +kernel, (List.forall_mem_cons.mpr ⟨sLI2, (List.forall_mem_cons.mpr ⟨sBP, (List.forall_mem_cons.mpr ⟨sICge, (fun _ h => absurd h List.not_mem_nil)⟩)⟩)⟩)⟩
theorem kM_stands_45 : Bok "HerbWatersModel" prog_14_method_30_code (45, bM_stands_45, 67) := ⟨by decide +kernel, (List.forall_mem_cons.mpr ⟨sLA0, (List.forall_mem_cons.mpr ⟨lM_g31, (List.forall_mem_cons.mpr ⟨sLI1, (List.forall_mem_cons.mpr ⟨sAALD107, (List.forall_mem_cons.mpr ⟨sLI2, (List.forall_mem_cons.mpr ⟨sLA0, (List.forall_mem_cons.mpr ⟨lM_g28, (List.forall_mem_cons.mpr ⟨sLI1, (List.forall_mem_cons.mpr ⟨sAALD107, (List.forall_mem_cons.mpr ⟨sLI2, (List.forall_mem_cons.mpr ⟨sIALD, (List.forall_mem_cons.mpr ⟨sIAST, (List.forall_mem_cons.mpr ⟨sINC2, (List.forall_mem_cons.mpr ⟨sGO, (fun _ h => absurd h List.not_mem_nil)⟩)⟩)⟩)⟩)⟩)⟩)⟩)⟩)⟩)⟩)⟩)⟩)⟩)⟩)⟩
theorem kM_stands_67 : Bok "HerbWatersModel" prog_14_method_30_code (67, bM_stands_67, 73) := ⟨by decide +kernel, (List.forall_mem_cons.mpr ⟨sINC1, (List.forall_mem_cons.mpr ⟨sGO, (fun _ h => absurd h List.not_mem_nil)⟩)⟩)⟩
theorem kM_stands_73 : Bok "HerbWatersModel" prog_14_method_30_code (73, bM_stands_73, 75) := ⟨by decide +kernel, (List.forall_mem_cons.mpr ⟨sC0, (List.forall_mem_cons.mpr ⟨sSI1, (fun _ h => absurd h List.not_mem_nil)⟩)⟩)⟩
theorem kM_stands_75 : Bok "HerbWatersModel" prog_14_method_30_code (75, bM_stands_75, 85) := ⟨by decide +kernel, (List.forall_mem_cons.mpr ⟨sLI1, (List.forall_mem_cons.mpr ⟨sLA0, (List.forall_mem_cons.mpr ⟨lM_g23, (List.forall_mem_cons.mpr ⟨sC1, (List.forall_mem_cons.mpr ⟨sIALD, (List.forall_mem_cons.mpr ⟨sICge, (fun _ h => absurd h List.not_mem_nil)⟩)⟩)⟩)⟩)⟩)⟩)⟩
theorem kM_stands_85 : Bok "HerbWatersModel" prog_14_method_30_code (85, bM_stands_85, 87) := ⟨by decide +kernel, (List.forall_mem_cons.mpr ⟨sC0, (List.forall_mem_cons.mpr ⟨sSI2, (fun _ h => absurd h List.not_mem_nil)⟩)⟩)⟩
theorem kM_stands_87 : Bok "HerbWatersModel" prog_14_method_30_code (87, bM_stands_87, 92) := ⟨by decide +kernel, (List.forall_mem_cons.mpr ⟨sLI2, (List.forall_mem_cons.mpr ⟨sC3, (List.forall_mem_cons.mpr ⟨sICge, (fun _ h => absurd h List.not_mem_nil)⟩)⟩)⟩)⟩
theorem kM_stands_92 : Bok "HerbWatersModel" prog_14_method_30_code (92, bM_stands_92, 114) := ⟨by decide +kernel, (List.forall_mem_cons.mpr ⟨sLA0, (List.forall_mem_cons.mpr ⟨lM_g37, (List.forall_mem_cons.mpr ⟨sLI1, (List.forall_mem_cons.mpr ⟨sAALD107, (List.forall_mem_cons.mpr ⟨sLI2, (List.forall_mem_cons.mpr ⟨sLA0, (List.forall_mem_cons.mpr ⟨lM_g34, (List.forall_mem_cons.mpr ⟨sLI1, (List.forall_mem_cons.mpr ⟨sAALD107, (List.forall_mem_cons.mpr ⟨sLI2, (List.forall_mem_cons.mpr ⟨sIALD, (List.forall_mem_cons.mpr ⟨sIAST, (List.forall_mem_cons.mpr ⟨sINC2, (List.forall_mem_cons.mpr ⟨sGO, (fun _ h => absurd h List.not_mem_nil)⟩)⟩)⟩)⟩)⟩)⟩)⟩)⟩)⟩)⟩)⟩)⟩)⟩)⟩)⟩
theorem kM_stands_114 : Bok "HerbWatersModel" prog_14_method_30_code (114, bM_stands_114, 120) := ⟨by decide +kernel, (List.forall_mem_cons.mpr ⟨sINC1, (List.forall_mem_cons.mpr ⟨sGO, (fun _ h => absurd h List.not_mem_nil)⟩)⟩)⟩
theorem kM_stands_120 : Bok "HerbWatersModel" prog_14_method_30_code (120, bM_stands_120, 122) := ⟨by decide +kernel, (List.forall_mem_cons.mpr ⟨sC0, (List.forall_mem_cons.mpr ⟨sSI1, (fun _ h => absurd h List.not_mem_nil)⟩)⟩)⟩
theorem kM_stands_122 : Bok "HerbWatersModel" prog_14_method_30_code (122, bM_stands_122, 128) := ⟨by decide +kernel, (List.forall_mem_cons.mpr ⟨sLI1, (List.forall_mem_cons.mpr ⟨sBP, (List.forall_mem_cons.mpr ⟨sICge, (fun _ h => absurd h List.not_mem_nil)⟩)⟩)⟩)⟩
theorem kM_stands_128 : Bok "HerbWatersModel" prog_14_method_30_code (128, bM_stands_128, 155) := ⟨by decide +kernel, (List.forall_mem_cons.mpr ⟨sLA0, (List.forall_mem_cons.mpr ⟨lM_g40, (List.forall_mem_cons.mpr ⟨sLI1, (List.forall_mem_cons.mpr ⟨sC0, (List.forall_mem_cons.mpr ⟨sIAST, (List.forall_mem_cons.mpr ⟨sLA0, (List.forall_mem_cons.mpr ⟨lM_g43, (List.forall_mem_cons.mpr ⟨sLI1, (List.forall_mem_cons.mpr ⟨sC0, (List.forall_mem_cons.mpr ⟨sZAST, (List.forall_mem_cons.mpr ⟨sLA0, (List.forall_mem_cons.mpr ⟨lM_g74, (List.forall_mem_cons.mpr ⟨sLI1, (List.forall_mem_cons.mpr ⟨sC0, (List.forall_mem_cons.mpr ⟨sIAST, (List.forall_mem_cons.mpr ⟨sINC1, (List.forall_mem_cons.mpr ⟨sGO, (fun _ h => absurd h List.not_mem_nil)⟩)⟩)⟩)⟩)⟩)⟩)⟩)⟩)⟩)⟩)⟩)⟩)⟩)⟩)⟩)⟩)⟩)⟩
theorem kM_stands_155 : Bok "HerbWatersModel" prog_14_method_30_code (155, bM_stands_155, 157) := ⟨by decide +kernel, (List.forall_mem_cons.mpr ⟨sC0, (List.forall_mem_cons.mpr ⟨sSI1, (fun _ h => absurd h List.not_mem_nil)⟩)⟩)⟩
theorem kM_stands_157 : Bok "HerbWatersModel" prog_14_method_30_code (157, bM_stands_157, 164) := ⟨by decide +kernel, (List.forall_mem_cons.mpr ⟨sLI1, (List.forall_mem_cons.mpr ⟨sSP, (List.forall_mem_cons.mpr ⟨sICge, (fun _ h => absurd h List.not_mem_nil)⟩)⟩)⟩)⟩
theorem kM_stands_164 : Bok "HerbWatersModel" prog_14_method_30_code (164, bM_stands_164, 177) := ⟨by decide +kernel, (List.forall_mem_cons.mpr ⟨sLA0, (List.forall_mem_cons.mpr ⟨lM_g86, (List.forall_mem_cons.mpr ⟨sLI1, (List.forall_mem_cons.mpr ⟨sC0, (List.forall_mem_cons.mpr ⟨sIAST, (List.forall_mem_cons.mpr ⟨sINC1, (List.forall_mem_cons.mpr ⟨sGO, (fun _ h => absurd h List.not_mem_nil)⟩)⟩)⟩)⟩)⟩)⟩)⟩)⟩
theorem kM_stands_177 : Bok "HerbWatersModel" prog_14_method_30_code (177, bM_stands_177, 179) := ⟨by decide +kernel, (List.forall_mem_cons.mpr ⟨sC0, (List.forall_mem_cons.mpr ⟨sSI1, (fun _ h => absurd h List.not_mem_nil)⟩)⟩)⟩
theorem kM_stands_179 : Bok "HerbWatersModel" prog_14_method_30_code (179, bM_stands_179, 189) := ⟨by decide +kernel, (List.forall_mem_cons.mpr ⟨sLI1, (List.forall_mem_cons.mpr ⟨sLA0, (List.forall_mem_cons.mpr ⟨lM_g23, (List.forall_mem_cons.mpr ⟨sC0, (List.forall_mem_cons.mpr ⟨sIALD, (List.forall_mem_cons.mpr ⟨sICge, (fun _ h => absurd h List.not_mem_nil)⟩)⟩)⟩)⟩)⟩)⟩)⟩
theorem kM_stands_189 : Bok "HerbWatersModel" prog_14_method_30_code (189, bM_stands_189, 211) := ⟨by decide +kernel, (List.forall_mem_cons.mpr ⟨sLA0, (List.forall_mem_cons.mpr ⟨lM_g86, (List.forall_mem_cons.mpr ⟨sC0, (List.forall_mem_cons.mpr ⟨sLI1, (List.forall_mem_cons.mpr ⟨sADD, (List.forall_mem_cons.mpr ⟨sLA0, (List.forall_mem_cons.mpr ⟨lM_g31, (List.forall_mem_cons.mpr ⟨sLI1, (List.forall_mem_cons.mpr ⟨sAALD107, (List.forall_mem_cons.mpr ⟨sC0, (List.forall_mem_cons.mpr ⟨sIALD, (List.forall_mem_cons.mpr ⟨sIAST, (List.forall_mem_cons.mpr ⟨sINC1, (List.forall_mem_cons.mpr ⟨sGO, (fun _ h => absurd h List.not_mem_nil)⟩)⟩)⟩)⟩)⟩)⟩)⟩)⟩)⟩)⟩)⟩)⟩)⟩)⟩)⟩
theorem kM_stands_211 : Bok "HerbWatersModel" prog_14_method_30_code (211, bM_stands_211, 213) := ⟨by decide +kernel, (List.forall_mem_cons.mpr ⟨sC0, (List.forall_mem_cons.mpr ⟨sSI1, (fun _ h => absurd h List.not_mem_nil)⟩)⟩)⟩
theorem kM_stands_213 : Bok "HerbWatersModel" prog_14_method_30_code (213, bM_stands_213, 218) := ⟨by decide +kernel, (List.forall_mem_cons.mpr ⟨sLI1, (List.forall_mem_cons.mpr ⟨sC5, (List.forall_mem_cons.mpr ⟨sICge, (fun _ h => absurd h List.not_mem_nil)⟩)⟩)⟩)⟩
theorem kM_stands_218 : Bok "HerbWatersModel" prog_14_method_30_code (218, bM_stands_218, 220) := ⟨by decide +kernel, (List.forall_mem_cons.mpr ⟨sC0, (List.forall_mem_cons.mpr ⟨sSI2, (fun _ h => absurd h List.not_mem_nil)⟩)⟩)⟩
theorem kM_stands_220 : Bok "HerbWatersModel" prog_14_method_30_code (220, bM_stands_220, 230) := ⟨by decide +kernel, (List.forall_mem_cons.mpr ⟨sLI2, (List.forall_mem_cons.mpr ⟨sLA0, (List.forall_mem_cons.mpr ⟨lM_g23, (List.forall_mem_cons.mpr ⟨sC0, (List.forall_mem_cons.mpr ⟨sIALD, (List.forall_mem_cons.mpr ⟨sICge, (fun _ h => absurd h List.not_mem_nil)⟩)⟩)⟩)⟩)⟩)⟩)⟩
theorem kM_stands_230 : Bok "HerbWatersModel" prog_14_method_30_code (230, bM_stands_230, 261) := ⟨by decide +kernel, (List.forall_mem_cons.mpr ⟨sLA0, (List.forall_mem_cons.mpr ⟨lM_g86, (List.forall_mem_cons.mpr ⟨sSP, (List.forall_mem_cons.mpr ⟨sBP, (List.forall_mem_cons.mpr ⟨sLI1, (List.forall_mem_cons.mpr ⟨sMUL, (List.forall_mem_cons.mpr ⟨sADD, (List.forall_mem_cons.mpr ⟨sC4, (List.forall_mem_cons.mpr ⟨sLI2, (List.forall_mem_cons.mpr ⟨sMUL, (List.forall_mem_cons.mpr ⟨sADD, (List.forall_mem_cons.mpr ⟨sLA0, (List.forall_mem_cons.mpr ⟨lM_g31, (List.forall_mem_cons.mpr ⟨sLI2, (List.forall_mem_cons.mpr ⟨sAALD107, (List.forall_mem_cons.mpr ⟨sC0, (List.forall_mem_cons.mpr ⟨sIALD, (List.forall_mem_cons.mpr ⟨sIAST, (List.forall_mem_cons.mpr ⟨sINC2, (List.forall_mem_cons.mpr ⟨sGO, (fun _ h => absurd h List.not_mem_nil)⟩)⟩)⟩)⟩)⟩)⟩)⟩)⟩)⟩)⟩)⟩)⟩)⟩)⟩)⟩)⟩)⟩)⟩)⟩)⟩)⟩
theorem kM_stands_261 : Bok "HerbWatersModel" prog_14_method_30_code (261, bM_stands_261, 267) := ⟨by decide +kernel, (List.forall_mem_cons.mpr ⟨sINC1, (List.forall_mem_cons.mpr ⟨sGO, (fun _ h => absurd h List.not_mem_nil)⟩)⟩)⟩
theorem kM_stands_267 : Bok "HerbWatersModel" prog_14_method_30_code (267, bM_stands_267, 303) := ⟨by decide +kernel, (List.forall_mem_cons.mpr ⟨sLA0, (List.forall_mem_cons.mpr ⟨lM_g86, (List.forall_mem_cons.mpr ⟨sLA0, (List.forall_mem_cons.mpr ⟨lM_g77, (List.forall_mem_cons.mpr ⟨lM_s231, (List.forall_mem_cons.mpr ⟨sLA0, (List.forall_mem_cons.mpr ⟨sC0, (List.forall_mem_cons.mpr ⟨lM_p235, (List.forall_mem_cons.mpr ⟨sLA0, (List.forall_mem_cons.mpr ⟨sC0, (List.forall_mem_cons.mpr ⟨lM_p238, (List.forall_mem_cons.mpr ⟨sLA0, (List.forall_mem_cons.mpr ⟨sC0, (List.forall_mem_cons.mpr ⟨lM_p241, (List.forall_mem_cons.mpr ⟨sLA0, (List.forall_mem_cons.mpr ⟨sC0, (List.forall_mem_cons.mpr ⟨lM_p244, (List.forall_mem_cons.mpr ⟨sLA0, (List.forall_mem_cons.mpr ⟨lM_v247, (List.forall_mem_cons.mpr ⟨sRV, (fun _ h => absurd h List.not_mem_nil)⟩)⟩)⟩)⟩)⟩)⟩)⟩)⟩)⟩)⟩)⟩)⟩)⟩)⟩)⟩)⟩)⟩)⟩)⟩)⟩)⟩
theorem kM_stands : ∀ q ∈ tM_stands, Bok "HerbWatersModel" prog_14_method_30_code q := (List.forall_mem_cons.mpr ⟨kM_stands_0, (List.forall_mem_cons.mpr ⟨kM_stands_2, (List.forall_mem_cons.mpr ⟨kM_stands_7, (List.forall_mem_cons.mpr ⟨kM_stands_25, (List.forall_mem_cons.mpr ⟨kM_stands_27, (List.forall_mem_cons.mpr ⟨kM_stands_37, (List.forall_mem_cons.mpr ⟨kM_stands_39, (List.forall_mem_cons.mpr ⟨kM_stands_45, (List.forall_mem_cons.mpr ⟨kM_stands_67, (List.forall_mem_cons.mpr ⟨kM_stands_73, (List.forall_mem_cons.mpr ⟨kM_stands_75, (List.forall_mem_cons.mpr ⟨kM_stands_85, (List.forall_mem_cons.mpr ⟨kM_stands_87, (List.forall_mem_cons.mpr ⟨kM_stands_92, (List.forall_mem_cons.mpr ⟨kM_stands_114, (List.forall_mem_cons.mpr ⟨kM_stands_120, (List.forall_mem_cons.mpr ⟨kM_stands_122, (List.forall_mem_cons.mpr ⟨kM_stands_128, (List.forall_mem_cons.mpr ⟨kM_stands_155, (List.forall_mem_cons.mpr ⟨kM_stands_157, (List.forall_mem_cons.mpr ⟨kM_stands_164, (List.forall_mem_cons.mpr ⟨kM_stands_177, (List.forall_mem_cons.mpr ⟨kM_stands_179, (List.forall_mem_cons.mpr ⟨kM_stands_189, (List.forall_mem_cons.mpr ⟨kM_stands_211, (List.forall_mem_cons.mpr ⟨kM_stands_213, (List.forall_mem_cons.mpr ⟨kM_stands_218, (List.forall_mem_cons.mpr ⟨kM_stands_220, (List.forall_mem_cons.mpr ⟨kM_stands_230, (List.forall_mem_cons.mpr ⟨kM_stands_261, (List.forall_mem_cons.mpr ⟨kM_stands_267, (fun _ h => absurd h List.not_mem_nil)⟩)⟩)⟩)⟩)⟩)⟩)⟩)⟩)⟩)⟩)⟩)⟩)⟩)⟩)⟩)⟩)⟩)⟩)⟩)⟩)⟩)⟩)⟩)⟩)⟩)⟩)⟩)⟩)⟩)⟩)⟩)
def bM_copies_0 : List Ir := [iC0, iSI2]
def bM_copies_2 : List Ir := [iLI2, (iSP 502), (iICge (15) 21)]
def bM_copies_9 : List Ir := [iLA1, iLI2, iLA0, iLI2, iIALD, iIAST, (iINC2 1), (iGO (-16) 2)]
def bM_copies_21 : List Ir := [iRV]
def tM_copies : Tb := [(0, bM_copies_0, 2), (2, bM_copies_2, 9), (9, bM_copies_9, 21), (21, bM_copies_21, 22)]
theorem fM_copies_0 : tbf tM_copies 0 = some (bM_copies_0, 2) := rfl
theorem fM_copies_2 : tbf tM_copies 2 = some (bM_copies_2, 9) := rfl
theorem fM_copies_9 : tbf tM_copies 9 = some (bM_copies_9, 21) := rfl
theorem fM_copies_21 : tbf tM_copies 21 = some (bM_copies_21, 22) := rfl
theorem kM_copies_0 : Bok "HerbWatersModel" prog_14_method_31_code (0, bM_copies_0, 2) := ⟨by decide +kernel, (List.forall_mem_cons.mpr ⟨sC0, (List.forall_mem_cons.mpr ⟨sSI2, (fun _ h => absurd h List.not_mem_nil)⟩)⟩)⟩
theorem kM_copies_2 : Bok "HerbWatersModel" prog_14_method_31_code (2, bM_copies_2, 9) := ⟨by decide +kernel, (List.forall_mem_cons.mpr ⟨sLI2, (List.forall_mem_cons.mpr ⟨sSP, (List.forall_mem_cons.mpr ⟨sICge, (fun _ h => absurd h List.not_mem_nil)⟩)⟩)⟩)⟩
theorem kM_copies_9 : Bok "HerbWatersModel" prog_14_method_31_code (9, bM_copies_9, 21) := ⟨by decide +kernel, (List.forall_mem_cons.mpr ⟨sLA1, (List.forall_mem_cons.mpr ⟨sLI2, (List.forall_mem_cons.mpr ⟨sLA0, (List.forall_mem_cons.mpr ⟨sLI2, (List.forall_mem_cons.mpr ⟨sIALD, (List.forall_mem_cons.mpr ⟨sIAST, (List.forall_mem_cons.mpr ⟨sINC2, (List.forall_mem_cons.mpr ⟨sGO, (fun _ h => absurd h List.not_mem_nil)⟩)⟩)⟩)⟩)⟩)⟩)⟩)⟩)⟩
theorem kM_copies_21 : Bok "HerbWatersModel" prog_14_method_31_code (21, bM_copies_21, 22) := ⟨by decide +kernel, (List.forall_mem_cons.mpr ⟨sRV, (fun _ h => absurd h List.not_mem_nil)⟩)⟩
theorem kM_copies : ∀ q ∈ tM_copies, Bok "HerbWatersModel" prog_14_method_31_code q := (List.forall_mem_cons.mpr ⟨kM_copies_0, (List.forall_mem_cons.mpr ⟨kM_copies_2, (List.forall_mem_cons.mpr ⟨kM_copies_9, (List.forall_mem_cons.mpr ⟨kM_copies_21, (fun _ h => absurd h List.not_mem_nil)⟩)⟩)⟩)⟩)
theorem lM_g80 : Snd "HerbWatersModel" (iGR 80 11 33) := sGR _ rfl (gtb_mem 1756 (by decide +kernel) rfl)
theorem lM_p250 : Snd "HerbWatersModel" (iPI 250 11 39) := sPI _ rfl rfl (gtb_mem 1762 (by decide +kernel) rfl)
def bM_settles_0 : List Ir := [iLA0, (iGR 77 11 32), iLA0, (iGR 80 11 33), (iCS2 231 mM_copies), iLA0, iC0, (iPI 250 11 39), iRV]
def tM_settles : Tb := [(0, bM_settles_0, 17)]
theorem fM_settles_0 : tbf tM_settles 0 = some (bM_settles_0, 17) := rfl
theorem kM_settles_0 : Bok "HerbWatersModel" prog_14_method_32_code (0, bM_settles_0, 17) := ⟨by decide +kernel, (List.forall_mem_cons.mpr ⟨sLA0, (List.forall_mem_cons.mpr ⟨lM_g77, (List.forall_mem_cons.mpr ⟨sLA0, (List.forall_mem_cons.mpr ⟨lM_g80, (List.forall_mem_cons.mpr ⟨lM_s231, (List.forall_mem_cons.mpr ⟨sLA0, (List.forall_mem_cons.mpr ⟨sC0, (List.forall_mem_cons.mpr ⟨lM_p250, (List.forall_mem_cons.mpr ⟨sRV, (fun _ h => absurd h List.not_mem_nil)⟩)⟩)⟩)⟩)⟩)⟩)⟩)⟩)⟩)⟩
theorem kM_settles : ∀ q ∈ tM_settles, Bok "HerbWatersModel" prog_14_method_32_code q := (List.forall_mem_cons.mpr ⟨kM_settles_0, (fun _ h => absurd h List.not_mem_nil)⟩)
def mM_says : Mt := (⟨"HerbWatersModel", "says", "(II)V"⟩, prog_14_method_33_code, 3, none)
theorem ok_M_says : Mok mM_says := ⟨gtb_mem 2027 (by decide +kernel) rfl, gtb_mem 107 (by decide +kernel) rfl, by decide +kernel, by decide⟩
theorem lM_g56 : Snd "HerbWatersModel" (iGR 56 11 22) := sGR _ rfl (gtb_mem 1745 (by decide +kernel) rfl)
theorem lM_g253 : Snd "HerbWatersModel" (iGI 253 11 26) := sGI _ rfl (gtb_mem 1749 (by decide +kernel) rfl)
theorem lM_p253 : Snd "HerbWatersModel" (iPI 253 11 26) := sPI _ rfl rfl (gtb_mem 1749 (by decide +kernel) rfl)
def bM_says_0 : List Ir := [iLA0, (iGI 139 11 5), (iIFeq (4) 8)]
def bM_says_7 : List Ir := [iRV]
def bM_says_8 : List Ir := [iLA0, (iGR 56 11 22), iC2, iLA0, (iGI 253 11 26), iMUL, iLI1, iIAST, iLA0, (iGR 56 11 22), iC2, iLA0, (iGI 253 11 26), iMUL, iC1, iADD, iLI2, iIAST, iLA0, iDUPr, (iGI 253 11 26), iC1, iADD, (iPI 253 11 26), iRV]
def tM_says : Tb := [(0, bM_says_0, 7), (7, bM_says_7, 8), (8, bM_says_8, 45)]
theorem fM_says_0 : tbf tM_says 0 = some (bM_says_0, 7) := rfl
theorem fM_says_7 : tbf tM_says 7 = some (bM_says_7, 8) := rfl
theorem fM_says_8 : tbf tM_says 8 = some (bM_says_8, 45) := rfl
theorem kM_says_0 : Bok "HerbWatersModel" prog_14_method_33_code (0, bM_says_0, 7) := ⟨by decide +kernel, (List.forall_mem_cons.mpr ⟨sLA0, (List.forall_mem_cons.mpr ⟨lM_g139, (List.forall_mem_cons.mpr ⟨sIFeq, (fun _ h => absurd h List.not_mem_nil)⟩)⟩)⟩)⟩
theorem kM_says_7 : Bok "HerbWatersModel" prog_14_method_33_code (7, bM_says_7, 8) := ⟨by decide +kernel, (List.forall_mem_cons.mpr ⟨sRV, (fun _ h => absurd h List.not_mem_nil)⟩)⟩
theorem kM_says_8 : Bok "HerbWatersModel" prog_14_method_33_code (8, bM_says_8, 45) := ⟨by decide +kernel, (List.forall_mem_cons.mpr ⟨sLA0, (List.forall_mem_cons.mpr ⟨lM_g56, (List.forall_mem_cons.mpr ⟨sC2, (List.forall_mem_cons.mpr ⟨sLA0, (List.forall_mem_cons.mpr ⟨lM_g253, (List.forall_mem_cons.mpr ⟨sMUL, (List.forall_mem_cons.mpr ⟨sLI1, (List.forall_mem_cons.mpr ⟨sIAST, (List.forall_mem_cons.mpr ⟨sLA0, (List.forall_mem_cons.mpr ⟨lM_g56, (List.forall_mem_cons.mpr ⟨sC2, (List.forall_mem_cons.mpr ⟨sLA0, (List.forall_mem_cons.mpr ⟨lM_g253, (List.forall_mem_cons.mpr ⟨sMUL, (List.forall_mem_cons.mpr ⟨sC1, (List.forall_mem_cons.mpr ⟨sADD, (List.forall_mem_cons.mpr ⟨sLI2, (List.forall_mem_cons.mpr ⟨sIAST, (List.forall_mem_cons.mpr ⟨sLA0, (List.forall_mem_cons.mpr ⟨sDUPr, (List.forall_mem_cons.mpr ⟨lM_g253, (List.forall_mem_cons.mpr ⟨sC1, (List.forall_mem_cons.mpr ⟨sADD, (List.forall_mem_cons.mpr ⟨lM_p253, (List.forall_mem_cons.mpr ⟨sRV, (fun _ h => absurd h List.not_mem_nil)⟩)⟩)⟩)⟩)⟩)⟩)⟩)⟩)⟩)⟩)⟩)⟩)⟩)⟩)⟩)⟩)⟩)⟩)⟩)⟩)⟩)⟩)⟩)⟩)⟩)⟩
theorem kM_says : ∀ q ∈ tM_says, Bok "HerbWatersModel" prog_14_method_33_code q := (List.forall_mem_cons.mpr ⟨kM_says_0, (List.forall_mem_cons.mpr ⟨kM_says_7, (List.forall_mem_cons.mpr ⟨kM_says_8, (fun _ h => absurd h List.not_mem_nil)⟩)⟩)⟩)
def mM_opens : Mt := (⟨"HerbWatersModel", "opens", "()Z"⟩, prog_14_method_34_code, 1, some .boolean)
theorem ok_M_opens : Mok mM_opens := ⟨gtb_mem 2023 (by decide +kernel) rfl, gtb_mem 107 (by decide +kernel) rfl, by decide +kernel, by decide⟩
theorem lM_g188 : Snd "HerbWatersModel" (iGI 188 11 8) := sGI _ rfl (gtb_mem 1731 (by decide +kernel) rfl)
def bM_opens_0 : List Ir := [iLA0, (iGI 139 11 5), (iIFne (24) 28)]
def bM_opens_7 : List Ir := [iLA0, (iGI 188 11 8), (iBP 6), (iICne (15) 28)]
def bM_opens_16 : List Ir := [iLA0, iC3, iLA0, (iGI 132 11 4), (iCV2 152 11 mM_wrong), (iGO (20) 45)]
def bM_opens_28 : List Ir := [iLA0, (iGI 139 11 5), (iIFne (13) 45)]
def bM_opens_35 : List Ir := [iLA0, iDUPr, (iGI 188 11 8), iC1, iADD, (iPI 188 11 8)]
def bM_opens_45 : List Ir := [iLA0, (iGI 139 11 5), (iIFne (7) 56)]
def bM_opens_52 : List Ir := [iC1, (iGO (4) 57)]
def bM_opens_56 : List Ir := [iC0]
def bM_opens_57 : List Ir := [iRI]
def tM_opens : Tb := [(0, bM_opens_0, 7), (7, bM_opens_7, 16), (16, bM_opens_16, 28), (28, bM_opens_28, 35), (35, bM_opens_35, 45), (45, bM_opens_45, 52), (52, bM_opens_52, 56), (56, bM_opens_56, 57), (57, bM_opens_57, 58)]
theorem fM_opens_0 : tbf tM_opens 0 = some (bM_opens_0, 7) := rfl
theorem fM_opens_7 : tbf tM_opens 7 = some (bM_opens_7, 16) := rfl
theorem fM_opens_16 : tbf tM_opens 16 = some (bM_opens_16, 28) := rfl
theorem fM_opens_28 : tbf tM_opens 28 = some (bM_opens_28, 35) := rfl
theorem fM_opens_35 : tbf tM_opens 35 = some (bM_opens_35, 45) := rfl
theorem fM_opens_45 : tbf tM_opens 45 = some (bM_opens_45, 52) := rfl
theorem fM_opens_52 : tbf tM_opens 52 = some (bM_opens_52, 56) := rfl
theorem fM_opens_56 : tbf tM_opens 56 = some (bM_opens_56, 57) := rfl
theorem fM_opens_57 : tbf tM_opens 57 = some (bM_opens_57, 58) := rfl
theorem kM_opens_0 : Bok "HerbWatersModel" prog_14_method_34_code (0, bM_opens_0, 7) := ⟨by decide +kernel, (List.forall_mem_cons.mpr ⟨sLA0, (List.forall_mem_cons.mpr ⟨lM_g139, (List.forall_mem_cons.mpr ⟨sIFne, (fun _ h => absurd h List.not_mem_nil)⟩)⟩)⟩)⟩
theorem kM_opens_7 : Bok "HerbWatersModel" prog_14_method_34_code (7, bM_opens_7, 16) := ⟨by decide +kernel, (List.forall_mem_cons.mpr ⟨sLA0, (List.forall_mem_cons.mpr ⟨lM_g188, (List.forall_mem_cons.mpr ⟨sBP, (List.forall_mem_cons.mpr ⟨sICne, (fun _ h => absurd h List.not_mem_nil)⟩)⟩)⟩)⟩)⟩
theorem kM_opens_16 : Bok "HerbWatersModel" prog_14_method_34_code (16, bM_opens_16, 28) := ⟨by decide +kernel, (List.forall_mem_cons.mpr ⟨sLA0, (List.forall_mem_cons.mpr ⟨sC3, (List.forall_mem_cons.mpr ⟨sLA0, (List.forall_mem_cons.mpr ⟨lM_g132, (List.forall_mem_cons.mpr ⟨lM_v152, (List.forall_mem_cons.mpr ⟨sGO, (fun _ h => absurd h List.not_mem_nil)⟩)⟩)⟩)⟩)⟩)⟩)⟩
theorem kM_opens_28 : Bok "HerbWatersModel" prog_14_method_34_code (28, bM_opens_28, 35) := ⟨by decide +kernel, (List.forall_mem_cons.mpr ⟨sLA0, (List.forall_mem_cons.mpr ⟨lM_g139, (List.forall_mem_cons.mpr ⟨sIFne, (fun _ h => absurd h List.not_mem_nil)⟩)⟩)⟩)⟩
theorem kM_opens_35 : Bok "HerbWatersModel" prog_14_method_34_code (35, bM_opens_35, 45) := ⟨by decide +kernel, (List.forall_mem_cons.mpr ⟨sLA0, (List.forall_mem_cons.mpr ⟨sDUPr, (List.forall_mem_cons.mpr ⟨lM_g188, (List.forall_mem_cons.mpr ⟨sC1, (List.forall_mem_cons.mpr ⟨sADD, (List.forall_mem_cons.mpr ⟨lM_p188, (fun _ h => absurd h List.not_mem_nil)⟩)⟩)⟩)⟩)⟩)⟩)⟩
theorem kM_opens_45 : Bok "HerbWatersModel" prog_14_method_34_code (45, bM_opens_45, 52) := ⟨by decide +kernel, (List.forall_mem_cons.mpr ⟨sLA0, (List.forall_mem_cons.mpr ⟨lM_g139, (List.forall_mem_cons.mpr ⟨sIFne, (fun _ h => absurd h List.not_mem_nil)⟩)⟩)⟩)⟩
theorem kM_opens_52 : Bok "HerbWatersModel" prog_14_method_34_code (52, bM_opens_52, 56) := ⟨by decide +kernel, (List.forall_mem_cons.mpr ⟨sC1, (List.forall_mem_cons.mpr ⟨sGO, (fun _ h => absurd h List.not_mem_nil)⟩)⟩)⟩
theorem kM_opens_56 : Bok "HerbWatersModel" prog_14_method_34_code (56, bM_opens_56, 57) := ⟨by decide +kernel, (List.forall_mem_cons.mpr ⟨sC0, (fun _ h => absurd h List.not_mem_nil)⟩)⟩
theorem kM_opens_57 : Bok "HerbWatersModel" prog_14_method_34_code (57, bM_opens_57, 58) := ⟨by decide +kernel, (List.forall_mem_cons.mpr ⟨sRI, (fun _ h => absurd h List.not_mem_nil)⟩)⟩
theorem kM_opens : ∀ q ∈ tM_opens, Bok "HerbWatersModel" prog_14_method_34_code q := (List.forall_mem_cons.mpr ⟨kM_opens_0, (List.forall_mem_cons.mpr ⟨kM_opens_7, (List.forall_mem_cons.mpr ⟨kM_opens_16, (List.forall_mem_cons.mpr ⟨kM_opens_28, (List.forall_mem_cons.mpr ⟨kM_opens_35, (List.forall_mem_cons.mpr ⟨kM_opens_45, (List.forall_mem_cons.mpr ⟨kM_opens_52, (List.forall_mem_cons.mpr ⟨kM_opens_56, (List.forall_mem_cons.mpr ⟨kM_opens_57, (fun _ h => absurd h List.not_mem_nil)⟩)⟩)⟩)⟩)⟩)⟩)⟩)⟩)⟩)
def mM_anyOf : Mt := (⟨"HerbWatersModel", "anyOf", "()V"⟩, prog_14_method_35_code, 1, none)
theorem ok_M_anyOf : Mok mM_anyOf := ⟨gtb_mem 2035 (by decide +kernel) rfl, gtb_mem 107 (by decide +kernel) rfl, by decide +kernel, by decide⟩
def mM_eachOf : Mt := (⟨"HerbWatersModel", "eachOf", "()V"⟩, prog_14_method_36_code, 1, none)
theorem ok_M_eachOf : Mok mM_eachOf := ⟨gtb_mem 2039 (by decide +kernel) rfl, gtb_mem 107 (by decide +kernel) rfl, by decide +kernel, by decide⟩
theorem lM_v256 : Snd "HerbWatersModel" (iCV0 256 11 mM_eachOf) := sCV0 _ rfl rfl ok_M_eachOf (gtb_mem 2038 (by decide +kernel) rfl) (gtb_mem 70 (by decide +kernel) rfl) (gtb_mem 2036 (by decide +kernel) rfl)
theorem lM_v259 : Snd "HerbWatersModel" (iCV2 259 11 mM_says) := sCV2 _ rfl rfl ok_M_says (gtb_mem 2026 (by decide +kernel) rfl) (gtb_mem 67 (by decide +kernel) rfl) (gtb_mem 2024 (by decide +kernel) rfl)
def bM_anyOf_0 : List Ir := [iLA0, (iCV0 256 11 mM_eachOf)]
def bM_anyOf_4 : List Ir := [iLA0, (iBP 15), (iBP 18), iC0, iC0, iC0, iC0, iC0, (iCV7 195 11 mM_takes), (iIFeq (17) 34)]
def bM_anyOf_20 : List Ir := [iLA0, (iCV0 256 11 mM_eachOf), iLA0, (iBP 11), iC0, (iCV2 259 11 mM_says), (iGO (-27) 4)]
def bM_anyOf_34 : List Ir := [iRV]
def tM_anyOf : Tb := [(0, bM_anyOf_0, 4), (4, bM_anyOf_4, 20), (20, bM_anyOf_20, 34), (34, bM_anyOf_34, 35)]
theorem fM_anyOf_0 : tbf tM_anyOf 0 = some (bM_anyOf_0, 4) := rfl
theorem fM_anyOf_4 : tbf tM_anyOf 4 = some (bM_anyOf_4, 20) := rfl
theorem fM_anyOf_20 : tbf tM_anyOf 20 = some (bM_anyOf_20, 34) := rfl
theorem fM_anyOf_34 : tbf tM_anyOf 34 = some (bM_anyOf_34, 35) := rfl
theorem kM_anyOf_0 : Bok "HerbWatersModel" prog_14_method_35_code (0, bM_anyOf_0, 4) := ⟨by decide +kernel, (List.forall_mem_cons.mpr ⟨sLA0, (List.forall_mem_cons.mpr ⟨lM_v256, (fun _ h => absurd h List.not_mem_nil)⟩)⟩)⟩
theorem kM_anyOf_4 : Bok "HerbWatersModel" prog_14_method_35_code (4, bM_anyOf_4, 20) := ⟨by decide +kernel, (List.forall_mem_cons.mpr ⟨sLA0, (List.forall_mem_cons.mpr ⟨sBP, (List.forall_mem_cons.mpr ⟨sBP, (List.forall_mem_cons.mpr ⟨sC0, (List.forall_mem_cons.mpr ⟨sC0, (List.forall_mem_cons.mpr ⟨sC0, (List.forall_mem_cons.mpr ⟨sC0, (List.forall_mem_cons.mpr ⟨sC0, (List.forall_mem_cons.mpr ⟨lM_v195, (List.forall_mem_cons.mpr ⟨sIFeq, (fun _ h => absurd h List.not_mem_nil)⟩)⟩)⟩)⟩)⟩)⟩)⟩)⟩)⟩)⟩)⟩
theorem kM_anyOf_20 : Bok "HerbWatersModel" prog_14_method_35_code (20, bM_anyOf_20, 34) := ⟨by decide +kernel, (List.forall_mem_cons.mpr ⟨sLA0, (List.forall_mem_cons.mpr ⟨lM_v256, (List.forall_mem_cons.mpr ⟨sLA0, (List.forall_mem_cons.mpr ⟨sBP, (List.forall_mem_cons.mpr ⟨sC0, (List.forall_mem_cons.mpr ⟨lM_v259, (List.forall_mem_cons.mpr ⟨sGO, (fun _ h => absurd h List.not_mem_nil)⟩)⟩)⟩)⟩)⟩)⟩)⟩)⟩
theorem kM_anyOf_34 : Bok "HerbWatersModel" prog_14_method_35_code (34, bM_anyOf_34, 35) := ⟨by decide +kernel, (List.forall_mem_cons.mpr ⟨sRV, (fun _ h => absurd h List.not_mem_nil)⟩)⟩
theorem kM_anyOf : ∀ q ∈ tM_anyOf, Bok "HerbWatersModel" prog_14_method_35_code q := (List.forall_mem_cons.mpr ⟨kM_anyOf_0, (List.forall_mem_cons.mpr ⟨kM_anyOf_4, (List.forall_mem_cons.mpr ⟨kM_anyOf_20, (List.forall_mem_cons.mpr ⟨kM_anyOf_34, (fun _ h => absurd h List.not_mem_nil)⟩)⟩)⟩)⟩)
def mM_oneOf : Mt := (⟨"HerbWatersModel", "oneOf", "()V"⟩, prog_14_method_37_code, 2, none)
theorem ok_M_oneOf : Mok mM_oneOf := ⟨gtb_mem 2043 (by decide +kernel) rfl, gtb_mem 107 (by decide +kernel) rfl, by decide +kernel, by decide⟩
theorem lM_v262 : Snd "HerbWatersModel" (iCV0 262 11 mM_oneOf) := sCV0 _ rfl rfl ok_M_oneOf (gtb_mem 2042 (by decide +kernel) rfl) (gtb_mem 71 (by decide +kernel) rfl) (gtb_mem 2040 (by decide +kernel) rfl)
def bM_eachOf_0 : List Ir := [iLA0, (iCV0 262 11 mM_oneOf)]
def bM_eachOf_4 : List Ir := [iLA0, iC1, (iBP 14), iC4, iC0, iC0, iC0, iC0, (iCV7 195 11 mM_takes), (iIFeq (17) 33)]
def bM_eachOf_19 : List Ir := [iLA0, (iCV0 262 11 mM_oneOf), iLA0, (iBP 10), iC0, (iCV2 259 11 mM_says), (iGO (-26) 4)]
def bM_eachOf_33 : List Ir := [iRV]
def tM_eachOf : Tb := [(0, bM_eachOf_0, 4), (4, bM_eachOf_4, 19), (19, bM_eachOf_19, 33), (33, bM_eachOf_33, 34)]
theorem fM_eachOf_0 : tbf tM_eachOf 0 = some (bM_eachOf_0, 4) := rfl
theorem fM_eachOf_4 : tbf tM_eachOf 4 = some (bM_eachOf_4, 19) := rfl
theorem fM_eachOf_19 : tbf tM_eachOf 19 = some (bM_eachOf_19, 33) := rfl
theorem fM_eachOf_33 : tbf tM_eachOf 33 = some (bM_eachOf_33, 34) := rfl
theorem kM_eachOf_0 : Bok "HerbWatersModel" prog_14_method_36_code (0, bM_eachOf_0, 4) := ⟨by decide +kernel, (List.forall_mem_cons.mpr ⟨sLA0, (List.forall_mem_cons.mpr ⟨lM_v262, (fun _ h => absurd h List.not_mem_nil)⟩)⟩)⟩
theorem kM_eachOf_4 : Bok "HerbWatersModel" prog_14_method_36_code (4, bM_eachOf_4, 19) := ⟨by decide +kernel, (List.forall_mem_cons.mpr ⟨sLA0, (List.forall_mem_cons.mpr ⟨sC1, (List.forall_mem_cons.mpr ⟨sBP, (List.forall_mem_cons.mpr ⟨sC4, (List.forall_mem_cons.mpr ⟨sC0, (List.forall_mem_cons.mpr ⟨sC0, (List.forall_mem_cons.mpr ⟨sC0, (List.forall_mem_cons.mpr ⟨sC0, (List.forall_mem_cons.mpr ⟨lM_v195, (List.forall_mem_cons.mpr ⟨sIFeq, (fun _ h => absurd h List.not_mem_nil)⟩)⟩)⟩)⟩)⟩)⟩)⟩)⟩)⟩)⟩)⟩
theorem kM_eachOf_19 : Bok "HerbWatersModel" prog_14_method_36_code (19, bM_eachOf_19, 33) := ⟨by decide +kernel, (List.forall_mem_cons.mpr ⟨sLA0, (List.forall_mem_cons.mpr ⟨lM_v262, (List.forall_mem_cons.mpr ⟨sLA0, (List.forall_mem_cons.mpr ⟨sBP, (List.forall_mem_cons.mpr ⟨sC0, (List.forall_mem_cons.mpr ⟨lM_v259, (List.forall_mem_cons.mpr ⟨sGO, (fun _ h => absurd h List.not_mem_nil)⟩)⟩)⟩)⟩)⟩)⟩)⟩)⟩
theorem kM_eachOf_33 : Bok "HerbWatersModel" prog_14_method_36_code (33, bM_eachOf_33, 34) := ⟨by decide +kernel, (List.forall_mem_cons.mpr ⟨sRV, (fun _ h => absurd h List.not_mem_nil)⟩)⟩
theorem kM_eachOf : ∀ q ∈ tM_eachOf, Bok "HerbWatersModel" prog_14_method_36_code q := (List.forall_mem_cons.mpr ⟨kM_eachOf_0, (List.forall_mem_cons.mpr ⟨kM_eachOf_4, (List.forall_mem_cons.mpr ⟨kM_eachOf_19, (List.forall_mem_cons.mpr ⟨kM_eachOf_33, (fun _ h => absurd h List.not_mem_nil)⟩)⟩)⟩)⟩)
