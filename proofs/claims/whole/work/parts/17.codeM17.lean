/-! code of HerbWatersModel; by program (wip/whole/gen_M.py) -/
def mM_image : Mt := (⟨"HerbWatersModel", "image", "()I"⟩, prog_14_method_99_code, 3, some .int)
theorem ok_M_image : Mok mM_image := ⟨gtb_mem 2265 (by decide +kernel) rfl, gtb_mem 107 (by decide +kernel) rfl, by decide +kernel, by decide⟩
theorem lM_g244 : Snd "HerbWatersModel" (iGI 244 11 40) := sGI _ rfl (gtb_mem 1763 (by decide +kernel) rfl)
theorem lM_g71 : Snd "HerbWatersModel" (iGR 71 11 30) := sGR _ rfl (gtb_mem 1753 (by decide +kernel) rfl)
def bM_image_0 : List Ir := [iLA0, iC0, (iPI 123 11 0), iLA0, (iGI 244 11 40), iC3, (iICne (5) 15)]
def bM_image_13 : List Ir := [iCm1, iRI]
def bM_image_15 : List Ir := [iLA0, (iGR 71 11 30), iLA0, (iGI 244 11 40), iAALD107, iSA1, iLA0, (iGR 77 11 32), iLA1, (iCS2 231 mM_copies), iLA1, (iSP 502), iLA0, (iGI 238 11 37), iIAST, iLA1, (iSP 503), iLA0, (iGI 241 11 38), iIAST, iC0, iSI2]
def bM_image_53 : List Ir := [iLI2, (iBP 9), (iICge (22) 78)]
def bM_image_59 : List Ir := [iLA1, (iSP 504), iLI2, iADD, iLA0, (iGR 74 11 31), iLI2, iIALD, iIAST, (iINC2 1), (iGO (-22) 53)]
def bM_image_78 : List Ir := [iLA0, iDUPr, (iGI 244 11 40), iC1, iADD, (iPI 244 11 40), iLA0, (iGI 244 11 40), iRI]
def tM_image : Tb := [(0, bM_image_0, 13), (13, bM_image_13, 15), (15, bM_image_15, 53), (53, bM_image_53, 59), (59, bM_image_59, 78), (78, bM_image_78, 93)]
theorem fM_image_0 : tbf tM_image 0 = some (bM_image_0, 13) := rfl
theorem fM_image_13 : tbf tM_image 13 = some (bM_image_13, 15) := rfl
theorem fM_image_15 : tbf tM_image 15 = some (bM_image_15, 53) := rfl
theorem fM_image_53 : tbf tM_image 53 = some (bM_image_53, 59) := rfl
theorem fM_image_59 : tbf tM_image 59 = some (bM_image_59, 78) := rfl
theorem fM_image_78 : tbf tM_image 78 = some (bM_image_78, 93) := rfl
theorem kM_image_0 : Bok "HerbWatersModel" prog_14_method_99_code (0, bM_image_0, 13) := ⟨by decide +kernel, (List.forall_mem_cons.mpr ⟨sLA0, (List.forall_mem_cons.mpr ⟨sC0, (List.forall_mem_cons.mpr ⟨lM_p123, (List.forall_mem_cons.mpr ⟨sLA0, (List.forall_mem_cons.mpr ⟨lM_g244, (List.forall_mem_cons.mpr ⟨sC3, (List.forall_mem_cons.mpr ⟨sICne, (fun _ h => absurd h List.not_mem_nil)⟩)⟩)⟩)⟩)⟩)⟩)⟩)⟩
theorem kM_image_13 : Bok "HerbWatersModel" prog_14_method_99_code (13, bM_image_13, 15) := ⟨by decide +kernel, (List.forall_mem_cons.mpr ⟨sCm1, (List.forall_mem_cons.mpr ⟨sRI, (fun _ h => absurd h List.not_mem_nil)⟩)⟩)⟩
theorem kM_image_15 : Bok "HerbWatersModel" prog_14_method_99_code (15, bM_image_15, 53) := ⟨by decide +kernel, (List.forall_mem_cons.mpr ⟨sLA0, (List.forall_mem_cons.mpr ⟨lM_g71, (List.forall_mem_cons.mpr ⟨sLA0, (List.forall_mem_cons.mpr ⟨lM_g244, (List.forall_mem_cons.mpr ⟨sAALD107, (List.forall_mem_cons.mpr ⟨sSA1, (List.forall_mem_cons.mpr ⟨sLA0, (List.forall_mem_cons.mpr ⟨lM_g77, (List.forall_mem_cons.mpr ⟨sLA1, (List.forall_mem_cons.mpr ⟨lM_s231, (List.forall_mem_cons.mpr ⟨sLA1, (List.forall_mem_cons.mpr ⟨sSP, (List.forall_mem_cons.mpr ⟨sLA0, (List.forall_mem_cons.mpr ⟨lM_g238, (List.forall_mem_cons.mpr ⟨sIAST, (List.forall_mem_cons.mpr ⟨sLA1, (List.forall_mem_cons.mpr ⟨sSP, (List.forall_mem_cons.mpr ⟨sLA0, (List.forall_mem_cons.mpr ⟨lM_g241, (List.forall_mem_cons.mpr ⟨sIAST, (List.forall_mem_cons.mpr ⟨sC0, (List.forall_mem_cons.mpr ⟨sSI2, (fun _ h => absurd h List.not_mem_nil)⟩)⟩)⟩)⟩)⟩)⟩)⟩)⟩)⟩)⟩)⟩)⟩)⟩)⟩)⟩)⟩)⟩)⟩)⟩)⟩)⟩)⟩)⟩
theorem kM_image_53 : Bok "HerbWatersModel" prog_14_method_99_code (53, bM_image_53, 59) := ⟨by decide +kernel, (List.forall_mem_cons.mpr ⟨sLI2, (List.forall_mem_cons.mpr ⟨sBP, (List.forall_mem_cons.mpr ⟨sICge, (fun _ h => absurd h List.not_mem_nil)⟩)⟩)⟩)⟩
theorem kM_image_59 : Bok "HerbWatersModel" prog_14_method_99_code (59, bM_image_59, 78) := ⟨by decide +kernel, (List.forall_mem_cons.mpr ⟨sLA1, (List.forall_mem_cons.mpr ⟨sSP, (List.forall_mem_cons.mpr ⟨sLI2, (List.forall_mem_cons.mpr ⟨sADD, (List.forall_mem_cons.mpr ⟨sLA0, (List.forall_mem_cons.mpr ⟨lM_g74, (List.forall_mem_cons.mpr ⟨sLI2, (List.forall_mem_cons.mpr ⟨sIALD, (List.forall_mem_cons.mpr ⟨sIAST, (List.forall_mem_cons.mpr ⟨sINC2, (List.forall_mem_cons.mpr ⟨sGO, (fun _ h => absurd h List.not_mem_nil)⟩)⟩)⟩)⟩)⟩)⟩)⟩)⟩)⟩)⟩)⟩)⟩
theorem kM_image_78 : Bok "HerbWatersModel" prog_14_method_99_code (78, bM_image_78, 93) := ⟨by decide +kernel, (List.forall_mem_cons.mpr ⟨sLA0, (List.forall_mem_cons.mpr ⟨sDUPr, (List.forall_mem_cons.mpr ⟨lM_g244, (List.forall_mem_cons.mpr ⟨sC1, (List.forall_mem_cons.mpr ⟨sADD, (List.forall_mem_cons.mpr ⟨lM_p244, (List.forall_mem_cons.mpr ⟨sLA0, (List.forall_mem_cons.mpr ⟨lM_g244, (List.forall_mem_cons.mpr ⟨sRI, (fun _ h => absurd h List.not_mem_nil)⟩)⟩)⟩)⟩)⟩)⟩)⟩)⟩)⟩)⟩
theorem kM_image : ∀ q ∈ tM_image, Bok "HerbWatersModel" prog_14_method_99_code q := (List.forall_mem_cons.mpr ⟨kM_image_0, (List.forall_mem_cons.mpr ⟨kM_image_13, (List.forall_mem_cons.mpr ⟨kM_image_15, (List.forall_mem_cons.mpr ⟨kM_image_53, (List.forall_mem_cons.mpr ⟨kM_image_59, (List.forall_mem_cons.mpr ⟨kM_image_78, (fun _ h => absurd h List.not_mem_nil)⟩)⟩)⟩)⟩)⟩)⟩)
def mM_restore : Mt := (⟨"HerbWatersModel", "restore", "()I"⟩, prog_14_method_100_code, 3, some .int)
theorem ok_M_restore : Mok mM_restore := ⟨gtb_mem 2269 (by decide +kernel) rfl, gtb_mem 107 (by decide +kernel) rfl, by decide +kernel, by decide⟩
def bM_restore_0 : List Ir := [iLA0, iC0, (iPI 123 11 0), iLA0, (iGI 244 11 40), (iIFne (5) 14)]
def bM_restore_12 : List Ir := [iCm1, iRI]
def bM_restore_14 : List Ir := [iLA0, iDUPr, (iGI 244 11 40), iC1, iSUB, (iPI 244 11 40), iLA0, (iGR 71 11 30), iLA0, (iGI 244 11 40), iAALD107, iSA1, iLA1, iLA0, (iGR 77 11 32), (iCS2 231 mM_copies), iLA0, iLA1, (iSP 502), iIALD, (iPI 238 11 37), iLA0, iLA1, (iSP 503), iIALD, (iPI 241 11 38), iC0, iSI2]
def bM_restore_62 : List Ir := [iLI2, (iBP 9), (iICge (22) 87)]
def bM_restore_68 : List Ir := [iLA0, (iGR 74 11 31), iLI2, iLA1, (iSP 504), iLI2, iADD, iIALD, iIAST, (iINC2 1), (iGO (-22) 62)]
def bM_restore_87 : List Ir := [iLA0, (iCV0 247 11 mM_settles), iLA0, (iGI 244 11 40), iRI]
def tM_restore : Tb := [(0, bM_restore_0, 12), (12, bM_restore_12, 14), (14, bM_restore_14, 62), (62, bM_restore_62, 68), (68, bM_restore_68, 87), (87, bM_restore_87, 96)]
theorem fM_restore_0 : tbf tM_restore 0 = some (bM_restore_0, 12) := rfl
theorem fM_restore_12 : tbf tM_restore 12 = some (bM_restore_12, 14) := rfl
theorem fM_restore_14 : tbf tM_restore 14 = some (bM_restore_14, 62) := rfl
theorem fM_restore_62 : tbf tM_restore 62 = some (bM_restore_62, 68) := rfl
theorem fM_restore_68 : tbf tM_restore 68 = some (bM_restore_68, 87) := rfl
theorem fM_restore_87 : tbf tM_restore 87 = some (bM_restore_87, 96) := rfl
theorem kM_restore_0 : Bok "HerbWatersModel" prog_14_method_100_code (0, bM_restore_0, 12) := ⟨by decide +kernel, (List.forall_mem_cons.mpr ⟨sLA0, (List.forall_mem_cons.mpr ⟨sC0, (List.forall_mem_cons.mpr ⟨lM_p123, (List.forall_mem_cons.mpr ⟨sLA0, (List.forall_mem_cons.mpr ⟨lM_g244, (List.forall_mem_cons.mpr ⟨sIFne, (fun _ h => absurd h List.not_mem_nil)⟩)⟩)⟩)⟩)⟩)⟩)⟩
theorem kM_restore_12 : Bok "HerbWatersModel" prog_14_method_100_code (12, bM_restore_12, 14) := ⟨by decide +kernel, (List.forall_mem_cons.mpr ⟨sCm1, (List.forall_mem_cons.mpr ⟨sRI, (fun _ h => absurd h List.not_mem_nil)⟩)⟩)⟩
theorem kM_restore_14 : Bok "HerbWatersModel" prog_14_method_100_code (14, bM_restore_14, 62) := ⟨by decide +kernel, (List.forall_mem_cons.mpr ⟨sLA0, (List.forall_mem_cons.mpr ⟨sDUPr, (List.forall_mem_cons.mpr ⟨lM_g244, (List.forall_mem_cons.mpr ⟨sC1, (List.forall_mem_cons.mpr ⟨sSUB, (List.forall_mem_cons.mpr ⟨lM_p244, (List.forall_mem_cons.mpr ⟨sLA0, (List.forall_mem_cons.mpr ⟨lM_g71, (List.forall_mem_cons.mpr ⟨sLA0, (List.forall_mem_cons.mpr ⟨lM_g244, (List.forall_mem_cons.mpr ⟨sAALD107, (List.forall_mem_cons.mpr ⟨sSA1, (List.forall_mem_cons.mpr ⟨sLA1, (List.forall_mem_cons.mpr ⟨sLA0, (List.forall_mem_cons.mpr ⟨lM_g77, (List.forall_mem_cons.mpr ⟨lM_s231, (List.forall_mem_cons.mpr ⟨sLA0, (List.forall_mem_cons.mpr ⟨sLA1, (List.forall_mem_cons.mpr ⟨sSP, (List.forall_mem_cons.mpr ⟨sIALD, (List.forall_mem_cons.mpr ⟨lM_p238, (List.forall_mem_cons.mpr ⟨sLA0, (List.forall_mem_cons.mpr ⟨sLA1, (List.forall_mem_cons.mpr ⟨sSP, (List.forall_mem_cons.mpr ⟨sIALD, (List.forall_mem_cons.mpr ⟨lM_p241, (List.forall_mem_cons.mpr ⟨sC0, (List.forall_mem_cons.mpr ⟨sSI2, (fun _ h => absurd h List.not_mem_nil)⟩)⟩)⟩)⟩)⟩)⟩)⟩)⟩)⟩)⟩)⟩)⟩)⟩)⟩)⟩)⟩)⟩)⟩)⟩)⟩)⟩)⟩)⟩)⟩)⟩)⟩)⟩)⟩)⟩
theorem kM_restore_62 : Bok "HerbWatersModel" prog_14_method_100_code (62, bM_restore_62, 68) := ⟨by decide +kernel, (List.forall_mem_cons.mpr ⟨sLI2, (List.forall_mem_cons.mpr ⟨sBP, (List.forall_mem_cons.mpr ⟨sICge, (fun _ h => absurd h List.not_mem_nil)⟩)⟩)⟩)⟩
theorem kM_restore_68 : Bok "HerbWatersModel" prog_14_method_100_code (68, bM_restore_68, 87) := ⟨by decide +kernel, (List.forall_mem_cons.mpr ⟨sLA0, (List.forall_mem_cons.mpr ⟨lM_g74, (List.forall_mem_cons.mpr ⟨sLI2, (List.forall_mem_cons.mpr ⟨sLA1, (List.forall_mem_cons.mpr ⟨sSP, (List.forall_mem_cons.mpr ⟨sLI2, (List.forall_mem_cons.mpr ⟨sADD, (List.forall_mem_cons.mpr ⟨sIALD, (List.forall_mem_cons.mpr ⟨sIAST, (List.forall_mem_cons.mpr ⟨sINC2, (List.forall_mem_cons.mpr ⟨sGO, (fun _ h => absurd h List.not_mem_nil)⟩)⟩)⟩)⟩)⟩)⟩)⟩)⟩)⟩)⟩)⟩)⟩
theorem kM_restore_87 : Bok "HerbWatersModel" prog_14_method_100_code (87, bM_restore_87, 96) := ⟨by decide +kernel, (List.forall_mem_cons.mpr ⟨sLA0, (List.forall_mem_cons.mpr ⟨lM_v247, (List.forall_mem_cons.mpr ⟨sLA0, (List.forall_mem_cons.mpr ⟨lM_g244, (List.forall_mem_cons.mpr ⟨sRI, (fun _ h => absurd h List.not_mem_nil)⟩)⟩)⟩)⟩)⟩)⟩
theorem kM_restore : ∀ q ∈ tM_restore, Bok "HerbWatersModel" prog_14_method_100_code q := (List.forall_mem_cons.mpr ⟨kM_restore_0, (List.forall_mem_cons.mpr ⟨kM_restore_12, (List.forall_mem_cons.mpr ⟨kM_restore_14, (List.forall_mem_cons.mpr ⟨kM_restore_62, (List.forall_mem_cons.mpr ⟨kM_restore_68, (List.forall_mem_cons.mpr ⟨kM_restore_87, (fun _ h => absurd h List.not_mem_nil)⟩)⟩)⟩)⟩)⟩)⟩)
def mM_status : Mt := (⟨"HerbWatersModel", "status", "(I)I"⟩, prog_14_method_101_code, 2, some .int)
theorem ok_M_status : Mok mM_status := ⟨gtb_mem 2273 (by decide +kernel) rfl, gtb_mem 107 (by decide +kernel) rfl, by decide +kernel, by decide⟩
def bM_status_0 : List Ir := [iLA0, iC0, (iPI 123 11 0), iLI1, iC0, iC1, (iCS3 157 mM_in), (iIFeq (12) 23)]
def bM_status_14 : List Ir := [iLA0, (iGR 17 11 10), iLI1, iIALD, (iGO (4) 24)]
def bM_status_23 : List Ir := [iCm1]
def bM_status_24 : List Ir := [iRI]
def tM_status : Tb := [(0, bM_status_0, 14), (14, bM_status_14, 23), (23, bM_status_23, 24), (24, bM_status_24, 25)]
theorem fM_status_0 : tbf tM_status 0 = some (bM_status_0, 14) := rfl
theorem fM_status_14 : tbf tM_status 14 = some (bM_status_14, 23) := rfl
theorem fM_status_23 : tbf tM_status 23 = some (bM_status_23, 24) := rfl
theorem fM_status_24 : tbf tM_status 24 = some (bM_status_24, 25) := rfl
theorem kM_status_0 : Bok "HerbWatersModel" prog_14_method_101_code (0, bM_status_0, 14) := ⟨by decide +kernel, (List.forall_mem_cons.mpr ⟨sLA0, (List.forall_mem_cons.mpr ⟨sC0, (List.forall_mem_cons.mpr ⟨lM_p123, (List.forall_mem_cons.mpr ⟨sLI1, (List.forall_mem_cons.mpr ⟨sC0, (List.forall_mem_cons.mpr ⟨sC1, (List.forall_mem_cons.mpr ⟨lM_s157, (List.forall_mem_cons.mpr ⟨sIFeq, (fun _ h => absurd h List.not_mem_nil)⟩)⟩)⟩)⟩)⟩)⟩)⟩)⟩)⟩
theorem kM_status_14 : Bok "HerbWatersModel" prog_14_method_101_code (14, bM_status_14, 23) := ⟨by decide +kernel, (List.forall_mem_cons.mpr ⟨sLA0, (List.forall_mem_cons.mpr ⟨lM_g17, (List.forall_mem_cons.mpr ⟨sLI1, (List.forall_mem_cons.mpr ⟨sIALD, (List.forall_mem_cons.mpr ⟨sGO, (fun _ h => absurd h List.not_mem_nil)⟩)⟩)⟩)⟩)⟩)⟩
theorem kM_status_23 : Bok "HerbWatersModel" prog_14_method_101_code (23, bM_status_23, 24) := ⟨by decide +kernel, (List.forall_mem_cons.mpr ⟨sCm1, (fun _ h => absurd h List.not_mem_nil)⟩)⟩
theorem kM_status_24 : Bok "HerbWatersModel" prog_14_method_101_code (24, bM_status_24, 25) := ⟨by decide +kernel, (List.forall_mem_cons.mpr ⟨sRI, (fun _ h => absurd h List.not_mem_nil)⟩)⟩
theorem kM_status : ∀ q ∈ tM_status, Bok "HerbWatersModel" prog_14_method_101_code q := (List.forall_mem_cons.mpr ⟨kM_status_0, (List.forall_mem_cons.mpr ⟨kM_status_14, (List.forall_mem_cons.mpr ⟨kM_status_23, (List.forall_mem_cons.mpr ⟨kM_status_24, (fun _ h => absurd h List.not_mem_nil)⟩)⟩)⟩)⟩)
def mM_count : Mt := (⟨"HerbWatersModel", "count", "(I)I"⟩, prog_14_method_102_code, 2, some .int)
theorem ok_M_count : Mok mM_count := ⟨gtb_mem 2277 (by decide +kernel) rfl, gtb_mem 107 (by decide +kernel) rfl, by decide +kernel, by decide⟩
def bM_count_0 : List Ir := [iLA0, iC0, (iPI 123 11 0), iLI1, (iIFne (10) 16)]
def bM_count_9 : List Ir := [iLA0, (iGI 244 11 40), (iGO (28) 41)]
def bM_count_16 : List Ir := [iLI1, iC1, (iICne (10) 28)]
def bM_count_21 : List Ir := [iLA0, (iGI 126 11 1), (iGO (16) 41)]
def bM_count_28 : List Ir := [iLI1, iC2, (iICne (10) 40)]
def bM_count_33 : List Ir := [iLA0, (iGI 250 11 39), (iGO (4) 41)]
def bM_count_40 : List Ir := [iCm1]
def bM_count_41 : List Ir := [iRI]
def tM_count : Tb := [(0, bM_count_0, 9), (9, bM_count_9, 16), (16, bM_count_16, 21), (21, bM_count_21, 28), (28, bM_count_28, 33), (33, bM_count_33, 40), (40, bM_count_40, 41), (41, bM_count_41, 42)]
theorem fM_count_0 : tbf tM_count 0 = some (bM_count_0, 9) := rfl
theorem fM_count_9 : tbf tM_count 9 = some (bM_count_9, 16) := rfl
theorem fM_count_16 : tbf tM_count 16 = some (bM_count_16, 21) := rfl
theorem fM_count_21 : tbf tM_count 21 = some (bM_count_21, 28) := rfl
theorem fM_count_28 : tbf tM_count 28 = some (bM_count_28, 33) := rfl
theorem fM_count_33 : tbf tM_count 33 = some (bM_count_33, 40) := rfl
theorem fM_count_40 : tbf tM_count 40 = some (bM_count_40, 41) := rfl
theorem fM_count_41 : tbf tM_count 41 = some (bM_count_41, 42) := rfl
theorem kM_count_0 : Bok "HerbWatersModel" prog_14_method_102_code (0, bM_count_0, 9) := ⟨by decide +kernel, (List.forall_mem_cons.mpr ⟨sLA0, (List.forall_mem_cons.mpr ⟨sC0, (List.forall_mem_cons.mpr ⟨lM_p123, (List.forall_mem_cons.mpr ⟨sLI1, (List.forall_mem_cons.mpr ⟨sIFne, (fun _ h => absurd h List.not_mem_nil)⟩)⟩)⟩)⟩)⟩)⟩
theorem kM_count_9 : Bok "HerbWatersModel" prog_14_method_102_code (9, bM_count_9, 16) := ⟨by decide +kernel, (List.forall_mem_cons.mpr ⟨sLA0, (List.forall_mem_cons.mpr ⟨lM_g244, (List.forall_mem_cons.mpr ⟨sGO, (fun _ h => absurd h List.not_mem_nil)⟩)⟩)⟩)⟩
theorem kM_count_16 : Bok "HerbWatersModel" prog_14_method_102_code (16, bM_count_16, 21) := ⟨by decide +kernel, (List.forall_mem_cons.mpr ⟨sLI1, (List.forall_mem_cons.mpr ⟨sC1, (List.forall_mem_cons.mpr ⟨sICne, (fun _ h => absurd h List.not_mem_nil)⟩)⟩)⟩)⟩
theorem kM_count_21 : Bok "HerbWatersModel" prog_14_method_102_code (21, bM_count_21, 28) := ⟨by decide +kernel, (List.forall_mem_cons.mpr ⟨sLA0, (List.forall_mem_cons.mpr ⟨lM_g126, (List.forall_mem_cons.mpr ⟨sGO, (fun _ h => absurd h List.not_mem_nil)⟩)⟩)⟩)⟩
theorem kM_count_28 : Bok "HerbWatersModel" prog_14_method_102_code (28, bM_count_28, 33) := ⟨by decide +kernel, (List.forall_mem_cons.mpr ⟨sLI1, (List.forall_mem_cons.mpr ⟨sC2, (List.forall_mem_cons.mpr ⟨sICne, (fun _ h => absurd h List.not_mem_nil)⟩)⟩)⟩)⟩
theorem kM_count_33 : Bok "HerbWatersModel" prog_14_method_102_code (33, bM_count_33, 40) := ⟨by decide +kernel, (List.forall_mem_cons.mpr ⟨sLA0, (List.forall_mem_cons.mpr ⟨lM_g250, (List.forall_mem_cons.mpr ⟨sGO, (fun _ h => absurd h List.not_mem_nil)⟩)⟩)⟩)⟩
theorem kM_count_40 : Bok "HerbWatersModel" prog_14_method_102_code (40, bM_count_40, 41) := ⟨by decide +kernel, (List.forall_mem_cons.mpr ⟨sCm1, (fun _ h => absurd h List.not_mem_nil)⟩)⟩
theorem kM_count_41 : Bok "HerbWatersModel" prog_14_method_102_code (41, bM_count_41, 42) := ⟨by decide +kernel, (List.forall_mem_cons.mpr ⟨sRI, (fun _ h => absurd h List.not_mem_nil)⟩)⟩
theorem kM_count : ∀ q ∈ tM_count, Bok "HerbWatersModel" prog_14_method_102_code q := (List.forall_mem_cons.mpr ⟨kM_count_0, (List.forall_mem_cons.mpr ⟨kM_count_9, (List.forall_mem_cons.mpr ⟨kM_count_16, (List.forall_mem_cons.mpr ⟨kM_count_21, (List.forall_mem_cons.mpr ⟨kM_count_28, (List.forall_mem_cons.mpr ⟨kM_count_33, (List.forall_mem_cons.mpr ⟨kM_count_40, (List.forall_mem_cons.mpr ⟨kM_count_41, (fun _ h => absurd h List.not_mem_nil)⟩)⟩)⟩)⟩)⟩)⟩)⟩)⟩)
