/-! code of HerbWatersModel; by program (wip/whole/gen_M.py) -/
def mM_when : Mt := (⟨"HerbWatersModel", "when", "(I)I"⟩, prog_14_method_72_code, 3, some .int)
theorem ok_M_when : Mok mM_when := ⟨gtb_mem 2154 (by decide +kernel) rfl, gtb_mem 107 (by decide +kernel) rfl, by decide +kernel, by decide⟩
def bM_when_0 : List Ir := [iLA0, iC0, (iPI 123 11 0), iLA0, iLI1, iC0, (iBP 7), (iCS3 157 mM_in), (iIFne (7) 20)]
def bM_when_16 : List Ir := [iC1, (iGO (4) 21)]
def bM_when_20 : List Ir := [iC0]
def bM_when_21 : List Ir := [iC1, iC1, (iCV3 221 11 mM_bad), (iIFeq (5) 31)]
def bM_when_29 : List Ir := [iC0, iRI]
def bM_when_31 : List Ir := [iLA0, (iCV0 353 11 mM_asNow), iLA0, (iGR 77 11 32), iLA0, (iGR 83 11 34), (iCS2 231 mM_copies), iC1, iSI2]
def bM_when_48 : List Ir := [iLI2, (iBP 100), (iICge (30) 81)]
def bM_when_54 : List Ir := [iLA0, iLA0, (iGR 83 11 34), (iCV1 356 11 mM_steps), iLA0, (iGR 83 11 34), (iCS1 360 mM_viewOf), iLI1, (iICne (5) 75)]
def bM_when_73 : List Ir := [iLI2, iRI]
def bM_when_75 : List Ir := [(iINC2 1), (iGO (-30) 48)]
def bM_when_81 : List Ir := [iCm1, iRI]
def tM_when : Tb := [(0, bM_when_0, 16), (16, bM_when_16, 20), (20, bM_when_20, 21), (21, bM_when_21, 29), (29, bM_when_29, 31), (31, bM_when_31, 48), (48, bM_when_48, 54), (54, bM_when_54, 73), (73, bM_when_73, 75), (75, bM_when_75, 81), (81, bM_when_81, 83)]
theorem fM_when_0 : tbf tM_when 0 = some (bM_when_0, 16) := rfl
theorem fM_when_16 : tbf tM_when 16 = some (bM_when_16, 20) := rfl
theorem fM_when_20 : tbf tM_when 20 = some (bM_when_20, 21) := rfl
theorem fM_when_21 : tbf tM_when 21 = some (bM_when_21, 29) := rfl
theorem fM_when_29 : tbf tM_when 29 = some (bM_when_29, 31) := rfl
theorem fM_when_31 : tbf tM_when 31 = some (bM_when_31, 48) := rfl
theorem fM_when_48 : tbf tM_when 48 = some (bM_when_48, 54) := rfl
theorem fM_when_54 : tbf tM_when 54 = some (bM_when_54, 73) := rfl
theorem fM_when_73 : tbf tM_when 73 = some (bM_when_73, 75) := rfl
theorem fM_when_75 : tbf tM_when 75 = some (bM_when_75, 81) := rfl
theorem fM_when_81 : tbf tM_when 81 = some (bM_when_81, 83) := rfl
theorem kM_when_0 : Bok "HerbWatersModel" prog_14_method_72_code (0, bM_when_0, 16) := ⟨by decide +kernel, (List.forall_mem_cons.mpr ⟨sLA0, (List.forall_mem_cons.mpr ⟨sC0, (List.forall_mem_cons.mpr ⟨lM_p123, (List.forall_mem_cons.mpr ⟨sLA0, (List.forall_mem_cons.mpr ⟨sLI1, (List.forall_mem_cons.mpr ⟨sC0, (List.forall_mem_cons.mpr ⟨sBP, (List.forall_mem_cons.mpr ⟨lM_s157, (List.forall_mem_cons.mpr ⟨sIFne, (fun _ h => absurd h List.not_mem_nil)⟩)⟩)⟩)⟩)⟩)⟩)⟩)⟩)⟩)⟩
theorem kM_when_16 : Bok "HerbWatersModel" prog_14_method_72_code (16, bM_when_16, 20) := ⟨by decide +kernel, (List.forall_mem_cons.mpr ⟨sC1, (List.forall_mem_cons.mpr ⟨sGO, (fun _ h => absurd h List.not_mem_nil)⟩)⟩)⟩
theorem kM_when_20 : Bok "HerbWatersModel" prog_14_method_72_code (20, bM_when_20, 21) := ⟨by decide +kernel, (List.forall_mem_cons.mpr ⟨sC0, (fun _ h => absurd h List.not_mem_nil)⟩)⟩
theorem kM_when_21 : Bok "HerbWatersModel" prog_14_method_72_code (21, bM_when_21, 29) := ⟨by decide +kernel, (List.forall_mem_cons.mpr ⟨sC1, (List.forall_mem_cons.mpr ⟨sC1, (List.forall_mem_cons.mpr ⟨lM_v221, (List.forall_mem_cons.mpr ⟨sIFeq, (fun _ h => absurd h List.not_mem_nil)⟩)⟩)⟩)⟩)⟩
theorem kM_when_29 : Bok "HerbWatersModel" prog_14_method_72_code (29, bM_when_29, 31) := ⟨by decide +kernel, (List.forall_mem_cons.mpr ⟨sC0, (List.forall_mem_cons.mpr ⟨sRI, (fun _ h => absurd h List.not_mem_nil)⟩)⟩)⟩
theorem kM_when_31 : Bok "HerbWatersModel" prog_14_method_72_code (31, bM_when_31, 48) := ⟨by decide +kernel, (List.forall_mem_cons.mpr ⟨sLA0, (List.forall_mem_cons.mpr ⟨lM_v353, (List.forall_mem_cons.mpr ⟨sLA0, (List.forall_mem_cons.mpr ⟨lM_g77, (List.forall_mem_cons.mpr ⟨sLA0, (List.forall_mem_cons.mpr ⟨lM_g83, (List.forall_mem_cons.mpr ⟨lM_s231, (List.forall_mem_cons.mpr ⟨sC1, (List.forall_mem_cons.mpr ⟨sSI2, (fun _ h => absurd h List.not_mem_nil)⟩)⟩)⟩)⟩)⟩)⟩)⟩)⟩)⟩)⟩
theorem kM_when_48 : Bok "HerbWatersModel" prog_14_method_72_code (48, bM_when_48, 54) := ⟨by decide +kernel, (List.forall_mem_cons.mpr ⟨sLI2, (List.forall_mem_cons.mpr ⟨sBP, (List.forall_mem_cons.mpr ⟨sICge, (fun _ h => absurd h List.not_mem_nil)⟩)⟩)⟩)⟩
theorem kM_when_54 : Bok "HerbWatersModel" prog_14_method_72_code (54, bM_when_54, 73) := ⟨by decide +kernel, (List.forall_mem_cons.mpr ⟨sLA0, (List.forall_mem_cons.mpr ⟨sLA0, (List.forall_mem_cons.mpr ⟨lM_g83, (List.forall_mem_cons.mpr ⟨lM_v356, (List.forall_mem_cons.mpr ⟨sLA0, (List.forall_mem_cons.mpr ⟨lM_g83, (List.forall_mem_cons.mpr ⟨lM_s360, (List.forall_mem_cons.mpr ⟨sLI1, (List.forall_mem_cons.mpr ⟨sICne, (fun _ h => absurd h List.not_mem_nil)⟩)⟩)⟩)⟩)⟩)⟩)⟩)⟩)⟩)⟩
theorem kM_when_73 : Bok "HerbWatersModel" prog_14_method_72_code (73, bM_when_73, 75) := ⟨by decide +kernel, (List.forall_mem_cons.mpr ⟨sLI2, (List.forall_mem_cons.mpr ⟨sRI, (fun _ h => absurd h List.not_mem_nil)⟩)⟩)⟩
theorem kM_when_75 : Bok "HerbWatersModel" prog_14_method_72_code (75, bM_when_75, 81) := ⟨by decide +kernel, (List.forall_mem_cons.mpr ⟨sINC2, (List.forall_mem_cons.mpr ⟨sGO, (fun _ h => absurd h List.not_mem_nil)⟩)⟩)⟩
theorem kM_when_81 : Bok "HerbWatersModel" prog_14_method_72_code (81, bM_when_81, 83) := ⟨by decide +kernel, (List.forall_mem_cons.mpr ⟨sCm1, (List.forall_mem_cons.mpr ⟨sRI, (fun _ h => absurd h List.not_mem_nil)⟩)⟩)⟩
theorem kM_when : ∀ q ∈ tM_when, Bok "HerbWatersModel" prog_14_method_72_code q := (List.forall_mem_cons.mpr ⟨kM_when_0, (List.forall_mem_cons.mpr ⟨kM_when_16, (List.forall_mem_cons.mpr ⟨kM_when_20, (List.forall_mem_cons.mpr ⟨kM_when_21, (List.forall_mem_cons.mpr ⟨kM_when_29, (List.forall_mem_cons.mpr ⟨kM_when_31, (List.forall_mem_cons.mpr ⟨kM_when_48, (List.forall_mem_cons.mpr ⟨kM_when_54, (List.forall_mem_cons.mpr ⟨kM_when_73, (List.forall_mem_cons.mpr ⟨kM_when_75, (List.forall_mem_cons.mpr ⟨kM_when_81, (fun _ h => absurd h List.not_mem_nil)⟩)⟩)⟩)⟩)⟩)⟩)⟩)⟩)⟩)⟩)⟩)
def mM_areVillages : Mt := (⟨"HerbWatersModel", "areVillages", "(I)Z"⟩, prog_14_method_73_code, 2, some .boolean)
theorem ok_M_areVillages : Mok mM_areVillages := ⟨gtb_mem 2162 (by decide +kernel) rfl, gtb_mem 107 (by decide +kernel) rfl, by decide +kernel, by decide⟩
def bM_areVillages_0 : List Ir := [iLI1, iC0, iC1, iLA0, (iGR 23 11 12), iC0, iIALD, iSHL, iC1, iSUB, (iCS3 157 mM_in), iRI]
def tM_areVillages : Tb := [(0, bM_areVillages_0, 16)]
theorem fM_areVillages_0 : tbf tM_areVillages 0 = some (bM_areVillages_0, 16) := rfl
theorem kM_areVillages_0 : Bok "HerbWatersModel" prog_14_method_73_code (0, bM_areVillages_0, 16) := ⟨by decide +kernel, (List.forall_mem_cons.mpr ⟨sLI1, (List.forall_mem_cons.mpr ⟨sC0, (List.forall_mem_cons.mpr ⟨sC1, (List.forall_mem_cons.mpr ⟨sLA0, (List.forall_mem_cons.mpr ⟨lM_g23, (List.forall_mem_cons.mpr ⟨sC0, (List.forall_mem_cons.mpr ⟨sIALD, (List.forall_mem_cons.mpr ⟨sSHL, (List.forall_mem_cons.mpr ⟨sC1, (List.forall_mem_cons.mpr ⟨sSUB, (List.forall_mem_cons.mpr ⟨lM_s157, (List.forall_mem_cons.mpr ⟨sRI, (fun _ h => absurd h List.not_mem_nil)⟩)⟩)⟩)⟩)⟩)⟩)⟩)⟩)⟩)⟩)⟩)⟩)⟩
theorem kM_areVillages : ∀ q ∈ tM_areVillages, Bok "HerbWatersModel" prog_14_method_73_code q := (List.forall_mem_cons.mpr ⟨kM_areVillages_0, (fun _ h => absurd h List.not_mem_nil)⟩)
def mM_please : Mt := (⟨"HerbWatersModel", "please", "(I)I"⟩, prog_14_method_74_code, 3, some .int)
theorem ok_M_please : Mok mM_please := ⟨gtb_mem 2158 (by decide +kernel) rfl, gtb_mem 107 (by decide +kernel) rfl, by decide +kernel, by decide⟩
theorem lM_v367 : Snd "HerbWatersModel" (iCV1 367 11 mM_areVillages) := sCV1 _ rfl rfl ok_M_areVillages (gtb_mem 2161 (by decide +kernel) rfl) (gtb_mem 81 (by decide +kernel) rfl) (gtb_mem 2159 (by decide +kernel) rfl)
def bM_please_0 : List Ir := [iLA0, iC0, (iPI 123 11 0), iLA0, iLA0, iLI1, (iCV1 367 11 mM_areVillages), (iIFne (7) 18)]
def bM_please_14 : List Ir := [iC1, (iGO (4) 19)]
def bM_please_18 : List Ir := [iC0]
def bM_please_19 : List Ir := [iC1, iC1, (iCV3 221 11 mM_bad), (iIFeq (5) 29)]
def bM_please_27 : List Ir := [iC0, iRI]
def bM_please_29 : List Ir := [iLA0, (iGI 238 11 37), iSI2, iLA0, iLI1, (iPI 238 11 37), iLA0, (iCV0 247 11 mM_settles), iLI2, iRI]
def tM_please : Tb := [(0, bM_please_0, 14), (14, bM_please_14, 18), (18, bM_please_18, 19), (19, bM_please_19, 27), (27, bM_please_27, 29), (29, bM_please_29, 45)]
theorem fM_please_0 : tbf tM_please 0 = some (bM_please_0, 14) := rfl
theorem fM_please_14 : tbf tM_please 14 = some (bM_please_14, 18) := rfl
theorem fM_please_18 : tbf tM_please 18 = some (bM_please_18, 19) := rfl
theorem fM_please_19 : tbf tM_please 19 = some (bM_please_19, 27) := rfl
theorem fM_please_27 : tbf tM_please 27 = some (bM_please_27, 29) := rfl
theorem fM_please_29 : tbf tM_please 29 = some (bM_please_29, 45) := rfl
theorem kM_please_0 : Bok "HerbWatersModel" prog_14_method_74_code (0, bM_please_0, 14) := ⟨by decide +kernel, (List.forall_mem_cons.mpr ⟨sLA0, (List.forall_mem_cons.mpr ⟨sC0, (List.forall_mem_cons.mpr ⟨lM_p123, (List.forall_mem_cons.mpr ⟨sLA0, (List.forall_mem_cons.mpr ⟨sLA0, (List.forall_mem_cons.mpr ⟨sLI1, (List.forall_mem_cons.mpr ⟨lM_v367, (List.forall_mem_cons.mpr ⟨sIFne, (fun _ h => absurd h List.not_mem_nil)⟩)⟩)⟩)⟩)⟩)⟩)⟩)⟩)⟩
theorem kM_please_14 : Bok "HerbWatersModel" prog_14_method_74_code (14, bM_please_14, 18) := ⟨by decide +kernel, (List.forall_mem_cons.mpr ⟨sC1, (List.forall_mem_cons.mpr ⟨sGO, (fun _ h => absurd h List.not_mem_nil)⟩)⟩)⟩
theorem kM_please_18 : Bok "HerbWatersModel" prog_14_method_74_code (18, bM_please_18, 19) := ⟨by decide +kernel, (List.forall_mem_cons.mpr ⟨sC0, (fun _ h => absurd h List.not_mem_nil)⟩)⟩
theorem kM_please_19 : Bok "HerbWatersModel" prog_14_method_74_code (19, bM_please_19, 27) := ⟨by decide +kernel, (List.forall_mem_cons.mpr ⟨sC1, (List.forall_mem_cons.mpr ⟨sC1, (List.forall_mem_cons.mpr ⟨lM_v221, (List.forall_mem_cons.mpr ⟨sIFeq, (fun _ h => absurd h List.not_mem_nil)⟩)⟩)⟩)⟩)⟩
theorem kM_please_27 : Bok "HerbWatersModel" prog_14_method_74_code (27, bM_please_27, 29) := ⟨by decide +kernel, (List.forall_mem_cons.mpr ⟨sC0, (List.forall_mem_cons.mpr ⟨sRI, (fun _ h => absurd h List.not_mem_nil)⟩)⟩)⟩
theorem kM_please_29 : Bok "HerbWatersModel" prog_14_method_74_code (29, bM_please_29, 45) := ⟨by decide +kernel, (List.forall_mem_cons.mpr ⟨sLA0, (List.forall_mem_cons.mpr ⟨lM_g238, (List.forall_mem_cons.mpr ⟨sSI2, (List.forall_mem_cons.mpr ⟨sLA0, (List.forall_mem_cons.mpr ⟨sLI1, (List.forall_mem_cons.mpr ⟨lM_p238, (List.forall_mem_cons.mpr ⟨sLA0, (List.forall_mem_cons.mpr ⟨lM_v247, (List.forall_mem_cons.mpr ⟨sLI2, (List.forall_mem_cons.mpr ⟨sRI, (fun _ h => absurd h List.not_mem_nil)⟩)⟩)⟩)⟩)⟩)⟩)⟩)⟩)⟩)⟩)⟩
theorem kM_please : ∀ q ∈ tM_please, Bok "HerbWatersModel" prog_14_method_74_code q := (List.forall_mem_cons.mpr ⟨kM_please_0, (List.forall_mem_cons.mpr ⟨kM_please_14, (List.forall_mem_cons.mpr ⟨kM_please_18, (List.forall_mem_cons.mpr ⟨kM_please_19, (List.forall_mem_cons.mpr ⟨kM_please_27, (List.forall_mem_cons.mpr ⟨kM_please_29, (fun _ h => absurd h List.not_mem_nil)⟩)⟩)⟩)⟩)⟩)⟩)
def mM_contrary : Mt := (⟨"HerbWatersModel", "contrary", "(I)I"⟩, prog_14_method_75_code, 3, some .int)
theorem ok_M_contrary : Mok mM_contrary := ⟨gtb_mem 2166 (by decide +kernel) rfl, gtb_mem 107 (by decide +kernel) rfl, by decide +kernel, by decide⟩
def bM_contrary_0 : List Ir := [iLA0, iC0, (iPI 123 11 0), iLA0, iLA0, iLI1, (iCV1 367 11 mM_areVillages), (iIFne (7) 18)]
def bM_contrary_14 : List Ir := [iC1, (iGO (4) 19)]
def bM_contrary_18 : List Ir := [iC0]
def bM_contrary_19 : List Ir := [iC1, iC1, (iCV3 221 11 mM_bad), (iIFeq (5) 29)]
def bM_contrary_27 : List Ir := [iC0, iRI]
def bM_contrary_29 : List Ir := [iLA0, (iGI 241 11 38), iSI2, iLA0, iLI1, (iPI 241 11 38), iLA0, (iCV0 247 11 mM_settles), iLI2, iRI]
def tM_contrary : Tb := [(0, bM_contrary_0, 14), (14, bM_contrary_14, 18), (18, bM_contrary_18, 19), (19, bM_contrary_19, 27), (27, bM_contrary_27, 29), (29, bM_contrary_29, 45)]
theorem fM_contrary_0 : tbf tM_contrary 0 = some (bM_contrary_0, 14) := rfl
theorem fM_contrary_14 : tbf tM_contrary 14 = some (bM_contrary_14, 18) := rfl
theorem fM_contrary_18 : tbf tM_contrary 18 = some (bM_contrary_18, 19) := rfl
theorem fM_contrary_19 : tbf tM_contrary 19 = some (bM_contrary_19, 27) := rfl
theorem fM_contrary_27 : tbf tM_contrary 27 = some (bM_contrary_27, 29) := rfl
theorem fM_contrary_29 : tbf tM_contrary 29 = some (bM_contrary_29, 45) := rfl
theorem kM_contrary_0 : Bok "HerbWatersModel" prog_14_method_75_code (0, bM_contrary_0, 14) := ⟨by decide +kernel, (List.forall_mem_cons.mpr ⟨sLA0, (List.forall_mem_cons.mpr ⟨sC0, (List.forall_mem_cons.mpr ⟨lM_p123, (List.forall_mem_cons.mpr ⟨sLA0, (List.forall_mem_cons.mpr ⟨sLA0, (List.forall_mem_cons.mpr ⟨sLI1, (List.forall_mem_cons.mpr ⟨lM_v367, (List.forall_mem_cons.mpr ⟨sIFne, (fun _ h => absurd h List.not_mem_nil)⟩)⟩)⟩)⟩)⟩)⟩)⟩)⟩)⟩
theorem kM_contrary_14 : Bok "HerbWatersModel" prog_14_method_75_code (14, bM_contrary_14, 18) := ⟨by decide +kernel, (List.forall_mem_cons.mpr ⟨sC1, (List.forall_mem_cons.mpr ⟨sGO, (fun _ h => absurd h List.not_mem_nil)⟩)⟩)⟩
theorem kM_contrary_18 : Bok "HerbWatersModel" prog_14_method_75_code (18, bM_contrary_18, 19) := ⟨by decide +kernel, (List.forall_mem_cons.mpr ⟨sC0, (fun _ h => absurd h List.not_mem_nil)⟩)⟩
theorem kM_contrary_19 : Bok "HerbWatersModel" prog_14_method_75_code (19, bM_contrary_19, 27) := ⟨by decide +kernel, (List.forall_mem_cons.mpr ⟨sC1, (List.forall_mem_cons.mpr ⟨sC1, (List.forall_mem_cons.mpr ⟨lM_v221, (List.forall_mem_cons.mpr ⟨sIFeq, (fun _ h => absurd h List.not_mem_nil)⟩)⟩)⟩)⟩)⟩
theorem kM_contrary_27 : Bok "HerbWatersModel" prog_14_method_75_code (27, bM_contrary_27, 29) := ⟨by decide +kernel, (List.forall_mem_cons.mpr ⟨sC0, (List.forall_mem_cons.mpr ⟨sRI, (fun _ h => absurd h List.not_mem_nil)⟩)⟩)⟩
theorem kM_contrary_29 : Bok "HerbWatersModel" prog_14_method_75_code (29, bM_contrary_29, 45) := ⟨by decide +kernel, (List.forall_mem_cons.mpr ⟨sLA0, (List.forall_mem_cons.mpr ⟨lM_g241, (List.forall_mem_cons.mpr ⟨sSI2, (List.forall_mem_cons.mpr ⟨sLA0, (List.forall_mem_cons.mpr ⟨sLI1, (List.forall_mem_cons.mpr ⟨lM_p241, (List.forall_mem_cons.mpr ⟨sLA0, (List.forall_mem_cons.mpr ⟨lM_v247, (List.forall_mem_cons.mpr ⟨sLI2, (List.forall_mem_cons.mpr ⟨sRI, (fun _ h => absurd h List.not_mem_nil)⟩)⟩)⟩)⟩)⟩)⟩)⟩)⟩)⟩)⟩)⟩
theorem kM_contrary : ∀ q ∈ tM_contrary, Bok "HerbWatersModel" prog_14_method_75_code q := (List.forall_mem_cons.mpr ⟨kM_contrary_0, (List.forall_mem_cons.mpr ⟨kM_contrary_14, (List.forall_mem_cons.mpr ⟨kM_contrary_18, (List.forall_mem_cons.mpr ⟨kM_contrary_19, (List.forall_mem_cons.mpr ⟨kM_contrary_27, (List.forall_mem_cons.mpr ⟨kM_contrary_29, (fun _ h => absurd h List.not_mem_nil)⟩)⟩)⟩)⟩)⟩)⟩)
def mM_ones : Mt := (⟨"HerbWatersModel", "ones", "(I)I"⟩, prog_14_method_76_code, 3, some .int)
theorem ok_M_ones : Mok mM_ones := ⟨gtb_mem 2177 (by decide +kernel) rfl, gtb_mem 107 (by decide +kernel) rfl, by decide +kernel, by decide⟩
def bM_ones_0 : List Ir := [iC0, iSI1, iC0, iSI2]
def bM_ones_4 : List Ir := [iLI2, (iBP 9), (iICge (17) 24)]
def bM_ones_10 : List Ir := [iLI1, iLI0, iLI2, iSHR, iC1, iAND, iADD, iSI1, (iINC2 1), (iGO (-17) 4)]
def bM_ones_24 : List Ir := [iLI1, iRI]
def tM_ones : Tb := [(0, bM_ones_0, 4), (4, bM_ones_4, 10), (10, bM_ones_10, 24), (24, bM_ones_24, 26)]
theorem fM_ones_0 : tbf tM_ones 0 = some (bM_ones_0, 4) := rfl
theorem fM_ones_4 : tbf tM_ones 4 = some (bM_ones_4, 10) := rfl
theorem fM_ones_10 : tbf tM_ones 10 = some (bM_ones_10, 24) := rfl
theorem fM_ones_24 : tbf tM_ones 24 = some (bM_ones_24, 26) := rfl
theorem kM_ones_0 : Bok "HerbWatersModel" prog_14_method_76_code (0, bM_ones_0, 4) := ⟨by decide +kernel, (List.forall_mem_cons.mpr ⟨sC0, (List.forall_mem_cons.mpr ⟨sSI1, (List.forall_mem_cons.mpr ⟨sC0, (List.forall_mem_cons.mpr ⟨sSI2, (fun _ h => absurd h List.not_mem_nil)⟩)⟩)⟩)⟩)⟩
theorem kM_ones_4 : Bok "HerbWatersModel" prog_14_method_76_code (4, bM_ones_4, 10) := ⟨by decide +kernel, (List.forall_mem_cons.mpr ⟨sLI2, (List.forall_mem_cons.mpr ⟨sBP, (List.forall_mem_cons.mpr ⟨sICge, (fun _ h => absurd h List.not_mem_nil)⟩)⟩)⟩)⟩
theorem kM_ones_10 : Bok "HerbWatersModel" prog_14_method_76_code (10, bM_ones_10, 24) := ⟨by decide +kernel, (List.forall_mem_cons.mpr ⟨sLI1, (List.forall_mem_cons.mpr ⟨sLI0, (List.forall_mem_cons.mpr ⟨sLI2, (List.forall_mem_cons.mpr ⟨sSHR, (List.forall_mem_cons.mpr ⟨sC1, (List.forall_mem_cons.mpr ⟨sAND, (List.forall_mem_cons.mpr ⟨sADD, (List.forall_mem_cons.mpr ⟨sSI1, (List.forall_mem_cons.mpr ⟨sINC2, (List.forall_mem_cons.mpr ⟨sGO, (fun _ h => absurd h List.not_mem_nil)⟩)⟩)⟩)⟩)⟩)⟩)⟩)⟩)⟩)⟩)⟩
theorem kM_ones_24 : Bok "HerbWatersModel" prog_14_method_76_code (24, bM_ones_24, 26) := ⟨by decide +kernel, (List.forall_mem_cons.mpr ⟨sLI1, (List.forall_mem_cons.mpr ⟨sRI, (fun _ h => absurd h List.not_mem_nil)⟩)⟩)⟩
theorem kM_ones : ∀ q ∈ tM_ones, Bok "HerbWatersModel" prog_14_method_76_code q := (List.forall_mem_cons.mpr ⟨kM_ones_0, (List.forall_mem_cons.mpr ⟨kM_ones_4, (List.forall_mem_cons.mpr ⟨kM_ones_10, (List.forall_mem_cons.mpr ⟨kM_ones_24, (fun _ h => absurd h List.not_mem_nil)⟩)⟩)⟩)⟩)
def mM_whomBy : Mt := (⟨"HerbWatersModel", "whomBy", "(I)I"⟩, prog_14_method_77_code, 4, some .int)
theorem ok_M_whomBy : Mok mM_whomBy := ⟨gtb_mem 2174 (by decide +kernel) rfl, gtb_mem 107 (by decide +kernel) rfl, by decide +kernel, by decide⟩
theorem lM_s370 : Snd "HerbWatersModel" (iCS1 370 mM_ones) := sCS1 ok_M_ones (gtb_mem 2176 (by decide +kernel) rfl) (gtb_mem 2175 (by decide +kernel) rfl)
def bM_whomBy_0 : List Ir := [iCm1, iSI2, iC0, iSI3]
def bM_whomBy_4 : List Ir := [iLI3, iC1, iLA0, (iGR 23 11 12), iC0, iIALD, iSHL, (iICge (69) 82)]
def bM_whomBy_16 : List Ir := [iLA0, (iGI 238 11 37), iLI3, iCm1, iXOR, iAND, (iIFne (52) 76)]
def bM_whomBy_27 : List Ir := [iLI2, iCm1, (iICeq (17) 46)]
def bM_whomBy_32 : List Ir := [iLI3, (iCS1 370 mM_ones), iLI2, (iCS1 370 mM_ones), (iIClt (6) 46)]
def bM_whomBy_43 : List Ir := [(iGO (33) 76)]
def bM_whomBy_46 : List Ir := [iLA0, (iCV0 353 11 mM_asNow), iLA0, iLI3, (iPI 309 11 41), iLA0, iLI1, (iCV1 364 11 mM_goesOn), iLA0, (iGR 83 11 34), (iCS1 360 mM_viewOf), (iIFne (7) 74)]
def bM_whomBy_70 : List Ir := [iLI3, (iGO (4) 75)]
def bM_whomBy_74 : List Ir := [iLI2]
def bM_whomBy_75 : List Ir := [iSI2]
def bM_whomBy_76 : List Ir := [(iINC3 1), (iGO (-75) 4)]
def bM_whomBy_82 : List Ir := [iLI2, iRI]
def tM_whomBy : Tb := [(0, bM_whomBy_0, 4), (4, bM_whomBy_4, 16), (16, bM_whomBy_16, 27), (27, bM_whomBy_27, 32), (32, bM_whomBy_32, 43), (43, bM_whomBy_43, 46), (46, bM_whomBy_46, 70), (70, bM_whomBy_70, 74), (74, bM_whomBy_74, 75), (75, bM_whomBy_75, 76), (76, bM_whomBy_76, 82), (82, bM_whomBy_82, 84)]
theorem fM_whomBy_0 : tbf tM_whomBy 0 = some (bM_whomBy_0, 4) := rfl
theorem fM_whomBy_4 : tbf tM_whomBy 4 = some (bM_whomBy_4, 16) := rfl
theorem fM_whomBy_16 : tbf tM_whomBy 16 = some (bM_whomBy_16, 27) := rfl
theorem fM_whomBy_27 : tbf tM_whomBy 27 = some (bM_whomBy_27, 32) := rfl
theorem fM_whomBy_32 : tbf tM_whomBy 32 = some (bM_whomBy_32, 43) := rfl
theorem fM_whomBy_43 : tbf tM_whomBy 43 = some (bM_whomBy_43, 46) := rfl
theorem fM_whomBy_46 : tbf tM_whomBy 46 = some (bM_whomBy_46, 70) := rfl
theorem fM_whomBy_70 : tbf tM_whomBy 70 = some (bM_whomBy_70, 74) := rfl
theorem fM_whomBy_74 : tbf tM_whomBy 74 = some (bM_whomBy_74, 75) := rfl
theorem fM_whomBy_75 : tbf tM_whomBy 75 = some (bM_whomBy_75, 76) := rfl
theorem fM_whomBy_76 : tbf tM_whomBy 76 = some (bM_whomBy_76, 82) := rfl
theorem fM_whomBy_82 : tbf tM_whomBy 82 = some (bM_whomBy_82, 84) := rfl
theorem kM_whomBy_0 : Bok "HerbWatersModel" prog_14_method_77_code (0, bM_whomBy_0, 4) := ⟨by decide +kernel, (List.forall_mem_cons.mpr ⟨sCm1, (List.forall_mem_cons.mpr ⟨sSI2, (List.forall_mem_cons.mpr ⟨sC0, (List.forall_mem_cons.mpr ⟨sSI3, (fun _ h => absurd h List.not_mem_nil)⟩)⟩)⟩)⟩)⟩
theorem kM_whomBy_4 : Bok "HerbWatersModel" prog_14_method_77_code (4, bM_whomBy_4, 16) := ⟨by decide +kernel, (List.forall_mem_cons.mpr ⟨sLI3, (List.forall_mem_cons.mpr ⟨sC1, (List.forall_mem_cons.mpr ⟨sLA0, (List.forall_mem_cons.mpr ⟨lM_g23, (List.forall_mem_cons.mpr ⟨sC0, (List.forall_mem_cons.mpr ⟨sIALD, (List.forall_mem_cons.mpr ⟨sSHL, (List.forall_mem_cons.mpr ⟨sICge, (fun _ h => absurd h List.not_mem_nil)⟩)⟩)⟩)⟩)⟩)⟩)⟩)⟩)⟩
theorem kM_whomBy_16 : Bok "HerbWatersModel" prog_14_method_77_code (16, bM_whomBy_16, 27) := ⟨by decide +kernel, (List.forall_mem_cons.mpr ⟨sLA0, (List.forall_mem_cons.mpr ⟨lM_g238, (List.forall_mem_cons.mpr ⟨sLI3, (List.forall_mem_cons.mpr ⟨sCm1, (List.forall_mem_cons.mpr ⟨sXOR, (List.forall_mem_cons.mpr ⟨sAND, (List.forall_mem_cons.mpr ⟨sIFne, (fun _ h => absurd h List.not_mem_nil)⟩)⟩)⟩)⟩)⟩)⟩)⟩)⟩
theorem kM_whomBy_27 : Bok "HerbWatersModel" prog_14_method_77_code (27, bM_whomBy_27, 32) := ⟨by decide +kernel, (List.forall_mem_cons.mpr ⟨sLI2, (List.forall_mem_cons.mpr ⟨sCm1, (List.forall_mem_cons.mpr ⟨sICeq, (fun _ h => absurd h List.not_mem_nil)⟩)⟩)⟩)⟩
theorem kM_whomBy_32 : Bok "HerbWatersModel" prog_14_method_77_code (32, bM_whomBy_32, 43) := ⟨by decide +kernel, (List.forall_mem_cons.mpr ⟨sLI3, (List.forall_mem_cons.mpr ⟨lM_s370, (List.forall_mem_cons.mpr ⟨sLI2, (List.forall_mem_cons.mpr ⟨lM_s370, (List.forall_mem_cons.mpr ⟨sIClt, (fun _ h => absurd h List.not_mem_nil)⟩)⟩)⟩)⟩)⟩)⟩
theorem kM_whomBy_43 : Bok "HerbWatersModel" prog_14_method_77_code (43, bM_whomBy_43, 46) := ⟨by decide +kernel, (List.forall_mem_cons.mpr ⟨sGO, (fun _ h => absurd h List.not_mem_nil)⟩)⟩
theorem kM_whomBy_46 : Bok "HerbWatersModel" prog_14_method_77_code (46, bM_whomBy_46, 70) := ⟨by decide +kernel, (List.forall_mem_cons.mpr ⟨sLA0, (List.forall_mem_cons.mpr ⟨lM_v353, (List.forall_mem_cons.mpr ⟨sLA0, (List.forall_mem_cons.mpr ⟨sLI3, (List.forall_mem_cons.mpr ⟨lM_p309, (List.forall_mem_cons.mpr ⟨sLA0, (List.forall_mem_cons.mpr ⟨sLI1, (List.forall_mem_cons.mpr ⟨lM_v364, (List.forall_mem_cons.mpr ⟨sLA0, (List.forall_mem_cons.mpr ⟨lM_g83, (List.forall_mem_cons.mpr ⟨lM_s360, (List.forall_mem_cons.mpr ⟨sIFne, (fun _ h => absurd h List.not_mem_nil)⟩)⟩)⟩)⟩)⟩)⟩)⟩)⟩)⟩)⟩)⟩)⟩)⟩
theorem kM_whomBy_70 : Bok "HerbWatersModel" prog_14_method_77_code (70, bM_whomBy_70, 74) := ⟨by decide +kernel, (List.forall_mem_cons.mpr ⟨sLI3, (List.forall_mem_cons.mpr ⟨sGO, (fun _ h => absurd h List.not_mem_nil)⟩)⟩)⟩
theorem kM_whomBy_74 : Bok "HerbWatersModel" prog_14_method_77_code (74, bM_whomBy_74, 75) := ⟨by decide +kernel, (List.forall_mem_cons.mpr ⟨sLI2, (fun _ h => absurd h List.not_mem_nil)⟩)⟩
theorem kM_whomBy_75 : Bok "HerbWatersModel" prog_14_method_77_code (75, bM_whomBy_75, 76) := ⟨by decide +kernel, (List.forall_mem_cons.mpr ⟨sSI2, (fun _ h => absurd h List.not_mem_nil)⟩)⟩
theorem kM_whomBy_76 : Bok "HerbWatersModel" prog_14_method_77_code (76, bM_whomBy_76, 82) := ⟨by decide +kernel, (List.forall_mem_cons.mpr ⟨sINC3, (List.forall_mem_cons.mpr ⟨sGO, (fun _ h => absurd h List.not_mem_nil)⟩)⟩)⟩
theorem kM_whomBy_82 : Bok "HerbWatersModel" prog_14_method_77_code (82, bM_whomBy_82, 84) := ⟨by decide +kernel, (List.forall_mem_cons.mpr ⟨sLI2, (List.forall_mem_cons.mpr ⟨sRI, (fun _ h => absurd h List.not_mem_nil)⟩)⟩)⟩
theorem kM_whomBy : ∀ q ∈ tM_whomBy, Bok "HerbWatersModel" prog_14_method_77_code q := (List.forall_mem_cons.mpr ⟨kM_whomBy_0, (List.forall_mem_cons.mpr ⟨kM_whomBy_4, (List.forall_mem_cons.mpr ⟨kM_whomBy_16, (List.forall_mem_cons.mpr ⟨kM_whomBy_27, (List.forall_mem_cons.mpr ⟨kM_whomBy_32, (List.forall_mem_cons.mpr ⟨kM_whomBy_43, (List.forall_mem_cons.mpr ⟨kM_whomBy_46, (List.forall_mem_cons.mpr ⟨kM_whomBy_70, (List.forall_mem_cons.mpr ⟨kM_whomBy_74, (List.forall_mem_cons.mpr ⟨kM_whomBy_75, (List.forall_mem_cons.mpr ⟨kM_whomBy_76, (List.forall_mem_cons.mpr ⟨kM_whomBy_82, (fun _ h => absurd h List.not_mem_nil)⟩)⟩)⟩)⟩)⟩)⟩)⟩)⟩)⟩)⟩)⟩)⟩)
def mM_whom : Mt := (⟨"HerbWatersModel", "whom", "(I)I"⟩, prog_14_method_78_code, 2, some .int)
theorem ok_M_whom : Mok mM_whom := ⟨gtb_mem 2170 (by decide +kernel) rfl, gtb_mem 107 (by decide +kernel) rfl, by decide +kernel, by decide⟩
theorem lM_v373 : Snd "HerbWatersModel" (iCV1 373 11 mM_whomBy) := sCV1 _ rfl rfl ok_M_whomBy (gtb_mem 2173 (by decide +kernel) rfl) (gtb_mem 82 (by decide +kernel) rfl) (gtb_mem 2171 (by decide +kernel) rfl)
def bM_whom_0 : List Ir := [iLA0, iC0, (iPI 123 11 0), iLA0, iLI1, iC1, (iBP 60), (iCS3 157 mM_in), (iIFne (7) 20)]
def bM_whom_16 : List Ir := [iC1, (iGO (4) 21)]
def bM_whom_20 : List Ir := [iC0]
def bM_whom_21 : List Ir := [iC1, iC1, (iCV3 221 11 mM_bad), (iIFeq (5) 31)]
def bM_whom_29 : List Ir := [iC0, iRI]
def bM_whom_31 : List Ir := [iLA0, iLI1, (iCV1 373 11 mM_whomBy), iRI]
def tM_whom : Tb := [(0, bM_whom_0, 16), (16, bM_whom_16, 20), (20, bM_whom_20, 21), (21, bM_whom_21, 29), (29, bM_whom_29, 31), (31, bM_whom_31, 37)]
theorem fM_whom_0 : tbf tM_whom 0 = some (bM_whom_0, 16) := rfl
theorem fM_whom_16 : tbf tM_whom 16 = some (bM_whom_16, 20) := rfl
theorem fM_whom_20 : tbf tM_whom 20 = some (bM_whom_20, 21) := rfl
theorem fM_whom_21 : tbf tM_whom 21 = some (bM_whom_21, 29) := rfl
theorem fM_whom_29 : tbf tM_whom 29 = some (bM_whom_29, 31) := rfl
theorem fM_whom_31 : tbf tM_whom 31 = some (bM_whom_31, 37) := rfl
theorem kM_whom_0 : Bok "HerbWatersModel" prog_14_method_78_code (0, bM_whom_0, 16) := ⟨by decide +kernel, (List.forall_mem_cons.mpr ⟨sLA0, (List.forall_mem_cons.mpr ⟨sC0, (List.forall_mem_cons.mpr ⟨lM_p123, (List.forall_mem_cons.mpr ⟨sLA0, (List.forall_mem_cons.mpr ⟨sLI1, (List.forall_mem_cons.mpr ⟨sC1, (List.forall_mem_cons.mpr ⟨sBP, (List.forall_mem_cons.mpr ⟨lM_s157, (List.forall_mem_cons.mpr ⟨sIFne, (fun _ h => absurd h List.not_mem_nil)⟩)⟩)⟩)⟩)⟩)⟩)⟩)⟩)⟩)⟩
theorem kM_whom_16 : Bok "HerbWatersModel" prog_14_method_78_code (16, bM_whom_16, 20) := ⟨by decide +kernel, (List.forall_mem_cons.mpr ⟨sC1, (List.forall_mem_cons.mpr ⟨sGO, (fun _ h => absurd h List.not_mem_nil)⟩)⟩)⟩
theorem kM_whom_20 : Bok "HerbWatersModel" prog_14_method_78_code (20, bM_whom_20, 21) := ⟨by decide +kernel, (List.forall_mem_cons.mpr ⟨sC0, (fun _ h => absurd h List.not_mem_nil)⟩)⟩
theorem kM_whom_21 : Bok "HerbWatersModel" prog_14_method_78_code (21, bM_whom_21, 29) := ⟨by decide +kernel, (List.forall_mem_cons.mpr ⟨sC1, (List.forall_mem_cons.mpr ⟨sC1, (List.forall_mem_cons.mpr ⟨lM_v221, (List.forall_mem_cons.mpr ⟨sIFeq, (fun _ h => absurd h List.not_mem_nil)⟩)⟩)⟩)⟩)⟩
theorem kM_whom_29 : Bok "HerbWatersModel" prog_14_method_78_code (29, bM_whom_29, 31) := ⟨by decide +kernel, (List.forall_mem_cons.mpr ⟨sC0, (List.forall_mem_cons.mpr ⟨sRI, (fun _ h => absurd h List.not_mem_nil)⟩)⟩)⟩
theorem kM_whom_31 : Bok "HerbWatersModel" prog_14_method_78_code (31, bM_whom_31, 37) := ⟨by decide +kernel, (List.forall_mem_cons.mpr ⟨sLA0, (List.forall_mem_cons.mpr ⟨sLI1, (List.forall_mem_cons.mpr ⟨lM_v373, (List.forall_mem_cons.mpr ⟨sRI, (fun _ h => absurd h List.not_mem_nil)⟩)⟩)⟩)⟩)⟩
theorem kM_whom : ∀ q ∈ tM_whom, Bok "HerbWatersModel" prog_14_method_78_code q := (List.forall_mem_cons.mpr ⟨kM_whom_0, (List.forall_mem_cons.mpr ⟨kM_whom_16, (List.forall_mem_cons.mpr ⟨kM_whom_20, (List.forall_mem_cons.mpr ⟨kM_whom_21, (List.forall_mem_cons.mpr ⟨kM_whom_29, (List.forall_mem_cons.mpr ⟨kM_whom_31, (fun _ h => absurd h List.not_mem_nil)⟩)⟩)⟩)⟩)⟩)⟩)
def mM_feast : Mt := (⟨"HerbWatersModel", "feast", "()I"⟩, prog_14_method_79_code, 2, some .int)
theorem ok_M_feast : Mok mM_feast := ⟨gtb_mem 2181 (by decide +kernel) rfl, gtb_mem 107 (by decide +kernel) rfl, by decide +kernel, by decide⟩
def bM_feast_0 : List Ir := [iLA0, iC0, (iPI 123 11 0), iLA0, (iGR 23 11 12), iC4, iIALD, iLA0, (iGR 77 11 32), (iSP 501), iIALD, iSUB, iSI1, iLI1, iC1, (iBP 60), (iCS3 157 mM_in), (iIFeq (11) 39)]
def bM_feast_31 : List Ir := [iLA0, iLI1, (iCV1 373 11 mM_whomBy), (iGO (4) 40)]
def bM_feast_39 : List Ir := [iCm1]
def bM_feast_40 : List Ir := [iRI]
def tM_feast : Tb := [(0, bM_feast_0, 31), (31, bM_feast_31, 39), (39, bM_feast_39, 40), (40, bM_feast_40, 41)]
theorem fM_feast_0 : tbf tM_feast 0 = some (bM_feast_0, 31) := rfl
theorem fM_feast_31 : tbf tM_feast 31 = some (bM_feast_31, 39) := rfl
theorem fM_feast_39 : tbf tM_feast 39 = some (bM_feast_39, 40) := rfl
theorem fM_feast_40 : tbf tM_feast 40 = some (bM_feast_40, 41) := rfl
theorem kM_feast_0 : Bok "HerbWatersModel" prog_14_method_79_code (0, bM_feast_0, 31) := ⟨by decide +kernel, (List.forall_mem_cons.mpr ⟨sLA0, (List.forall_mem_cons.mpr ⟨sC0, (List.forall_mem_cons.mpr ⟨lM_p123, (List.forall_mem_cons.mpr ⟨sLA0, (List.forall_mem_cons.mpr ⟨lM_g23, (List.forall_mem_cons.mpr ⟨sC4, (List.forall_mem_cons.mpr ⟨sIALD, (List.forall_mem_cons.mpr ⟨sLA0, (List.forall_mem_cons.mpr ⟨lM_g77, (List.forall_mem_cons.mpr ⟨sSP, (List.forall_mem_cons.mpr ⟨sIALD, (List.forall_mem_cons.mpr ⟨sSUB, (List.forall_mem_cons.mpr ⟨sSI1, (List.forall_mem_cons.mpr ⟨sLI1, (List.forall_mem_cons.mpr ⟨sC1, (List.forall_mem_cons.mpr ⟨sBP, (List.forall_mem_cons.mpr ⟨lM_s157, (List.forall_mem_cons.mpr ⟨sIFeq, (fun _ h => absurd h List.not_mem_nil)⟩)⟩)⟩)⟩)⟩)⟩)⟩)⟩)⟩)⟩)⟩)⟩)⟩)⟩)⟩)⟩)⟩)⟩)⟩
theorem kM_feast_31 : Bok "HerbWatersModel" prog_14_method_79_code (31, bM_feast_31, 39) := ⟨by decide +kernel, (List.forall_mem_cons.mpr ⟨sLA0, (List.forall_mem_cons.mpr ⟨sLI1, (List.forall_mem_cons.mpr ⟨lM_v373, (List.forall_mem_cons.mpr ⟨sGO, (fun _ h => absurd h List.not_mem_nil)⟩)⟩)⟩)⟩)⟩
theorem kM_feast_39 : Bok "HerbWatersModel" prog_14_method_79_code (39, bM_feast_39, 40) := ⟨by decide +kernel, (List.forall_mem_cons.mpr ⟨sCm1, (fun _ h => absurd h List.not_mem_nil)⟩)⟩
theorem kM_feast_40 : Bok "HerbWatersModel" prog_14_method_79_code (40, bM_feast_40, 41) := ⟨by decide +kernel, (List.forall_mem_cons.mpr ⟨sRI, (fun _ h => absurd h List.not_mem_nil)⟩)⟩
theorem kM_feast : ∀ q ∈ tM_feast, Bok "HerbWatersModel" prog_14_method_79_code q := (List.forall_mem_cons.mpr ⟨kM_feast_0, (List.forall_mem_cons.mpr ⟨kM_feast_31, (List.forall_mem_cons.mpr ⟨kM_feast_39, (List.forall_mem_cons.mpr ⟨kM_feast_40, (fun _ h => absurd h List.not_mem_nil)⟩)⟩)⟩)⟩)
def mM_filters : Mt := (⟨"HerbWatersModel", "filters", "(III)I"⟩, prog_14_method_80_code, 5, some .int)
theorem ok_M_filters : Mok mM_filters := ⟨gtb_mem 2185 (by decide +kernel) rfl, gtb_mem 107 (by decide +kernel) rfl, by decide +kernel, by decide⟩
theorem lM_p321 : Snd "HerbWatersModel" (iPI 321 11 44) := sPI _ rfl rfl (gtb_mem 1767 (by decide +kernel) rfl)
theorem lM_p324 : Snd "HerbWatersModel" (iPI 324 11 45) := sPI _ rfl rfl (gtb_mem 1768 (by decide +kernel) rfl)
def bM_filters_0 : List Ir := [iLA0, iC0, (iPI 123 11 0), iLA0, iLA0, iLI1, (iCV1 290 11 mM_isVillage), (iIFne (7) 18)]
def bM_filters_14 : List Ir := [iC1, (iGO (4) 19)]
def bM_filters_18 : List Ir := [iC0]
def bM_filters_19 : List Ir := [iC1, iC0, (iCV3 221 11 mM_bad), (iIFne (36) 60)]
def bM_filters_27 : List Ir := [iLA0, iLI2, iC0, iC2, (iCS3 157 mM_in), (iIFeq (13) 47)]
def bM_filters_37 : List Ir := [iLI3, iC1, (iBP 60), (iCS3 157 mM_in), (iIFne (7) 51)]
def bM_filters_47 : List Ir := [iC1, (iGO (4) 52)]
def bM_filters_51 : List Ir := [iC0]
def bM_filters_52 : List Ir := [iC2, iC1, (iCV3 221 11 mM_bad), (iIFeq (5) 62)]
def bM_filters_60 : List Ir := [iC0, iRI]
def bM_filters_62 : List Ir := [iC0, iSI4]
def bM_filters_65 : List Ir := [iLI4, (iBP 99), (iICgt (50) 119)]
def bM_filters_72 : List Ir := [iLA0, (iCV0 353 11 mM_asNow), iLA0, iLI1, (iPI 89 11 43), iLA0, iLI2, (iPI 321 11 44), iLA0, iLI4, (iPI 324 11 45), iLA0, iLI3, (iCV1 364 11 mM_goesOn), iLA0, (iGR 83 11 34), (iSP 498), iLI2, iADD, iIALD, (iIFne (6) 113)]
def bM_filters_110 : List Ir := [iLI4, iRI]
def bM_filters_113 : List Ir := [(iINC4 1), (iGO (-51) 65)]
def bM_filters_119 : List Ir := [iCm1, iRI]
def tM_filters : Tb := [(0, bM_filters_0, 14), (14, bM_filters_14, 18), (18, bM_filters_18, 19), (19, bM_filters_19, 27), (27, bM_filters_27, 37), (37, bM_filters_37, 47), (47, bM_filters_47, 51), (51, bM_filters_51, 52), (52, bM_filters_52, 60), (60, bM_filters_60, 62), (62, bM_filters_62, 65), (65, bM_filters_65, 72), (72, bM_filters_72, 110), (110, bM_filters_110, 113), (113, bM_filters_113, 119), (119, bM_filters_119, 121)]
theorem fM_filters_0 : tbf tM_filters 0 = some (bM_filters_0, 14) := rfl
theorem fM_filters_14 : tbf tM_filters 14 = some (bM_filters_14, 18) := rfl
theorem fM_filters_18 : tbf tM_filters 18 = some (bM_filters_18, 19) := rfl
theorem fM_filters_19 : tbf tM_filters 19 = some (bM_filters_19, 27) := rfl
theorem fM_filters_27 : tbf tM_filters 27 = some (bM_filters_27, 37) := rfl
theorem fM_filters_37 : tbf tM_filters 37 = some (bM_filters_37, 47) := rfl
theorem fM_filters_47 : tbf tM_filters 47 = some (bM_filters_47, 51) := rfl
theorem fM_filters_51 : tbf tM_filters 51 = some (bM_filters_51, 52) := rfl
theorem fM_filters_52 : tbf tM_filters 52 = some (bM_filters_52, 60) := rfl
theorem fM_filters_60 : tbf tM_filters 60 = some (bM_filters_60, 62) := rfl
theorem fM_filters_62 : tbf tM_filters 62 = some (bM_filters_62, 65) := rfl
theorem fM_filters_65 : tbf tM_filters 65 = some (bM_filters_65, 72) := rfl
theorem fM_filters_72 : tbf tM_filters 72 = some (bM_filters_72, 110) := rfl
theorem fM_filters_110 : tbf tM_filters 110 = some (bM_filters_110, 113) := rfl
theorem fM_filters_113 : tbf tM_filters 113 = some (bM_filters_113, 119) := rfl
theorem fM_filters_119 : tbf tM_filters 119 = some (bM_filters_119, 121) := rfl
theorem kM_filters_0 : Bok "HerbWatersModel" prog_14_method_80_code (0, bM_filters_0, 14) := ⟨by decide +kernel, (List.forall_mem_cons.mpr ⟨sLA0, (List.forall_mem_cons.mpr ⟨sC0, (List.forall_mem_cons.mpr ⟨lM_p123, (List.forall_mem_cons.mpr ⟨sLA0, (List.forall_mem_cons.mpr ⟨sLA0, (List.forall_mem_cons.mpr ⟨sLI1, (List.forall_mem_cons.mpr ⟨lM_v290, (List.forall_mem_cons.mpr ⟨sIFne, (fun _ h => absurd h List.not_mem_nil)⟩)⟩)⟩)⟩)⟩)⟩)⟩)⟩)⟩
theorem kM_filters_14 : Bok "HerbWatersModel" prog_14_method_80_code (14, bM_filters_14, 18) := ⟨by decide +kernel, (List.forall_mem_cons.mpr ⟨sC1, (List.forall_mem_cons.mpr ⟨sGO, (fun _ h => absurd h List.not_mem_nil)⟩)⟩)⟩
theorem kM_filters_18 : Bok "HerbWatersModel" prog_14_method_80_code (18, bM_filters_18, 19) := ⟨by decide +kernel, (List.forall_mem_cons.mpr ⟨sC0, (fun _ h => absurd h List.not_mem_nil)⟩)⟩
theorem kM_filters_19 : Bok "HerbWatersModel" prog_14_method_80_code (19, bM_filters_19, 27) := ⟨by decide +kernel, (List.forall_mem_cons.mpr ⟨sC1, (List.forall_mem_cons.mpr ⟨sC0, (List.forall_mem_cons.mpr ⟨lM_v221, (List.forall_mem_cons.mpr ⟨sIFne, (fun _ h => absurd h List.not_mem_nil)⟩)⟩)⟩)⟩)⟩
theorem kM_filters_27 : Bok "HerbWatersModel" prog_14_method_80_code (27, bM_filters_27, 37) := ⟨by decide +kernel, (List.forall_mem_cons.mpr ⟨sLA0, (List.forall_mem_cons.mpr ⟨sLI2, (List.forall_mem_cons.mpr ⟨sC0, (List.forall_mem_cons.mpr ⟨sC2, (List.forall_mem_cons.mpr ⟨lM_s157, (List.forall_mem_cons.mpr ⟨sIFeq, (fun _ h => absurd h List.not_mem_nil)⟩)⟩)⟩)⟩)⟩)⟩)⟩
theorem kM_filters_37 : Bok "HerbWatersModel" prog_14_method_80_code (37, bM_filters_37, 47) := ⟨by decide +kernel, (List.forall_mem_cons.mpr ⟨sLI3, (List.forall_mem_cons.mpr ⟨sC1, (List.forall_mem_cons.mpr ⟨sBP, (List.forall_mem_cons.mpr ⟨lM_s157, (List.forall_mem_cons.mpr ⟨sIFne, (fun _ h => absurd h List.not_mem_nil)⟩)⟩)⟩)⟩)⟩)⟩
theorem kM_filters_47 : Bok "HerbWatersModel" prog_14_method_80_code (47, bM_filters_47, 51) := ⟨by decide +kernel, (List.forall_mem_cons.mpr ⟨sC1, (List.forall_mem_cons.mpr ⟨sGO, (fun _ h => absurd h List.not_mem_nil)⟩)⟩)⟩
theorem kM_filters_51 : Bok "HerbWatersModel" prog_14_method_80_code (51, bM_filters_51, 52) := ⟨by decide +kernel, (List.forall_mem_cons.mpr ⟨sC0, (fun _ h => absurd h List.not_mem_nil)⟩)⟩
theorem kM_filters_52 : Bok "HerbWatersModel" prog_14_method_80_code (52, bM_filters_52, 60) := ⟨by decide +kernel, (List.forall_mem_cons.mpr ⟨sC2, (List.forall_mem_cons.mpr ⟨sC1, (List.forall_mem_cons.mpr ⟨lM_v221, (List.forall_mem_cons.mpr ⟨sIFeq, (fun _ h => absurd h List.not_mem_nil)⟩)⟩)⟩)⟩)⟩
theorem kM_filters_60 : Bok "HerbWatersModel" prog_14_method_80_code (60, bM_filters_60, 62) := ⟨by decide +kernel, (List.forall_mem_cons.mpr ⟨sC0, (List.forall_mem_cons.mpr ⟨sRI, (fun _ h => absurd h List.not_mem_nil)⟩)⟩)⟩
theorem kM_filters_62 : Bok "HerbWatersModel" prog_14_method_80_code (62, bM_filters_62, 65) := ⟨by decide +kernel, (List.forall_mem_cons.mpr ⟨sC0, (List.forall_mem_cons.mpr ⟨sSI4, (fun _ h => absurd h List.not_mem_nil)⟩)⟩)⟩
theorem kM_filters_65 : Bok "HerbWatersModel" prog_14_method_80_code (65, bM_filters_65, 72) := ⟨by decide +kernel, (List.forall_mem_cons.mpr ⟨sLI4, (List.forall_mem_cons.mpr ⟨sBP, (List.forall_mem_cons.mpr ⟨sICgt, (fun _ h => absurd h List.not_mem_nil)⟩)⟩)⟩)⟩
theorem kM_filters_72 : Bok "HerbWatersModel" prog_14_method_80_code (72, bM_filters_72, 110) := ⟨by decide +kernel, (List.forall_mem_cons.mpr ⟨sLA0, (List.forall_mem_cons.mpr ⟨lM_v353, (List.forall_mem_cons.mpr ⟨sLA0, (List.forall_mem_cons.mpr ⟨sLI1, (List.forall_mem_cons.mpr ⟨lM_p89, (List.forall_mem_cons.mpr ⟨sLA0, (List.forall_mem_cons.mpr ⟨sLI2, (List.forall_mem_cons.mpr ⟨lM_p321, (List.forall_mem_cons.mpr ⟨sLA0, (List.forall_mem_cons.mpr ⟨sLI4, (List.forall_mem_cons.mpr ⟨lM_p324, (List.forall_mem_cons.mpr ⟨sLA0, (List.forall_mem_cons.mpr ⟨sLI3, (List.forall_mem_cons.mpr ⟨lM_v364, (List.forall_mem_cons.mpr ⟨sLA0, (List.forall_mem_cons.mpr ⟨lM_g83, (List.forall_mem_cons.mpr ⟨sSP, (List.forall_mem_cons.mpr ⟨sLI2, (List.forall_mem_cons.mpr ⟨sADD, (List.forall_mem_cons.mpr ⟨sIALD, (List.forall_mem_cons.mpr ⟨sIFne, (fun _ h => absurd h List.not_mem_nil)⟩)⟩)⟩)⟩)⟩)⟩)⟩)⟩)⟩)⟩)⟩)⟩)⟩)⟩)⟩)⟩)⟩)⟩)⟩)⟩)⟩)⟩
theorem kM_filters_110 : Bok "HerbWatersModel" prog_14_method_80_code (110, bM_filters_110, 113) := ⟨by decide +kernel, (List.forall_mem_cons.mpr ⟨sLI4, (List.forall_mem_cons.mpr ⟨sRI, (fun _ h => absurd h List.not_mem_nil)⟩)⟩)⟩
theorem kM_filters_113 : Bok "HerbWatersModel" prog_14_method_80_code (113, bM_filters_113, 119) := ⟨by decide +kernel, (List.forall_mem_cons.mpr ⟨sINC4, (List.forall_mem_cons.mpr ⟨sGO, (fun _ h => absurd h List.not_mem_nil)⟩)⟩)⟩
theorem kM_filters_119 : Bok "HerbWatersModel" prog_14_method_80_code (119, bM_filters_119, 121) := ⟨by decide +kernel, (List.forall_mem_cons.mpr ⟨sCm1, (List.forall_mem_cons.mpr ⟨sRI, (fun _ h => absurd h List.not_mem_nil)⟩)⟩)⟩
theorem kM_filters : ∀ q ∈ tM_filters, Bok "HerbWatersModel" prog_14_method_80_code q := (List.forall_mem_cons.mpr ⟨kM_filters_0, (List.forall_mem_cons.mpr ⟨kM_filters_14, (List.forall_mem_cons.mpr ⟨kM_filters_18, (List.forall_mem_cons.mpr ⟨kM_filters_19, (List.forall_mem_cons.mpr ⟨kM_filters_27, (List.forall_mem_cons.mpr ⟨kM_filters_37, (List.forall_mem_cons.mpr ⟨kM_filters_47, (List.forall_mem_cons.mpr ⟨kM_filters_51, (List.forall_mem_cons.mpr ⟨kM_filters_52, (List.forall_mem_cons.mpr ⟨kM_filters_60, (List.forall_mem_cons.mpr ⟨kM_filters_62, (List.forall_mem_cons.mpr ⟨kM_filters_65, (List.forall_mem_cons.mpr ⟨kM_filters_72, (List.forall_mem_cons.mpr ⟨kM_filters_110, (List.forall_mem_cons.mpr ⟨kM_filters_113, (List.forall_mem_cons.mpr ⟨kM_filters_119, (fun _ h => absurd h List.not_mem_nil)⟩)⟩)⟩)⟩)⟩)⟩)⟩)⟩)⟩)⟩)⟩)⟩)⟩)⟩)⟩)⟩)
def mM_rightBy : Mt := (⟨"HerbWatersModel", "rightBy", "(I)I"⟩, prog_14_method_81_code, 3, some .int)
theorem ok_M_rightBy : Mok mM_rightBy := ⟨gtb_mem 2193 (by decide +kernel) rfl, gtb_mem 107 (by decide +kernel) rfl, by decide +kernel, by decide⟩
theorem lM_v376 : Snd "HerbWatersModel" (iCV1 376 11 mM_fromBegin) := sCV1 _ rfl rfl ok_M_fromBegin (gtb_mem 2196 (by decide +kernel) rfl) (gtb_mem 84 (by decide +kernel) rfl) (gtb_mem 2194 (by decide +kernel) rfl)
theorem lM_g105 : Snd "HerbWatersModel" (iGR 105 11 52) := sGR _ rfl (gtb_mem 1775 (by decide +kernel) rfl)
def bM_rightBy_0 : List Ir := [iLA0, iLI1, (iCV1 376 11 mM_fromBegin), iC1, iSI2]
def bM_rightBy_7 : List Ir := [iLI2, (iBP 100), (iICge (30) 40)]
def bM_rightBy_13 : List Ir := [iLA0, iLA0, (iGR 83 11 34), (iCV1 356 11 mM_steps), iLA0, (iGR 105 11 52), iLI2, iLA0, (iGR 83 11 34), (iCS1 360 mM_viewOf), iIAST, (iINC2 1), (iGO (-30) 7)]
def bM_rightBy_40 : List Ir := [iC0, iSI2]
def bM_rightBy_42 : List Ir := [iLI2, iLA0, (iGI 235 11 36), (iICge (33) 80)]
def bM_rightBy_50 : List Ir := [iLA0, (iGR 105 11 52), iLA0, (iGR 65 11 28), iLI2, iAALD107, iC0, iIALD, iIALD, iLA0, (iGR 65 11 28), iLI2, iAALD107, iC1, iIALD, (iICne (9) 80)]
def bM_rightBy_74 : List Ir := [(iINC2 1), (iGO (-35) 42)]
def bM_rightBy_80 : List Ir := [iLI2, iRI]
def tM_rightBy : Tb := [(0, bM_rightBy_0, 7), (7, bM_rightBy_7, 13), (13, bM_rightBy_13, 40), (40, bM_rightBy_40, 42), (42, bM_rightBy_42, 50), (50, bM_rightBy_50, 74), (74, bM_rightBy_74, 80), (80, bM_rightBy_80, 82)]
theorem fM_rightBy_0 : tbf tM_rightBy 0 = some (bM_rightBy_0, 7) := rfl
theorem fM_rightBy_7 : tbf tM_rightBy 7 = some (bM_rightBy_7, 13) := rfl
theorem fM_rightBy_13 : tbf tM_rightBy 13 = some (bM_rightBy_13, 40) := rfl
theorem fM_rightBy_40 : tbf tM_rightBy 40 = some (bM_rightBy_40, 42) := rfl
theorem fM_rightBy_42 : tbf tM_rightBy 42 = some (bM_rightBy_42, 50) := rfl
theorem fM_rightBy_50 : tbf tM_rightBy 50 = some (bM_rightBy_50, 74) := rfl
theorem fM_rightBy_74 : tbf tM_rightBy 74 = some (bM_rightBy_74, 80) := rfl
theorem fM_rightBy_80 : tbf tM_rightBy 80 = some (bM_rightBy_80, 82) := rfl
theorem kM_rightBy_0 : Bok "HerbWatersModel" prog_14_method_81_code (0, bM_rightBy_0, 7) := ⟨by decide +kernel, (List.forall_mem_cons.mpr ⟨sLA0, (List.forall_mem_cons.mpr ⟨sLI1, (List.forall_mem_cons.mpr ⟨lM_v376, (List.forall_mem_cons.mpr ⟨sC1, (List.forall_mem_cons.mpr ⟨sSI2, (fun _ h => absurd h List.not_mem_nil)⟩)⟩)⟩)⟩)⟩)⟩
theorem kM_rightBy_7 : Bok "HerbWatersModel" prog_14_method_81_code (7, bM_rightBy_7, 13) := ⟨by decide +kernel, (List.forall_mem_cons.mpr ⟨sLI2, (List.forall_mem_cons.mpr ⟨sBP, (List.forall_mem_cons.mpr ⟨sICge, (fun _ h => absurd h List.not_mem_nil)⟩)⟩)⟩)⟩
theorem kM_rightBy_13 : Bok "HerbWatersModel" prog_14_method_81_code (13, bM_rightBy_13, 40) := ⟨by decide +kernel, (List.forall_mem_cons.mpr ⟨sLA0, (List.forall_mem_cons.mpr ⟨sLA0, (List.forall_mem_cons.mpr ⟨lM_g83, (List.forall_mem_cons.mpr ⟨lM_v356, (List.forall_mem_cons.mpr ⟨sLA0, (List.forall_mem_cons.mpr ⟨lM_g105, (List.forall_mem_cons.mpr ⟨sLI2, (List.forall_mem_cons.mpr ⟨sLA0, (List.forall_mem_cons.mpr ⟨lM_g83, (List.forall_mem_cons.mpr ⟨lM_s360, (List.forall_mem_cons.mpr ⟨sIAST, (List.forall_mem_cons.mpr ⟨sINC2, (List.forall_mem_cons.mpr ⟨sGO, (fun _ h => absurd h List.not_mem_nil)⟩)⟩)⟩)⟩)⟩)⟩)⟩)⟩)⟩)⟩)⟩)⟩)⟩)⟩
theorem kM_rightBy_40 : Bok "HerbWatersModel" prog_14_method_81_code (40, bM_rightBy_40, 42) := ⟨by decide +kernel, (List.forall_mem_cons.mpr ⟨sC0, (List.forall_mem_cons.mpr ⟨sSI2, (fun _ h => absurd h List.not_mem_nil)⟩)⟩)⟩
theorem kM_rightBy_42 : Bok "HerbWatersModel" prog_14_method_81_code (42, bM_rightBy_42, 50) := ⟨by decide +kernel, (List.forall_mem_cons.mpr ⟨sLI2, (List.forall_mem_cons.mpr ⟨sLA0, (List.forall_mem_cons.mpr ⟨lM_g235, (List.forall_mem_cons.mpr ⟨sICge, (fun _ h => absurd h List.not_mem_nil)⟩)⟩)⟩)⟩)⟩
theorem kM_rightBy_50 : Bok "HerbWatersModel" prog_14_method_81_code (50, bM_rightBy_50, 74) := ⟨by decide +kernel, (List.forall_mem_cons.mpr ⟨sLA0, (List.forall_mem_cons.mpr ⟨lM_g105, (List.forall_mem_cons.mpr ⟨sLA0, (List.forall_mem_cons.mpr ⟨lM_g65, (List.forall_mem_cons.mpr ⟨sLI2, (List.forall_mem_cons.mpr ⟨sAALD107, (List.forall_mem_cons.mpr ⟨sC0, (List.forall_mem_cons.mpr ⟨sIALD, (List.forall_mem_cons.mpr ⟨sIALD, (List.forall_mem_cons.mpr ⟨sLA0, (List.forall_mem_cons.mpr ⟨lM_g65, (List.forall_mem_cons.mpr ⟨sLI2, (List.forall_mem_cons.mpr ⟨sAALD107, (List.forall_mem_cons.mpr ⟨sC1, (List.forall_mem_cons.mpr ⟨sIALD, (List.forall_mem_cons.mpr ⟨sICne, (fun _ h => absurd h List.not_mem_nil)⟩)⟩)⟩)⟩)⟩)⟩)⟩)⟩)⟩)⟩)⟩)⟩)⟩)⟩)⟩)⟩)⟩
theorem kM_rightBy_74 : Bok "HerbWatersModel" prog_14_method_81_code (74, bM_rightBy_74, 80) := ⟨by decide +kernel, (List.forall_mem_cons.mpr ⟨sINC2, (List.forall_mem_cons.mpr ⟨sGO, (fun _ h => absurd h List.not_mem_nil)⟩)⟩)⟩
theorem kM_rightBy_80 : Bok "HerbWatersModel" prog_14_method_81_code (80, bM_rightBy_80, 82) := ⟨by decide +kernel, (List.forall_mem_cons.mpr ⟨sLI2, (List.forall_mem_cons.mpr ⟨sRI, (fun _ h => absurd h List.not_mem_nil)⟩)⟩)⟩
theorem kM_rightBy : ∀ q ∈ tM_rightBy, Bok "HerbWatersModel" prog_14_method_81_code q := (List.forall_mem_cons.mpr ⟨kM_rightBy_0, (List.forall_mem_cons.mpr ⟨kM_rightBy_7, (List.forall_mem_cons.mpr ⟨kM_rightBy_13, (List.forall_mem_cons.mpr ⟨kM_rightBy_40, (List.forall_mem_cons.mpr ⟨kM_rightBy_42, (List.forall_mem_cons.mpr ⟨kM_rightBy_50, (List.forall_mem_cons.mpr ⟨kM_rightBy_74, (List.forall_mem_cons.mpr ⟨kM_rightBy_80, (fun _ h => absurd h List.not_mem_nil)⟩)⟩)⟩)⟩)⟩)⟩)⟩)⟩)
def mM_minds : Mt := (⟨"HerbWatersModel", "minds", "(I)I"⟩, prog_14_method_82_code, 7, some .int)
theorem ok_M_minds : Mok mM_minds := ⟨gtb_mem 2189 (by decide +kernel) rfl, gtb_mem 107 (by decide +kernel) rfl, by decide +kernel, by decide⟩
theorem lM_v379 : Snd "HerbWatersModel" (iCV1 379 11 mM_rightBy) := sCV1 _ rfl rfl ok_M_rightBy (gtb_mem 2192 (by decide +kernel) rfl) (gtb_mem 83 (by decide +kernel) rfl) (gtb_mem 2190 (by decide +kernel) rfl)
def bM_minds_0 : List Ir := [iLA0, iC0, (iPI 123 11 0), iLA0, iLI1, iC0, iC3, (iCS3 157 mM_in), (iIFne (7) 19)]
def bM_minds_15 : List Ir := [iC1, (iGO (4) 20)]
def bM_minds_19 : List Ir := [iC0]
def bM_minds_20 : List Ir := [iC1, iC1, (iCV3 221 11 mM_bad), (iIFeq (5) 30)]
def bM_minds_28 : List Ir := [iC0, iRI]
def bM_minds_30 : List Ir := [iC0, iSI2, iCm1, iSI3, iC1, iLA0, (iGR 23 11 12), iC0, iIALD, iSHL, iC1, iSUB, iSI4, iC0, iSI5, iC0, iSI6]
def bM_minds_52 : List Ir := [iLI6, iC1, iLA0, (iGR 23 11 12), iC0, iIALD, iSHL, (iICge (53) 115)]
def bM_minds_65 : List Ir := [iLA0, iLI6, (iCV1 379 11 mM_rightBy), iLA0, (iGI 235 11 36), (iICge (6) 81)]
def bM_minds_78 : List Ir := [(iGO (31) 109)]
def bM_minds_81 : List Ir := [iLI2, (iIFne (8) 90)]
def bM_minds_85 : List Ir := [iLI6, (iGO (4) 91)]
def bM_minds_90 : List Ir := [iLI3]
def bM_minds_91 : List Ir := [iSI3, (iINC2 1), iLI4, iLI6, iAND, iSI4, iLI5, iLI6, iOR, iSI5]
def bM_minds_109 : List Ir := [(iINC6 1), (iGO (-60) 52)]
def bM_minds_115 : List Ir := [iLI1, (iIFne (7) 123)]
def bM_minds_119 : List Ir := [iLI2, (iGO (45) 165)]
def bM_minds_123 : List Ir := [iLI1, iC1, (iICne (7) 132)]
def bM_minds_128 : List Ir := [iLI3, (iGO (36) 165)]
def bM_minds_132 : List Ir := [iLI2, (iIFne (7) 140)]
def bM_minds_136 : List Ir := [iC0, (iGO (28) 165)]
def bM_minds_140 : List Ir := [iLI1, iC2, (iICne (8) 150)]
def bM_minds_145 : List Ir := [iLI4, (iGO (18) 165)]
def bM_minds_150 : List Ir := [iC1, iLA0, (iGR 23 11 12), iC0, iIALD, iSHL, iC1, iSUB, iLI5, iCm1, iXOR, iAND]
def bM_minds_165 : List Ir := [iRI]
def tM_minds : Tb := [(0, bM_minds_0, 15), (15, bM_minds_15, 19), (19, bM_minds_19, 20), (20, bM_minds_20, 28), (28, bM_minds_28, 30), (30, bM_minds_30, 52), (52, bM_minds_52, 65), (65, bM_minds_65, 78), (78, bM_minds_78, 81), (81, bM_minds_81, 85), (85, bM_minds_85, 90), (90, bM_minds_90, 91), (91, bM_minds_91, 109), (109, bM_minds_109, 115), (115, bM_minds_115, 119), (119, bM_minds_119, 123), (123, bM_minds_123, 128), (128, bM_minds_128, 132), (132, bM_minds_132, 136), (136, bM_minds_136, 140), (140, bM_minds_140, 145), (145, bM_minds_145, 150), (150, bM_minds_150, 165), (165, bM_minds_165, 166)]
theorem fM_minds_0 : tbf tM_minds 0 = some (bM_minds_0, 15) := rfl
theorem fM_minds_15 : tbf tM_minds 15 = some (bM_minds_15, 19) := rfl
theorem fM_minds_19 : tbf tM_minds 19 = some (bM_minds_19, 20) := rfl
theorem fM_minds_20 : tbf tM_minds 20 = some (bM_minds_20, 28) := rfl
theorem fM_minds_28 : tbf tM_minds 28 = some (bM_minds_28, 30) := rfl
theorem fM_minds_30 : tbf tM_minds 30 = some (bM_minds_30, 52) := rfl
theorem fM_minds_52 : tbf tM_minds 52 = some (bM_minds_52, 65) := rfl
theorem fM_minds_65 : tbf tM_minds 65 = some (bM_minds_65, 78) := rfl
theorem fM_minds_78 : tbf tM_minds 78 = some (bM_minds_78, 81) := rfl
theorem fM_minds_81 : tbf tM_minds 81 = some (bM_minds_81, 85) := rfl
theorem fM_minds_85 : tbf tM_minds 85 = some (bM_minds_85, 90) := rfl
theorem fM_minds_90 : tbf tM_minds 90 = some (bM_minds_90, 91) := rfl
theorem fM_minds_91 : tbf tM_minds 91 = some (bM_minds_91, 109) := rfl
theorem fM_minds_109 : tbf tM_minds 109 = some (bM_minds_109, 115) := rfl
theorem fM_minds_115 : tbf tM_minds 115 = some (bM_minds_115, 119) := rfl
theorem fM_minds_119 : tbf tM_minds 119 = some (bM_minds_119, 123) := rfl
theorem fM_minds_123 : tbf tM_minds 123 = some (bM_minds_123, 128) := rfl
theorem fM_minds_128 : tbf tM_minds 128 = some (bM_minds_128, 132) := rfl
theorem fM_minds_132 : tbf tM_minds 132 = some (bM_minds_132, 136) := rfl
theorem fM_minds_136 : tbf tM_minds 136 = some (bM_minds_136, 140) := rfl
theorem fM_minds_140 : tbf tM_minds 140 = some (bM_minds_140, 145) := rfl
theorem fM_minds_145 : tbf tM_minds 145 = some (bM_minds_145, 150) := rfl
theorem fM_minds_150 : tbf tM_minds 150 = some (bM_minds_150, 165) := rfl
theorem fM_minds_165 : tbf tM_minds 165 = some (bM_minds_165, 166) := rfl
theorem kM_minds_0 : Bok "HerbWatersModel" prog_14_method_82_code (0, bM_minds_0, 15) := ⟨by decide +kernel, (List.forall_mem_cons.mpr ⟨sLA0, (List.forall_mem_cons.mpr ⟨sC0, (List.forall_mem_cons.mpr ⟨lM_p123, (List.forall_mem_cons.mpr ⟨sLA0, (List.forall_mem_cons.mpr ⟨sLI1, (List.forall_mem_cons.mpr ⟨sC0, (List.forall_mem_cons.mpr ⟨sC3, (List.forall_mem_cons.mpr ⟨lM_s157, (List.forall_mem_cons.mpr ⟨sIFne, (fun _ h => absurd h List.not_mem_nil)⟩)⟩)⟩)⟩)⟩)⟩)⟩)⟩)⟩)⟩
theorem kM_minds_15 : Bok "HerbWatersModel" prog_14_method_82_code (15, bM_minds_15, 19) := ⟨by decide +kernel, (List.forall_mem_cons.mpr ⟨sC1, (List.forall_mem_cons.mpr ⟨sGO, (fun _ h => absurd h List.not_mem_nil)⟩)⟩)⟩
theorem kM_minds_19 : Bok "HerbWatersModel" prog_14_method_82_code (19, bM_minds_19, 20) := ⟨by decide +kernel, (List.forall_mem_cons.mpr ⟨sC0, (fun _ h => absurd h List.not_mem_nil)⟩)⟩
theorem kM_minds_20 : Bok "HerbWatersModel" prog_14_method_82_code (20, bM_minds_20, 28) := ⟨by decide +kernel, (List.forall_mem_cons.mpr ⟨sC1, (List.forall_mem_cons.mpr ⟨sC1, (List.forall_mem_cons.mpr ⟨lM_v221, (List.forall_mem_cons.mpr ⟨sIFeq, (fun _ h => absurd h List.not_mem_nil)⟩)⟩)⟩)⟩)⟩
theorem kM_minds_28 : Bok "HerbWatersModel" prog_14_method_82_code (28, bM_minds_28, 30) := ⟨by decide +kernel, (List.forall_mem_cons.mpr ⟨sC0, (List.forall_mem_cons.mpr ⟨sRI, (fun _ h => absurd h List.not_mem_nil)⟩)⟩)⟩
theorem kM_minds_30 : Bok "HerbWatersModel" prog_14_method_82_code (30, bM_minds_30, 52) := ⟨by decide +kernel, (List.forall_mem_cons.mpr ⟨sC0, (List.forall_mem_cons.mpr ⟨sSI2, (List.forall_mem_cons.mpr ⟨sCm1, (List.forall_mem_cons.mpr ⟨sSI3, (List.forall_mem_cons.mpr ⟨sC1, (List.forall_mem_cons.mpr ⟨sLA0, (List.forall_mem_cons.mpr ⟨lM_g23, (List.forall_mem_cons.mpr ⟨sC0, (List.forall_mem_cons.mpr ⟨sIALD, (List.forall_mem_cons.mpr ⟨sSHL, (List.forall_mem_cons.mpr ⟨sC1, (List.forall_mem_cons.mpr ⟨sSUB, (List.forall_mem_cons.mpr ⟨sSI4, (List.forall_mem_cons.mpr ⟨sC0, (List.forall_mem_cons.mpr ⟨sSI5, (List.forall_mem_cons.mpr ⟨sC0, (List.forall_mem_cons.mpr ⟨sSI6, (fun _ h => absurd h List.not_mem_nil)⟩)⟩)⟩)⟩)⟩)⟩)⟩)⟩)⟩)⟩)⟩)⟩)⟩)⟩)⟩)⟩)⟩)⟩
theorem kM_minds_52 : Bok "HerbWatersModel" prog_14_method_82_code (52, bM_minds_52, 65) := ⟨by decide +kernel, (List.forall_mem_cons.mpr ⟨sLI6, (List.forall_mem_cons.mpr ⟨sC1, (List.forall_mem_cons.mpr ⟨sLA0, (List.forall_mem_cons.mpr ⟨lM_g23, (List.forall_mem_cons.mpr ⟨sC0, (List.forall_mem_cons.mpr ⟨sIALD, (List.forall_mem_cons.mpr ⟨sSHL, (List.forall_mem_cons.mpr ⟨sICge, (fun _ h => absurd h List.not_mem_nil)⟩)⟩)⟩)⟩)⟩)⟩)⟩)⟩)⟩
theorem kM_minds_65 : Bok "HerbWatersModel" prog_14_method_82_code (65, bM_minds_65, 78) := ⟨by decide +kernel, (List.forall_mem_cons.mpr ⟨sLA0, (List.forall_mem_cons.mpr ⟨sLI6, (List.forall_mem_cons.mpr ⟨lM_v379, (List.forall_mem_cons.mpr ⟨sLA0, (List.forall_mem_cons.mpr ⟨lM_g235, (List.forall_mem_cons.mpr ⟨sICge, (fun _ h => absurd h List.not_mem_nil)⟩)⟩)⟩)⟩)⟩)⟩)⟩
theorem kM_minds_78 : Bok "HerbWatersModel" prog_14_method_82_code (78, bM_minds_78, 81) := ⟨by decide +kernel, (List.forall_mem_cons.mpr ⟨sGO, (fun _ h => absurd h List.not_mem_nil)⟩)⟩
theorem kM_minds_81 : Bok "HerbWatersModel" prog_14_method_82_code (81, bM_minds_81, 85) := ⟨by decide +kernel, (List.forall_mem_cons.mpr ⟨sLI2, (List.forall_mem_cons.mpr ⟨sIFne, (fun _ h => absurd h List.not_mem_nil)⟩)⟩)⟩
theorem kM_minds_85 : Bok "HerbWatersModel" prog_14_method_82_code (85, bM_minds_85, 90) := ⟨by decide +kernel, (List.forall_mem_cons.mpr ⟨sLI6, (List.forall_mem_cons.mpr ⟨sGO, (fun _ h => absurd h List.not_mem_nil)⟩)⟩)⟩
theorem kM_minds_90 : Bok "HerbWatersModel" prog_14_method_82_code (90, bM_minds_90, 91) := ⟨by decide +kernel, (List.forall_mem_cons.mpr ⟨sLI3, (fun _ h => absurd h List.not_mem_nil)⟩)⟩
theorem kM_minds_91 : Bok "HerbWatersModel" prog_14_method_82_code (91, bM_minds_91, 109) := ⟨by decide +kernel, (List.forall_mem_cons.mpr ⟨sSI3, (List.forall_mem_cons.mpr ⟨sINC2, (List.forall_mem_cons.mpr ⟨sLI4, (List.forall_mem_cons.mpr ⟨sLI6, (List.forall_mem_cons.mpr ⟨sAND, (List.forall_mem_cons.mpr ⟨sSI4, (List.forall_mem_cons.mpr ⟨sLI5, (List.forall_mem_cons.mpr ⟨sLI6, (List.forall_mem_cons.mpr ⟨sOR, (List.forall_mem_cons.mpr ⟨sSI5, (fun _ h => absurd h List.not_mem_nil)⟩)⟩)⟩)⟩)⟩)⟩)⟩)⟩)⟩)⟩)⟩
theorem kM_minds_109 : Bok "HerbWatersModel" prog_14_method_82_code (109, bM_minds_109, 115) := ⟨by decide +kernel, (List.forall_mem_cons.mpr ⟨sINC6, (List.forall_mem_cons.mpr ⟨sGO, (fun _ h => absurd h List.not_mem_nil)⟩)⟩)⟩
theorem kM_minds_115 : Bok "HerbWatersModel" prog_14_method_82_code (115, bM_minds_115, 119) := ⟨by decide +kernel, (List.forall_mem_cons.mpr ⟨sLI1, (List.forall_mem_cons.mpr ⟨sIFne, (fun _ h => absurd h List.not_mem_nil)⟩)⟩)⟩
theorem kM_minds_119 : Bok "HerbWatersModel" prog_14_method_82_code (119, bM_minds_119, 123) := ⟨by decide +kernel, (List.forall_mem_cons.mpr ⟨sLI2, (List.forall_mem_cons.mpr ⟨sGO, (fun _ h => absurd h List.not_mem_nil)⟩)⟩)⟩
theorem kM_minds_123 : Bok "HerbWatersModel" prog_14_method_82_code (123, bM_minds_123, 128) := ⟨by decide +kernel, (List.forall_mem_cons.mpr ⟨sLI1, (List.forall_mem_cons.mpr ⟨sC1, (List.forall_mem_cons.mpr ⟨sICne, (fun _ h => absurd h List.not_mem_nil)⟩)⟩)⟩)⟩
theorem kM_minds_128 : Bok "HerbWatersModel" prog_14_method_82_code (128, bM_minds_128, 132) := ⟨by decide +kernel, (List.forall_mem_cons.mpr ⟨sLI3, (List.forall_mem_cons.mpr ⟨sGO, (fun _ h => absurd h List.not_mem_nil)⟩)⟩)⟩
theorem kM_minds_132 : Bok "HerbWatersModel" prog_14_method_82_code (132, bM_minds_132, 136) := ⟨by decide +kernel, (List.forall_mem_cons.mpr ⟨sLI2, (List.forall_mem_cons.mpr ⟨sIFne, (fun _ h => absurd h List.not_mem_nil)⟩)⟩)⟩
theorem kM_minds_136 : Bok "HerbWatersModel" prog_14_method_82_code (136, bM_minds_136, 140) := ⟨by decide +kernel, (List.forall_mem_cons.mpr ⟨sC0, (List.forall_mem_cons.mpr ⟨sGO, (fun _ h => absurd h List.not_mem_nil)⟩)⟩)⟩
theorem kM_minds_140 : Bok "HerbWatersModel" prog_14_method_82_code (140, bM_minds_140, 145) := ⟨by decide +kernel, (List.forall_mem_cons.mpr ⟨sLI1, (List.forall_mem_cons.mpr ⟨sC2, (List.forall_mem_cons.mpr ⟨sICne, (fun _ h => absurd h List.not_mem_nil)⟩)⟩)⟩)⟩
theorem kM_minds_145 : Bok "HerbWatersModel" prog_14_method_82_code (145, bM_minds_145, 150) := ⟨by decide +kernel, (List.forall_mem_cons.mpr ⟨sLI4, (List.forall_mem_cons.mpr ⟨sGO, (fun _ h => absurd h List.not_mem_nil)⟩)⟩)⟩
theorem kM_minds_150 : Bok "HerbWatersModel" prog_14_method_82_code (150, bM_minds_150, 165) := ⟨by decide +kernel, (List.forall_mem_cons.mpr ⟨sC1, (List.forall_mem_cons.mpr ⟨sLA0, (List.forall_mem_cons.mpr ⟨lM_g23, (List.forall_mem_cons.mpr ⟨sC0, (List.forall_mem_cons.mpr ⟨sIALD, (List.forall_mem_cons.mpr ⟨sSHL, (List.forall_mem_cons.mpr ⟨sC1, (List.forall_mem_cons.mpr ⟨sSUB, (List.forall_mem_cons.mpr ⟨sLI5, (List.forall_mem_cons.mpr ⟨sCm1, (List.forall_mem_cons.mpr ⟨sXOR, (List.forall_mem_cons.mpr ⟨sAND, (fun _ h => absurd h List.not_mem_nil)⟩)⟩)⟩)⟩)⟩)⟩)⟩)⟩)⟩)⟩)⟩)⟩)⟩
theorem kM_minds_165 : Bok "HerbWatersModel" prog_14_method_82_code (165, bM_minds_165, 166) := ⟨by decide +kernel, (List.forall_mem_cons.mpr ⟨sRI, (fun _ h => absurd h List.not_mem_nil)⟩)⟩
theorem kM_minds : ∀ q ∈ tM_minds, Bok "HerbWatersModel" prog_14_method_82_code q := (List.forall_mem_cons.mpr ⟨kM_minds_0, (List.forall_mem_cons.mpr ⟨kM_minds_15, (List.forall_mem_cons.mpr ⟨kM_minds_19, (List.forall_mem_cons.mpr ⟨kM_minds_20, (List.forall_mem_cons.mpr ⟨kM_minds_28, (List.forall_mem_cons.mpr ⟨kM_minds_30, (List.forall_mem_cons.mpr ⟨kM_minds_52, (List.forall_mem_cons.mpr ⟨kM_minds_65, (List.forall_mem_cons.mpr ⟨kM_minds_78, (List.forall_mem_cons.mpr ⟨kM_minds_81, (List.forall_mem_cons.mpr ⟨kM_minds_85, (List.forall_mem_cons.mpr ⟨kM_minds_90, (List.forall_mem_cons.mpr ⟨kM_minds_91, (List.forall_mem_cons.mpr ⟨kM_minds_109, (List.forall_mem_cons.mpr ⟨kM_minds_115, (List.forall_mem_cons.mpr ⟨kM_minds_119, (List.forall_mem_cons.mpr ⟨kM_minds_123, (List.forall_mem_cons.mpr ⟨kM_minds_128, (List.forall_mem_cons.mpr ⟨kM_minds_132, (List.forall_mem_cons.mpr ⟨kM_minds_136, (List.forall_mem_cons.mpr ⟨kM_minds_140, (List.forall_mem_cons.mpr ⟨kM_minds_145, (List.forall_mem_cons.mpr ⟨kM_minds_150, (List.forall_mem_cons.mpr ⟨kM_minds_165, (fun _ h => absurd h List.not_mem_nil)⟩)⟩)⟩)⟩)⟩)⟩)⟩)⟩)⟩)⟩)⟩)⟩)⟩)⟩)⟩)⟩)⟩)⟩)⟩)⟩)⟩)⟩)⟩)⟩)
def mM_right : Mt := (⟨"HerbWatersModel", "right", "()I"⟩, prog_14_method_83_code, 1, some .int)
theorem ok_M_right : Mok mM_right := ⟨gtb_mem 2201 (by decide +kernel) rfl, gtb_mem 107 (by decide +kernel) rfl, by decide +kernel, by decide⟩
def bM_right_0 : List Ir := [iLA0, iC0, (iPI 123 11 0), iLA0, iLA0, (iGI 241 11 38), (iCV1 379 11 mM_rightBy), iRI]
def tM_right : Tb := [(0, bM_right_0, 14)]
theorem fM_right_0 : tbf tM_right 0 = some (bM_right_0, 14) := rfl
theorem kM_right_0 : Bok "HerbWatersModel" prog_14_method_83_code (0, bM_right_0, 14) := ⟨by decide +kernel, (List.forall_mem_cons.mpr ⟨sLA0, (List.forall_mem_cons.mpr ⟨sC0, (List.forall_mem_cons.mpr ⟨lM_p123, (List.forall_mem_cons.mpr ⟨sLA0, (List.forall_mem_cons.mpr ⟨sLA0, (List.forall_mem_cons.mpr ⟨lM_g241, (List.forall_mem_cons.mpr ⟨lM_v379, (List.forall_mem_cons.mpr ⟨sRI, (fun _ h => absurd h List.not_mem_nil)⟩)⟩)⟩)⟩)⟩)⟩)⟩)⟩)⟩
theorem kM_right : ∀ q ∈ tM_right, Bok "HerbWatersModel" prog_14_method_83_code q := (List.forall_mem_cons.mpr ⟨kM_right_0, (fun _ h => absurd h List.not_mem_nil)⟩)
def mM_tasteOf : Mt := (⟨"HerbWatersModel", "tasteOf", "(II)I"⟩, prog_14_method_84_code, 5, some .int)
theorem ok_M_tasteOf : Mok mM_tasteOf := ⟨gtb_mem 2209 (by decide +kernel) rfl, gtb_mem 107 (by decide +kernel) rfl, by decide +kernel, by decide⟩
def bM_tasteOf_0 : List Ir := [iLA0, iC0, (iCV1 376 11 mM_fromBegin), iLA0, iLI1, (iPI 92 11 46), iC0, iSI3]
def bM_tasteOf_12 : List Ir := [iLI3, iLI2, (iICge (17) 31)]
def bM_tasteOf_17 : List Ir := [iLA0, iLA0, (iGR 83 11 34), (iCV1 356 11 mM_steps), (iINC3 1), (iGO (-16) 12)]
def bM_tasteOf_31 : List Ir := [iC0, iSI3, iC0, iSI4]
def bM_tasteOf_36 : List Ir := [iLI4, iLA0, (iGR 23 11 12), iC0, iIALD, (iICge (55) 99)]
def bM_tasteOf_47 : List Ir := [iLI3, iLA0, (iGR 83 11 34), iLI4, iC1, (iCS3 350 mM_basin), iLA0, (iGR 83 11 34), iLI4, iC2, (iCS3 350 mM_basin), iADD, iLA0, (iGR 83 11 34), iLI4, iC3, (iCS3 350 mM_basin), iADD, (iIFle (10) 90)]
def bM_tasteOf_83 : List Ir := [iC1, iLI4, iSHL, (iGO (4) 91)]
def bM_tasteOf_90 : List Ir := [iC0]
def bM_tasteOf_91 : List Ir := [iOR, iSI3, (iINC4 1), (iGO (-60) 36)]
def bM_tasteOf_99 : List Ir := [iLI3, iRI]
def tM_tasteOf : Tb := [(0, bM_tasteOf_0, 12), (12, bM_tasteOf_12, 17), (17, bM_tasteOf_17, 31), (31, bM_tasteOf_31, 36), (36, bM_tasteOf_36, 47), (47, bM_tasteOf_47, 83), (83, bM_tasteOf_83, 90), (90, bM_tasteOf_90, 91), (91, bM_tasteOf_91, 99), (99, bM_tasteOf_99, 101)]
theorem fM_tasteOf_0 : tbf tM_tasteOf 0 = some (bM_tasteOf_0, 12) := rfl
theorem fM_tasteOf_12 : tbf tM_tasteOf 12 = some (bM_tasteOf_12, 17) := rfl
theorem fM_tasteOf_17 : tbf tM_tasteOf 17 = some (bM_tasteOf_17, 31) := rfl
theorem fM_tasteOf_31 : tbf tM_tasteOf 31 = some (bM_tasteOf_31, 36) := rfl
theorem fM_tasteOf_36 : tbf tM_tasteOf 36 = some (bM_tasteOf_36, 47) := rfl
theorem fM_tasteOf_47 : tbf tM_tasteOf 47 = some (bM_tasteOf_47, 83) := rfl
theorem fM_tasteOf_83 : tbf tM_tasteOf 83 = some (bM_tasteOf_83, 90) := rfl
theorem fM_tasteOf_90 : tbf tM_tasteOf 90 = some (bM_tasteOf_90, 91) := rfl
theorem fM_tasteOf_91 : tbf tM_tasteOf 91 = some (bM_tasteOf_91, 99) := rfl
theorem fM_tasteOf_99 : tbf tM_tasteOf 99 = some (bM_tasteOf_99, 101) := rfl
theorem kM_tasteOf_0 : Bok "HerbWatersModel" prog_14_method_84_code (0, bM_tasteOf_0, 12) := ⟨by decide +kernel, (List.forall_mem_cons.mpr ⟨sLA0, (List.forall_mem_cons.mpr ⟨sC0, (List.forall_mem_cons.mpr ⟨lM_v376, (List.forall_mem_cons.mpr ⟨sLA0, (List.forall_mem_cons.mpr ⟨sLI1, (List.forall_mem_cons.mpr ⟨lM_p92, (List.forall_mem_cons.mpr ⟨sC0, (List.forall_mem_cons.mpr ⟨sSI3, (fun _ h => absurd h List.not_mem_nil)⟩)⟩)⟩)⟩)⟩)⟩)⟩)⟩)⟩
theorem kM_tasteOf_12 : Bok "HerbWatersModel" prog_14_method_84_code (12, bM_tasteOf_12, 17) := ⟨by decide +kernel, (List.forall_mem_cons.mpr ⟨sLI3, (List.forall_mem_cons.mpr ⟨sLI2, (List.forall_mem_cons.mpr ⟨sICge, (fun _ h => absurd h List.not_mem_nil)⟩)⟩)⟩)⟩
theorem kM_tasteOf_17 : Bok "HerbWatersModel" prog_14_method_84_code (17, bM_tasteOf_17, 31) := ⟨by decide +kernel, (List.forall_mem_cons.mpr ⟨sLA0, (List.forall_mem_cons.mpr ⟨sLA0, (List.forall_mem_cons.mpr ⟨lM_g83, (List.forall_mem_cons.mpr ⟨lM_v356, (List.forall_mem_cons.mpr ⟨sINC3, (List.forall_mem_cons.mpr ⟨sGO, (fun _ h => absurd h List.not_mem_nil)⟩)⟩)⟩)⟩)⟩)⟩)⟩
theorem kM_tasteOf_31 : Bok "HerbWatersModel" prog_14_method_84_code (31, bM_tasteOf_31, 36) := ⟨by decide +kernel, (List.forall_mem_cons.mpr ⟨sC0, (List.forall_mem_cons.mpr ⟨sSI3, (List.forall_mem_cons.mpr ⟨sC0, (List.forall_mem_cons.mpr ⟨sSI4, (fun _ h => absurd h List.not_mem_nil)⟩)⟩)⟩)⟩)⟩
theorem kM_tasteOf_36 : Bok "HerbWatersModel" prog_14_method_84_code (36, bM_tasteOf_36, 47) := ⟨by decide +kernel, (List.forall_mem_cons.mpr ⟨sLI4, (List.forall_mem_cons.mpr ⟨sLA0, (List.forall_mem_cons.mpr ⟨lM_g23, (List.forall_mem_cons.mpr ⟨sC0, (List.forall_mem_cons.mpr ⟨sIALD, (List.forall_mem_cons.mpr ⟨sICge, (fun _ h => absurd h List.not_mem_nil)⟩)⟩)⟩)⟩)⟩)⟩)⟩
theorem kM_tasteOf_47 : Bok "HerbWatersModel" prog_14_method_84_code (47, bM_tasteOf_47, 83) := ⟨by decide +kernel, (List.forall_mem_cons.mpr ⟨sLI3, (List.forall_mem_cons.mpr ⟨sLA0, (List.forall_mem_cons.mpr ⟨lM_g83, (List.forall_mem_cons.mpr ⟨sLI4, (List.forall_mem_cons.mpr ⟨sC1, (List.forall_mem_cons.mpr ⟨lM_s350, (List.forall_mem_cons.mpr ⟨sLA0, (List.forall_mem_cons.mpr ⟨lM_g83, (List.forall_mem_cons.mpr ⟨sLI4, (List.forall_mem_cons.mpr ⟨sC2, (List.forall_mem_cons.mpr ⟨lM_s350, (List.forall_mem_cons.mpr ⟨sADD, (List.forall_mem_cons.mpr ⟨sLA0, (List.forall_mem_cons.mpr ⟨lM_g83, (List.forall_mem_cons.mpr ⟨sLI4, (List.forall_mem_cons.mpr ⟨sC3, (List.forall_mem_cons.mpr ⟨lM_s350, (List.forall_mem_cons.mpr ⟨sADD, (List.forall_mem_cons.mpr ⟨sIFle, (fun _ h => absurd h List.not_mem_nil)⟩)⟩)⟩)⟩)⟩)⟩)⟩)⟩)⟩)⟩)⟩)⟩)⟩)⟩)⟩)⟩)⟩)⟩)⟩)⟩
theorem kM_tasteOf_83 : Bok "HerbWatersModel" prog_14_method_84_code (83, bM_tasteOf_83, 90) := ⟨by decide +kernel, (List.forall_mem_cons.mpr ⟨sC1, (List.forall_mem_cons.mpr ⟨sLI4, (List.forall_mem_cons.mpr ⟨sSHL, (List.forall_mem_cons.mpr ⟨sGO, (fun _ h => absurd h List.not_mem_nil)⟩)⟩)⟩)⟩)⟩
theorem kM_tasteOf_90 : Bok "HerbWatersModel" prog_14_method_84_code (90, bM_tasteOf_90, 91) := ⟨by decide +kernel, (List.forall_mem_cons.mpr ⟨sC0, (fun _ h => absurd h List.not_mem_nil)⟩)⟩
theorem kM_tasteOf_91 : Bok "HerbWatersModel" prog_14_method_84_code (91, bM_tasteOf_91, 99) := ⟨by decide +kernel, (List.forall_mem_cons.mpr ⟨sOR, (List.forall_mem_cons.mpr ⟨sSI3, (List.forall_mem_cons.mpr ⟨sINC4, (List.forall_mem_cons.mpr ⟨sGO, (fun _ h => absurd h List.not_mem_nil)⟩)⟩)⟩)⟩)⟩
theorem kM_tasteOf_99 : Bok "HerbWatersModel" prog_14_method_84_code (99, bM_tasteOf_99, 101) := ⟨by decide +kernel, (List.forall_mem_cons.mpr ⟨sLI3, (List.forall_mem_cons.mpr ⟨sRI, (fun _ h => absurd h List.not_mem_nil)⟩)⟩)⟩
theorem kM_tasteOf : ∀ q ∈ tM_tasteOf, Bok "HerbWatersModel" prog_14_method_84_code q := (List.forall_mem_cons.mpr ⟨kM_tasteOf_0, (List.forall_mem_cons.mpr ⟨kM_tasteOf_12, (List.forall_mem_cons.mpr ⟨kM_tasteOf_17, (List.forall_mem_cons.mpr ⟨kM_tasteOf_31, (List.forall_mem_cons.mpr ⟨kM_tasteOf_36, (List.forall_mem_cons.mpr ⟨kM_tasteOf_47, (List.forall_mem_cons.mpr ⟨kM_tasteOf_83, (List.forall_mem_cons.mpr ⟨kM_tasteOf_90, (List.forall_mem_cons.mpr ⟨kM_tasteOf_91, (List.forall_mem_cons.mpr ⟨kM_tasteOf_99, (fun _ h => absurd h List.not_mem_nil)⟩)⟩)⟩)⟩)⟩)⟩)⟩)⟩)⟩)⟩)
def mM_tasted : Mt := (⟨"HerbWatersModel", "tasted", "(II)I"⟩, prog_14_method_85_code, 3, some .int)
theorem ok_M_tasted : Mok mM_tasted := ⟨gtb_mem 2205 (by decide +kernel) rfl, gtb_mem 107 (by decide +kernel) rfl, by decide +kernel, by decide⟩
theorem lM_v382 : Snd "HerbWatersModel" (iCV2 382 11 mM_tasteOf) := sCV2 _ rfl rfl ok_M_tasteOf (gtb_mem 2208 (by decide +kernel) rfl) (gtb_mem 85 (by decide +kernel) rfl) (gtb_mem 2206 (by decide +kernel) rfl)
def bM_tasted_0 : List Ir := [iLA0, iC0, (iPI 123 11 0), iLA0, iLA0, iLI1, (iCV1 290 11 mM_isVillage), (iIFne (7) 18)]
def bM_tasted_14 : List Ir := [iC1, (iGO (4) 19)]
def bM_tasted_18 : List Ir := [iC0]
def bM_tasted_19 : List Ir := [iC1, iC0, (iCV3 221 11 mM_bad), (iIFne (27) 51)]
def bM_tasted_27 : List Ir := [iLA0, iLI2, iC1, (iBP 60), (iCS3 157 mM_in), (iIFne (7) 42)]
def bM_tasted_38 : List Ir := [iC1, (iGO (4) 43)]
def bM_tasted_42 : List Ir := [iC0]
def bM_tasted_43 : List Ir := [iC2, iC1, (iCV3 221 11 mM_bad), (iIFeq (5) 53)]
def bM_tasted_51 : List Ir := [iC0, iRI]
def bM_tasted_53 : List Ir := [iLA0, iLI1, iLI2, (iCV2 382 11 mM_tasteOf), iRI]
def tM_tasted : Tb := [(0, bM_tasted_0, 14), (14, bM_tasted_14, 18), (18, bM_tasted_18, 19), (19, bM_tasted_19, 27), (27, bM_tasted_27, 38), (38, bM_tasted_38, 42), (42, bM_tasted_42, 43), (43, bM_tasted_43, 51), (51, bM_tasted_51, 53), (53, bM_tasted_53, 60)]
theorem fM_tasted_0 : tbf tM_tasted 0 = some (bM_tasted_0, 14) := rfl
theorem fM_tasted_14 : tbf tM_tasted 14 = some (bM_tasted_14, 18) := rfl
theorem fM_tasted_18 : tbf tM_tasted 18 = some (bM_tasted_18, 19) := rfl
theorem fM_tasted_19 : tbf tM_tasted 19 = some (bM_tasted_19, 27) := rfl
theorem fM_tasted_27 : tbf tM_tasted 27 = some (bM_tasted_27, 38) := rfl
theorem fM_tasted_38 : tbf tM_tasted 38 = some (bM_tasted_38, 42) := rfl
theorem fM_tasted_42 : tbf tM_tasted 42 = some (bM_tasted_42, 43) := rfl
theorem fM_tasted_43 : tbf tM_tasted 43 = some (bM_tasted_43, 51) := rfl
theorem fM_tasted_51 : tbf tM_tasted 51 = some (bM_tasted_51, 53) := rfl
theorem fM_tasted_53 : tbf tM_tasted 53 = some (bM_tasted_53, 60) := rfl
theorem kM_tasted_0 : Bok "HerbWatersModel" prog_14_method_85_code (0, bM_tasted_0, 14) := ⟨by decide +kernel, (List.forall_mem_cons.mpr ⟨sLA0, (List.forall_mem_cons.mpr ⟨sC0, (List.forall_mem_cons.mpr ⟨lM_p123, (List.forall_mem_cons.mpr ⟨sLA0, (List.forall_mem_cons.mpr ⟨sLA0, (List.forall_mem_cons.mpr ⟨sLI1, (List.forall_mem_cons.mpr ⟨lM_v290, (List.forall_mem_cons.mpr ⟨sIFne, (fun _ h => absurd h List.not_mem_nil)⟩)⟩)⟩)⟩)⟩)⟩)⟩)⟩)⟩
theorem kM_tasted_14 : Bok "HerbWatersModel" prog_14_method_85_code (14, bM_tasted_14, 18) := ⟨by decide +kernel, (List.forall_mem_cons.mpr ⟨sC1, (List.forall_mem_cons.mpr ⟨sGO, (fun _ h => absurd h List.not_mem_nil)⟩)⟩)⟩
theorem kM_tasted_18 : Bok "HerbWatersModel" prog_14_method_85_code (18, bM_tasted_18, 19) := ⟨by decide +kernel, (List.forall_mem_cons.mpr ⟨sC0, (fun _ h => absurd h List.not_mem_nil)⟩)⟩
theorem kM_tasted_19 : Bok "HerbWatersModel" prog_14_method_85_code (19, bM_tasted_19, 27) := ⟨by decide +kernel, (List.forall_mem_cons.mpr ⟨sC1, (List.forall_mem_cons.mpr ⟨sC0, (List.forall_mem_cons.mpr ⟨lM_v221, (List.forall_mem_cons.mpr ⟨sIFne, (fun _ h => absurd h List.not_mem_nil)⟩)⟩)⟩)⟩)⟩
theorem kM_tasted_27 : Bok "HerbWatersModel" prog_14_method_85_code (27, bM_tasted_27, 38) := ⟨by decide +kernel, (List.forall_mem_cons.mpr ⟨sLA0, (List.forall_mem_cons.mpr ⟨sLI2, (List.forall_mem_cons.mpr ⟨sC1, (List.forall_mem_cons.mpr ⟨sBP, (List.forall_mem_cons.mpr ⟨lM_s157, (List.forall_mem_cons.mpr ⟨sIFne, (fun _ h => absurd h List.not_mem_nil)⟩)⟩)⟩)⟩)⟩)⟩)⟩
theorem kM_tasted_38 : Bok "HerbWatersModel" prog_14_method_85_code (38, bM_tasted_38, 42) := ⟨by decide +kernel, (List.forall_mem_cons.mpr ⟨sC1, (List.forall_mem_cons.mpr ⟨sGO, (fun _ h => absurd h List.not_mem_nil)⟩)⟩)⟩
theorem kM_tasted_42 : Bok "HerbWatersModel" prog_14_method_85_code (42, bM_tasted_42, 43) := ⟨by decide +kernel, (List.forall_mem_cons.mpr ⟨sC0, (fun _ h => absurd h List.not_mem_nil)⟩)⟩
theorem kM_tasted_43 : Bok "HerbWatersModel" prog_14_method_85_code (43, bM_tasted_43, 51) := ⟨by decide +kernel, (List.forall_mem_cons.mpr ⟨sC2, (List.forall_mem_cons.mpr ⟨sC1, (List.forall_mem_cons.mpr ⟨lM_v221, (List.forall_mem_cons.mpr ⟨sIFeq, (fun _ h => absurd h List.not_mem_nil)⟩)⟩)⟩)⟩)⟩
theorem kM_tasted_51 : Bok "HerbWatersModel" prog_14_method_85_code (51, bM_tasted_51, 53) := ⟨by decide +kernel, (List.forall_mem_cons.mpr ⟨sC0, (List.forall_mem_cons.mpr ⟨sRI, (fun _ h => absurd h List.not_mem_nil)⟩)⟩)⟩
theorem kM_tasted_53 : Bok "HerbWatersModel" prog_14_method_85_code (53, bM_tasted_53, 60) := ⟨by decide +kernel, (List.forall_mem_cons.mpr ⟨sLA0, (List.forall_mem_cons.mpr ⟨sLI1, (List.forall_mem_cons.mpr ⟨sLI2, (List.forall_mem_cons.mpr ⟨lM_v382, (List.forall_mem_cons.mpr ⟨sRI, (fun _ h => absurd h List.not_mem_nil)⟩)⟩)⟩)⟩)⟩)⟩
theorem kM_tasted : ∀ q ∈ tM_tasted, Bok "HerbWatersModel" prog_14_method_85_code q := (List.forall_mem_cons.mpr ⟨kM_tasted_0, (List.forall_mem_cons.mpr ⟨kM_tasted_14, (List.forall_mem_cons.mpr ⟨kM_tasted_18, (List.forall_mem_cons.mpr ⟨kM_tasted_19, (List.forall_mem_cons.mpr ⟨kM_tasted_27, (List.forall_mem_cons.mpr ⟨kM_tasted_38, (List.forall_mem_cons.mpr ⟨kM_tasted_42, (List.forall_mem_cons.mpr ⟨kM_tasted_43, (List.forall_mem_cons.mpr ⟨kM_tasted_51, (List.forall_mem_cons.mpr ⟨kM_tasted_53, (fun _ h => absurd h List.not_mem_nil)⟩)⟩)⟩)⟩)⟩)⟩)⟩)⟩)⟩)⟩)
def mM_where : Mt := (⟨"HerbWatersModel", "where", "(I)I"⟩, prog_14_method_86_code, 7, some .int)
theorem ok_M_where : Mok mM_where := ⟨gtb_mem 2213 (by decide +kernel) rfl, gtb_mem 107 (by decide +kernel) rfl, by decide +kernel, by decide⟩
theorem lM_g108 : Snd "HerbWatersModel" (iGR 108 11 53) := sGR _ rfl (gtb_mem 1776 (by decide +kernel) rfl)
def bM_where_0 : List Ir := [iLA0, iC0, (iPI 123 11 0), iLA0, iLI1, iC1, (iBP 60), (iCS3 157 mM_in), (iIFne (7) 20)]
def bM_where_16 : List Ir := [iC1, (iGO (4) 21)]
def bM_where_20 : List Ir := [iC0]
def bM_where_21 : List Ir := [iC1, iC1, (iCV3 221 11 mM_bad), (iIFeq (5) 31)]
def bM_where_29 : List Ir := [iC0, iRI]
def bM_where_31 : List Ir := [iC0, iSI2]
def bM_where_33 : List Ir := [iLI2, iLA0, (iGR 23 11 12), iC0, iIALD, (iICge (21) 61)]
def bM_where_43 : List Ir := [iLA0, (iGR 108 11 53), iLI2, iLA0, iLI2, iLI1, (iCV2 382 11 mM_tasteOf), iIAST, (iINC2 1), (iGO (-25) 33)]
def bM_where_61 : List Ir := [iC1, iLA0, (iGR 23 11 12), iC0, iIALD, iSHL, iC1, iSUB, iSI2, iC0, iSI3]
def bM_where_74 : List Ir := [iLI3, iC1, iLA0, (iGR 23 11 12), iC0, iIALD, iSHL, (iICge (146) 229)]
def bM_where_86 : List Ir := [iLI3, (iCS1 370 mM_ones), iLI2, (iCS1 370 mM_ones), (iICgt (129) 223)]
def bM_where_97 : List Ir := [iLI3, (iCS1 370 mM_ones), iLI2, (iCS1 370 mM_ones), (iICne (11) 116)]
def bM_where_108 : List Ir := [iLI3, iLI2, (iIClt (6) 116)]
def bM_where_113 : List Ir := [(iGO (110) 223)]
def bM_where_116 : List Ir := [iC1, iSI4, iC0, iSI5]
def bM_where_122 : List Ir := [iLI5, iLA0, (iGR 23 11 12), iC0, iIALD, (iICge (82) 212)]
def bM_where_133 : List Ir := [iLI5, iC1, iADD, iSI6]
def bM_where_139 : List Ir := [iLI6, iLA0, (iGR 23 11 12), iC0, iIALD, (iICge (59) 206)]
def bM_where_150 : List Ir := [iLI4, (iIFeq (45) 197)]
def bM_where_155 : List Ir := [iLA0, (iGR 108 11 53), iLI5, iIALD, iLA0, (iGR 108 11 53), iLI6, iIALD, (iICeq (24) 193)]
def bM_where_172 : List Ir := [iLA0, (iGR 108 11 53), iLI5, iIALD, iLI3, iAND, iLA0, (iGR 108 11 53), iLI6, iIALD, iLI3, iAND, (iICeq (7) 197)]
def bM_where_193 : List Ir := [iC1, (iGO (4) 198)]
def bM_where_197 : List Ir := [iC0]
def bM_where_198 : List Ir := [iSI4, (iINC6 1), (iGO (-64) 139)]
def bM_where_206 : List Ir := [(iINC5 1), (iGO (-87) 122)]
def bM_where_212 : List Ir := [iLI4, (iIFeq (7) 221)]
def bM_where_217 : List Ir := [iLI3, (iGO (4) 222)]
def bM_where_221 : List Ir := [iLI2]
def bM_where_222 : List Ir := [iSI2]
def bM_where_223 : List Ir := [(iINC3 1), (iGO (-152) 74)]
def bM_where_229 : List Ir := [iLI2, iRI]
def tM_where : Tb := [(0, bM_where_0, 16), (16, bM_where_16, 20), (20, bM_where_20, 21), (21, bM_where_21, 29), (29, bM_where_29, 31), (31, bM_where_31, 33), (33, bM_where_33, 43), (43, bM_where_43, 61), (61, bM_where_61, 74), (74, bM_where_74, 86), (86, bM_where_86, 97), (97, bM_where_97, 108), (108, bM_where_108, 113), (113, bM_where_113, 116), (116, bM_where_116, 122), (122, bM_where_122, 133), (133, bM_where_133, 139), (139, bM_where_139, 150), (150, bM_where_150, 155), (155, bM_where_155, 172), (172, bM_where_172, 193), (193, bM_where_193, 197), (197, bM_where_197, 198), (198, bM_where_198, 206), (206, bM_where_206, 212), (212, bM_where_212, 217), (217, bM_where_217, 221), (221, bM_where_221, 222), (222, bM_where_222, 223), (223, bM_where_223, 229), (229, bM_where_229, 231)]
theorem fM_where_0 : tbf tM_where 0 = some (bM_where_0, 16) := rfl
theorem fM_where_16 : tbf tM_where 16 = some (bM_where_16, 20) := rfl
theorem fM_where_20 : tbf tM_where 20 = some (bM_where_20, 21) := rfl
theorem fM_where_21 : tbf tM_where 21 = some (bM_where_21, 29) := rfl
theorem fM_where_29 : tbf tM_where 29 = some (bM_where_29, 31) := rfl
theorem fM_where_31 : tbf tM_where 31 = some (bM_where_31, 33) := rfl
theorem fM_where_33 : tbf tM_where 33 = some (bM_where_33, 43) := rfl
theorem fM_where_43 : tbf tM_where 43 = some (bM_where_43, 61) := rfl
theorem fM_where_61 : tbf tM_where 61 = some (bM_where_61, 74) := rfl
theorem fM_where_74 : tbf tM_where 74 = some (bM_where_74, 86) := rfl
theorem fM_where_86 : tbf tM_where 86 = some (bM_where_86, 97) := rfl
theorem fM_where_97 : tbf tM_where 97 = some (bM_where_97, 108) := rfl
theorem fM_where_108 : tbf tM_where 108 = some (bM_where_108, 113) := rfl
theorem fM_where_113 : tbf tM_where 113 = some (bM_where_113, 116) := rfl
theorem fM_where_116 : tbf tM_where 116 = some (bM_where_116, 122) := rfl
theorem fM_where_122 : tbf tM_where 122 = some (bM_where_122, 133) := rfl
theorem fM_where_133 : tbf tM_where 133 = some (bM_where_133, 139) := rfl
theorem fM_where_139 : tbf tM_where 139 = some (bM_where_139, 150) := rfl
theorem fM_where_150 : tbf tM_where 150 = some (bM_where_150, 155) := rfl
theorem fM_where_155 : tbf tM_where 155 = some (bM_where_155, 172) := rfl
theorem fM_where_172 : tbf tM_where 172 = some (bM_where_172, 193) := rfl
theorem fM_where_193 : tbf tM_where 193 = some (bM_where_193, 197) := rfl
theorem fM_where_197 : tbf tM_where 197 = some (bM_where_197, 198) := rfl
theorem fM_where_198 : tbf tM_where 198 = some (bM_where_198, 206) := rfl
theorem fM_where_206 : tbf tM_where 206 = some (bM_where_206, 212) := rfl
theorem fM_where_212 : tbf tM_where 212 = some (bM_where_212, 217) := rfl
theorem fM_where_217 : tbf tM_where 217 = some (bM_where_217, 221) := rfl
theorem fM_where_221 : tbf tM_where 221 = some (bM_where_221, 222) := rfl
theorem fM_where_222 : tbf tM_where 222 = some (bM_where_222, 223) := rfl
theorem fM_where_223 : tbf tM_where 223 = some (bM_where_223, 229) := rfl
theorem fM_where_229 : tbf tM_where 229 = some (bM_where_229, 231) := rfl
theorem kM_where_0 : Bok "HerbWatersModel" prog_14_method_86_code (0, bM_where_0, 16) := ⟨by decide +kernel, (List.forall_mem_cons.mpr ⟨sLA0, (List.forall_mem_cons.mpr ⟨sC0, (List.forall_mem_cons.mpr ⟨lM_p123, (List.forall_mem_cons.mpr ⟨sLA0, (List.forall_mem_cons.mpr ⟨sLI1, (List.forall_mem_cons.mpr ⟨sC1, (List.forall_mem_cons.mpr ⟨sBP, (List.forall_mem_cons.mpr ⟨lM_s157, (List.forall_mem_cons.mpr ⟨sIFne, (fun _ h => absurd h List.not_mem_nil)⟩)⟩)⟩)⟩)⟩)⟩)⟩)⟩)⟩)⟩
theorem kM_where_16 : Bok "HerbWatersModel" prog_14_method_86_code (16, bM_where_16, 20) := ⟨by decide +kernel, (List.forall_mem_cons.mpr ⟨sC1, (List.forall_mem_cons.mpr ⟨sGO, (fun _ h => absurd h List.not_mem_nil)⟩)⟩)⟩
theorem kM_where_20 : Bok "HerbWatersModel" prog_14_method_86_code (20, bM_where_20, 21) := ⟨by decide +kernel, (List.forall_mem_cons.mpr ⟨sC0, (fun _ h => absurd h List.not_mem_nil)⟩)⟩
theorem kM_where_21 : Bok "HerbWatersModel" prog_14_method_86_code (21, bM_where_21, 29) := ⟨by decide +kernel, (List.forall_mem_cons.mpr ⟨sC1, (List.forall_mem_cons.mpr ⟨sC1, (List.forall_mem_cons.mpr ⟨lM_v221, (List.forall_mem_cons.mpr ⟨sIFeq, (fun _ h => absurd h List.not_mem_nil)⟩)⟩)⟩)⟩)⟩
theorem kM_where_29 : Bok "HerbWatersModel" prog_14_method_86_code (29, bM_where_29, 31) := ⟨by decide +kernel, (List.forall_mem_cons.mpr ⟨sC0, (List.forall_mem_cons.mpr ⟨sRI, (fun _ h => absurd h List.not_mem_nil)⟩)⟩)⟩
theorem kM_where_31 : Bok "HerbWatersModel" prog_14_method_86_code (31, bM_where_31, 33) := ⟨by decide +kernel, (List.forall_mem_cons.mpr ⟨sC0, (List.forall_mem_cons.mpr ⟨sSI2, (fun _ h => absurd h List.not_mem_nil)⟩)⟩)⟩
theorem kM_where_33 : Bok "HerbWatersModel" prog_14_method_86_code (33, bM_where_33, 43) := ⟨by decide +kernel, (List.forall_mem_cons.mpr ⟨sLI2, (List.forall_mem_cons.mpr ⟨sLA0, (List.forall_mem_cons.mpr ⟨lM_g23, (List.forall_mem_cons.mpr ⟨sC0, (List.forall_mem_cons.mpr ⟨sIALD, (List.forall_mem_cons.mpr ⟨sICge, (fun _ h => absurd h List.not_mem_nil)⟩)⟩)⟩)⟩)⟩)⟩)⟩
theorem kM_where_43 : Bok "HerbWatersModel" prog_14_method_86_code (43, bM_where_43, 61) := ⟨by decide +kernel, (List.forall_mem_cons.mpr ⟨sLA0, (List.forall_mem_cons.mpr ⟨lM_g108, (List.forall_mem_cons.mpr ⟨sLI2, (List.forall_mem_cons.mpr ⟨sLA0, (List.forall_mem_cons.mpr ⟨sLI2, (List.forall_mem_cons.mpr ⟨sLI1, (List.forall_mem_cons.mpr ⟨lM_v382, (List.forall_mem_cons.mpr ⟨sIAST, (List.forall_mem_cons.mpr ⟨sINC2, (List.forall_mem_cons.mpr ⟨sGO, (fun _ h => absurd h List.not_mem_nil)⟩)⟩)⟩)⟩)⟩)⟩)⟩)⟩)⟩)⟩)⟩
theorem kM_where_61 : Bok "HerbWatersModel" prog_14_method_86_code (61, bM_where_61, 74) := ⟨by decide +kernel, (List.forall_mem_cons.mpr ⟨sC1, (List.forall_mem_cons.mpr ⟨sLA0, (List.forall_mem_cons.mpr ⟨lM_g23, (List.forall_mem_cons.mpr ⟨sC0, (List.forall_mem_cons.mpr ⟨sIALD, (List.forall_mem_cons.mpr ⟨sSHL, (List.forall_mem_cons.mpr ⟨sC1, (List.forall_mem_cons.mpr ⟨sSUB, (List.forall_mem_cons.mpr ⟨sSI2, (List.forall_mem_cons.mpr ⟨sC0, (List.forall_mem_cons.mpr ⟨sSI3, (fun _ h => absurd h List.not_mem_nil)⟩)⟩)⟩)⟩)⟩)⟩)⟩)⟩)⟩)⟩)⟩)⟩
theorem kM_where_74 : Bok "HerbWatersModel" prog_14_method_86_code (74, bM_where_74, 86) := ⟨by decide +kernel, (List.forall_mem_cons.mpr ⟨sLI3, (List.forall_mem_cons.mpr ⟨sC1, (List.forall_mem_cons.mpr ⟨sLA0, (List.forall_mem_cons.mpr ⟨lM_g23, (List.forall_mem_cons.mpr ⟨sC0, (List.forall_mem_cons.mpr ⟨sIALD, (List.forall_mem_cons.mpr ⟨sSHL, (List.forall_mem_cons.mpr ⟨sICge, (fun _ h => absurd h List.not_mem_nil)⟩)⟩)⟩)⟩)⟩)⟩)⟩)⟩)⟩
theorem kM_where_86 : Bok "HerbWatersModel" prog_14_method_86_code (86, bM_where_86, 97) := ⟨by decide +kernel, (List.forall_mem_cons.mpr ⟨sLI3, (List.forall_mem_cons.mpr ⟨lM_s370, (List.forall_mem_cons.mpr ⟨sLI2, (List.forall_mem_cons.mpr ⟨lM_s370, (List.forall_mem_cons.mpr ⟨sICgt, (fun _ h => absurd h List.not_mem_nil)⟩)⟩)⟩)⟩)⟩)⟩
theorem kM_where_97 : Bok "HerbWatersModel" prog_14_method_86_code (97, bM_where_97, 108) := ⟨by decide +kernel, (List.forall_mem_cons.mpr ⟨sLI3, (List.forall_mem_cons.mpr ⟨lM_s370, (List.forall_mem_cons.mpr ⟨sLI2, (List.forall_mem_cons.mpr ⟨lM_s370, (List.forall_mem_cons.mpr ⟨sICne, (fun _ h => absurd h List.not_mem_nil)⟩)⟩)⟩)⟩)⟩)⟩
theorem kM_where_108 : Bok "HerbWatersModel" prog_14_method_86_code (108, bM_where_108, 113) := ⟨by decide +kernel, (List.forall_mem_cons.mpr ⟨sLI3, (List.forall_mem_cons.mpr ⟨sLI2, (List.forall_mem_cons.mpr ⟨sIClt, (fun _ h => absurd h List.not_mem_nil)⟩)⟩)⟩)⟩
theorem kM_where_113 : Bok "HerbWatersModel" prog_14_method_86_code (113, bM_where_113, 116) := ⟨by decide +kernel, (List.forall_mem_cons.mpr ⟨sGO, (fun _ h => absurd h List.not_mem_nil)⟩)⟩
theorem kM_where_116 : Bok "HerbWatersModel" prog_14_method_86_code (116, bM_where_116, 122) := ⟨by decide +kernel, (List.forall_mem_cons.mpr ⟨sC1, (List.forall_mem_cons.mpr ⟨sSI4, (List.forall_mem_cons.mpr ⟨sC0, (List.forall_mem_cons.mpr ⟨sSI5, (fun _ h => absurd h List.not_mem_nil)⟩)⟩)⟩)⟩)⟩
theorem kM_where_122 : Bok "HerbWatersModel" prog_14_method_86_code (122, bM_where_122, 133) := ⟨by decide +kernel, (List.forall_mem_cons.mpr ⟨sLI5, (List.forall_mem_cons.mpr ⟨sLA0, (List.forall_mem_cons.mpr ⟨lM_g23, (List.forall_mem_cons.mpr ⟨sC0, (List.forall_mem_cons.mpr ⟨sIALD, (List.forall_mem_cons.mpr ⟨sICge, (fun _ h => absurd h List.not_mem_nil)⟩)⟩)⟩)⟩)⟩)⟩)⟩
theorem kM_where_133 : Bok "HerbWatersModel" prog_14_method_86_code (133, bM_where_133, 139) := ⟨by decide +kernel, (List.forall_mem_cons.mpr ⟨sLI5, (List.forall_mem_cons.mpr ⟨sC1, (List.forall_mem_cons.mpr ⟨sADD, (List.forall_mem_cons.mpr ⟨sSI6, (fun _ h => absurd h List.not_mem_nil)⟩)⟩)⟩)⟩)⟩
theorem kM_where_139 : Bok "HerbWatersModel" prog_14_method_86_code (139, bM_where_139, 150) := ⟨by decide +kernel, (List.forall_mem_cons.mpr ⟨sLI6, (List.forall_mem_cons.mpr ⟨sLA0, (List.forall_mem_cons.mpr ⟨lM_g23, (List.forall_mem_cons.mpr ⟨sC0, (List.forall_mem_cons.mpr ⟨sIALD, (List.forall_mem_cons.mpr ⟨sICge, (fun _ h => absurd h List.not_mem_nil)⟩)⟩)⟩)⟩)⟩)⟩)⟩
theorem kM_where_150 : Bok "HerbWatersModel" prog_14_method_86_code (150, bM_where_150, 155) := ⟨by decide +kernel, (List.forall_mem_cons.mpr ⟨sLI4, (List.forall_mem_cons.mpr ⟨sIFeq, (fun _ h => absurd h List.not_mem_nil)⟩)⟩)⟩
theorem kM_where_155 : Bok "HerbWatersModel" prog_14_method_86_code (155, bM_where_155, 172) := ⟨by decide +kernel, (List.forall_mem_cons.mpr ⟨sLA0, (List.forall_mem_cons.mpr ⟨lM_g108, (List.forall_mem_cons.mpr ⟨sLI5, (List.forall_mem_cons.mpr ⟨sIALD, (List.forall_mem_cons.mpr ⟨sLA0, (List.forall_mem_cons.mpr ⟨lM_g108, (List.forall_mem_cons.mpr ⟨sLI6, (List.forall_mem_cons.mpr ⟨sIALD, (List.forall_mem_cons.mpr ⟨sICeq, (fun _ h => absurd h List.not_mem_nil)⟩)⟩)⟩)⟩)⟩)⟩)⟩)⟩)⟩)⟩
theorem kM_where_172 : Bok "HerbWatersModel" prog_14_method_86_code (172, bM_where_172, 193) := ⟨by decide +kernel, (List.forall_mem_cons.mpr ⟨sLA0, (List.forall_mem_cons.mpr ⟨lM_g108, (List.forall_mem_cons.mpr ⟨sLI5, (List.forall_mem_cons.mpr ⟨sIALD, (List.forall_mem_cons.mpr ⟨sLI3, (List.forall_mem_cons.mpr ⟨sAND, (List.forall_mem_cons.mpr ⟨sLA0, (List.forall_mem_cons.mpr ⟨lM_g108, (List.forall_mem_cons.mpr ⟨sLI6, (List.forall_mem_cons.mpr ⟨sIALD, (List.forall_mem_cons.mpr ⟨sLI3, (List.forall_mem_cons.mpr ⟨sAND, (List.forall_mem_cons.mpr ⟨sICeq, (fun _ h => absurd h List.not_mem_nil)⟩)⟩)⟩)⟩)⟩)⟩)⟩)⟩)⟩)⟩)⟩)⟩)⟩)⟩
theorem kM_where_193 : Bok "HerbWatersModel" prog_14_method_86_code (193, bM_where_193, 197) := ⟨by decide +kernel, (List.forall_mem_cons.mpr ⟨sC1, (List.forall_mem_cons.mpr ⟨sGO, (fun _ h => absurd h List.not_mem_nil)⟩)⟩)⟩
theorem kM_where_197 : Bok "HerbWatersModel" prog_14_method_86_code (197, bM_where_197, 198) := ⟨by decide +kernel, (List.forall_mem_cons.mpr ⟨sC0, (fun _ h => absurd h List.not_mem_nil)⟩)⟩
theorem kM_where_198 : Bok "HerbWatersModel" prog_14_method_86_code (198, bM_where_198, 206) := ⟨by decide +kernel, (List.forall_mem_cons.mpr ⟨sSI4, (List.forall_mem_cons.mpr ⟨sINC6, (List.forall_mem_cons.mpr ⟨sGO, (fun _ h => absurd h List.not_mem_nil)⟩)⟩)⟩)⟩
theorem kM_where_206 : Bok "HerbWatersModel" prog_14_method_86_code (206, bM_where_206, 212) := ⟨by decide +kernel, (List.forall_mem_cons.mpr ⟨sINC5, (List.forall_mem_cons.mpr ⟨sGO, (fun _ h => absurd h List.not_mem_nil)⟩)⟩)⟩
theorem kM_where_212 : Bok "HerbWatersModel" prog_14_method_86_code (212, bM_where_212, 217) := ⟨by decide +kernel, (List.forall_mem_cons.mpr ⟨sLI4, (List.forall_mem_cons.mpr ⟨sIFeq, (fun _ h => absurd h List.not_mem_nil)⟩)⟩)⟩
theorem kM_where_217 : Bok "HerbWatersModel" prog_14_method_86_code (217, bM_where_217, 221) := ⟨by decide +kernel, (List.forall_mem_cons.mpr ⟨sLI3, (List.forall_mem_cons.mpr ⟨sGO, (fun _ h => absurd h List.not_mem_nil)⟩)⟩)⟩
theorem kM_where_221 : Bok "HerbWatersModel" prog_14_method_86_code (221, bM_where_221, 222) := ⟨by decide +kernel, (List.forall_mem_cons.mpr ⟨sLI2, (fun _ h => absurd h List.not_mem_nil)⟩)⟩
theorem kM_where_222 : Bok "HerbWatersModel" prog_14_method_86_code (222, bM_where_222, 223) := ⟨by decide +kernel, (List.forall_mem_cons.mpr ⟨sSI2, (fun _ h => absurd h List.not_mem_nil)⟩)⟩
theorem kM_where_223 : Bok "HerbWatersModel" prog_14_method_86_code (223, bM_where_223, 229) := ⟨by decide +kernel, (List.forall_mem_cons.mpr ⟨sINC3, (List.forall_mem_cons.mpr ⟨sGO, (fun _ h => absurd h List.not_mem_nil)⟩)⟩)⟩
theorem kM_where_229 : Bok "HerbWatersModel" prog_14_method_86_code (229, bM_where_229, 231) := ⟨by decide +kernel, (List.forall_mem_cons.mpr ⟨sLI2, (List.forall_mem_cons.mpr ⟨sRI, (fun _ h => absurd h List.not_mem_nil)⟩)⟩)⟩
theorem kM_where : ∀ q ∈ tM_where, Bok "HerbWatersModel" prog_14_method_86_code q := (List.forall_mem_cons.mpr ⟨kM_where_0, (List.forall_mem_cons.mpr ⟨kM_where_16, (List.forall_mem_cons.mpr ⟨kM_where_20, (List.forall_mem_cons.mpr ⟨kM_where_21, (List.forall_mem_cons.mpr ⟨kM_where_29, (List.forall_mem_cons.mpr ⟨kM_where_31, (List.forall_mem_cons.mpr ⟨kM_where_33, (List.forall_mem_cons.mpr ⟨kM_where_43, (List.forall_mem_cons.mpr ⟨kM_where_61, (List.forall_mem_cons.mpr ⟨kM_where_74, (List.forall_mem_cons.mpr ⟨kM_where_86, (List.forall_mem_cons.mpr ⟨kM_where_97, (List.forall_mem_cons.mpr ⟨kM_where_108, (List.forall_mem_cons.mpr ⟨kM_where_113, (List.forall_mem_cons.mpr ⟨kM_where_116, (List.forall_mem_cons.mpr ⟨kM_where_122, (List.forall_mem_cons.mpr ⟨kM_where_133, (List.forall_mem_cons.mpr ⟨kM_where_139, (List.forall_mem_cons.mpr ⟨kM_where_150, (List.forall_mem_cons.mpr ⟨kM_where_155, (List.forall_mem_cons.mpr ⟨kM_where_172, (List.forall_mem_cons.mpr ⟨kM_where_193, (List.forall_mem_cons.mpr ⟨kM_where_197, (List.forall_mem_cons.mpr ⟨kM_where_198, (List.forall_mem_cons.mpr ⟨kM_where_206, (List.forall_mem_cons.mpr ⟨kM_where_212, (List.forall_mem_cons.mpr ⟨kM_where_217, (List.forall_mem_cons.mpr ⟨kM_where_221, (List.forall_mem_cons.mpr ⟨kM_where_222, (List.forall_mem_cons.mpr ⟨kM_where_223, (List.forall_mem_cons.mpr ⟨kM_where_229, (fun _ h => absurd h List.not_mem_nil)⟩)⟩)⟩)⟩)⟩)⟩)⟩)⟩)⟩)⟩)⟩)⟩)⟩)⟩)⟩)⟩)⟩)⟩)⟩)⟩)⟩)⟩)⟩)⟩)⟩)⟩)⟩)⟩)⟩)⟩)⟩)
