/-! code of HerbWatersModel; by program (wip/whole/gen_M.py) -/
def mM_viewOf : Mt := (⟨"HerbWatersModel", "viewOf", "([I)I"⟩, prog_14_method_58_code, 3, some .int)
theorem ok_M_viewOf : Mok mM_viewOf := ⟨gtb_mem 2130 (by decide +kernel) rfl, gtb_mem 107 (by decide +kernel) rfl, by decide +kernel, by decide⟩
def bM_viewOf_0 : List Ir := [iC0, iSI1, iC0, iSI2]
def bM_viewOf_4 : List Ir := [iLI2, iC3, (iICge (29) 35)]
def bM_viewOf_9 : List Ir := [iLI1, iLA0, (iSP 498), iLI2, iADD, iIALD, (iIFle (9) 26)]
def bM_viewOf_20 : List Ir := [iC1, iLI2, iSHL, (iGO (4) 27)]
def bM_viewOf_26 : List Ir := [iC0]
def bM_viewOf_27 : List Ir := [iOR, iSI1, (iINC2 1), (iGO (-28) 4)]
def bM_viewOf_35 : List Ir := [iLI1, iRI]
def tM_viewOf : Tb := [(0, bM_viewOf_0, 4), (4, bM_viewOf_4, 9), (9, bM_viewOf_9, 20), (20, bM_viewOf_20, 26), (26, bM_viewOf_26, 27), (27, bM_viewOf_27, 35), (35, bM_viewOf_35, 37)]
theorem fM_viewOf_0 : tbf tM_viewOf 0 = some (bM_viewOf_0, 4) := rfl
theorem fM_viewOf_4 : tbf tM_viewOf 4 = some (bM_viewOf_4, 9) := rfl
theorem fM_viewOf_9 : tbf tM_viewOf 9 = some (bM_viewOf_9, 20) := rfl
theorem fM_viewOf_20 : tbf tM_viewOf 20 = some (bM_viewOf_20, 26) := rfl
theorem fM_viewOf_26 : tbf tM_viewOf 26 = some (bM_viewOf_26, 27) := rfl
theorem fM_viewOf_27 : tbf tM_viewOf 27 = some (bM_viewOf_27, 35) := rfl
theorem fM_viewOf_35 : tbf tM_viewOf 35 = some (bM_viewOf_35, 37) := rfl
theorem kM_viewOf_0 : Bok "HerbWatersModel" prog_14_method_58_code (0, bM_viewOf_0, 4) := ⟨by decide +kernel, (List.forall_mem_cons.mpr ⟨sC0, (List.forall_mem_cons.mpr ⟨sSI1, (List.forall_mem_cons.mpr ⟨sC0, (List.forall_mem_cons.mpr ⟨sSI2, (fun _ h => absurd h List.not_mem_nil)⟩)⟩)⟩)⟩)⟩
theorem kM_viewOf_4 : Bok "HerbWatersModel" prog_14_method_58_code (4, bM_viewOf_4, 9) := ⟨by decide +kernel, (List.forall_mem_cons.mpr ⟨sLI2, (List.forall_mem_cons.mpr ⟨sC3, (List.forall_mem_cons.mpr ⟨sICge, (fun _ h => absurd h List.not_mem_nil)⟩)⟩)⟩)⟩
theorem kM_viewOf_9 : Bok "HerbWatersModel" prog_14_method_58_code (9, bM_viewOf_9, 20) := ⟨by decide +kernel, (List.forall_mem_cons.mpr ⟨sLI1, (List.forall_mem_cons.mpr ⟨sLA0, (List.forall_mem_cons.mpr ⟨sSP, (List.forall_mem_cons.mpr ⟨sLI2, (List.forall_mem_cons.mpr ⟨sADD, (List.forall_mem_cons.mpr ⟨sIALD, (List.forall_mem_cons.mpr ⟨sIFle, (fun _ h => absurd h List.not_mem_nil)⟩)⟩)⟩)⟩)⟩)⟩)⟩)⟩
theorem kM_viewOf_20 : Bok "HerbWatersModel" prog_14_method_58_code (20, bM_viewOf_20, 26) := ⟨by decide +kernel, (List.forall_mem_cons.mpr ⟨sC1, (List.forall_mem_cons.mpr ⟨sLI2, (List.forall_mem_cons.mpr ⟨sSHL, (List.forall_mem_cons.mpr ⟨sGO, (fun _ h => absurd h List.not_mem_nil)⟩)⟩)⟩)⟩)⟩
theorem kM_viewOf_26 : Bok "HerbWatersModel" prog_14_method_58_code (26, bM_viewOf_26, 27) := ⟨by decide +kernel, (List.forall_mem_cons.mpr ⟨sC0, (fun _ h => absurd h List.not_mem_nil)⟩)⟩
theorem kM_viewOf_27 : Bok "HerbWatersModel" prog_14_method_58_code (27, bM_viewOf_27, 35) := ⟨by decide +kernel, (List.forall_mem_cons.mpr ⟨sOR, (List.forall_mem_cons.mpr ⟨sSI1, (List.forall_mem_cons.mpr ⟨sINC2, (List.forall_mem_cons.mpr ⟨sGO, (fun _ h => absurd h List.not_mem_nil)⟩)⟩)⟩)⟩)⟩
theorem kM_viewOf_35 : Bok "HerbWatersModel" prog_14_method_58_code (35, bM_viewOf_35, 37) := ⟨by decide +kernel, (List.forall_mem_cons.mpr ⟨sLI1, (List.forall_mem_cons.mpr ⟨sRI, (fun _ h => absurd h List.not_mem_nil)⟩)⟩)⟩
theorem kM_viewOf : ∀ q ∈ tM_viewOf, Bok "HerbWatersModel" prog_14_method_58_code q := (List.forall_mem_cons.mpr ⟨kM_viewOf_0, (List.forall_mem_cons.mpr ⟨kM_viewOf_4, (List.forall_mem_cons.mpr ⟨kM_viewOf_9, (List.forall_mem_cons.mpr ⟨kM_viewOf_20, (List.forall_mem_cons.mpr ⟨kM_viewOf_26, (List.forall_mem_cons.mpr ⟨kM_viewOf_27, (List.forall_mem_cons.mpr ⟨kM_viewOf_35, (fun _ h => absurd h List.not_mem_nil)⟩)⟩)⟩)⟩)⟩)⟩)⟩)
def mM_told : Mt := (⟨"HerbWatersModel", "told", "(I)I"⟩, prog_14_method_59_code, 2, some .int)
theorem ok_M_told : Mok mM_told := ⟨gtb_mem 2073 (by decide +kernel) rfl, gtb_mem 107 (by decide +kernel) rfl, by decide +kernel, by decide⟩
theorem lM_g235 : Snd "HerbWatersModel" (iGI 235 11 36) := sGI _ rfl (gtb_mem 1759 (by decide +kernel) rfl)
def bM_told_0 : List Ir := [iLA0, iC0, (iPI 123 11 0), iLA0, iLI1, iC0, (iBP 7), (iCS3 157 mM_in), (iIFne (7) 20)]
def bM_told_16 : List Ir := [iC1, (iGO (4) 21)]
def bM_told_20 : List Ir := [iC0]
def bM_told_21 : List Ir := [iC1, iC1, (iCV3 221 11 mM_bad), (iIFeq (5) 31)]
def bM_told_29 : List Ir := [iC0, iRI]
def bM_told_31 : List Ir := [iLI1, (iSW 0 (77) #[(44), (44), (44), (51), (58), (67), (72)] 44 [76, 76, 76, 83, 90, 99, 104] 109)]
def bM_told_76 : List Ir := [iLA0, (iGR 23 11 12), iLI1, iIALD, iRI]
def bM_told_83 : List Ir := [iLA0, (iGR 23 11 12), iC4, iIALD, iRI]
def bM_told_90 : List Ir := [iLA0, (iGR 77 11 32), (iSP 501), iIALD, iRI]
def bM_told_99 : List Ir := [iLA0, (iGI 238 11 37), iRI]
def bM_told_104 : List Ir := [iLA0, (iGI 241 11 38), iRI]
def bM_told_109 : List Ir := [iLA0, (iGI 235 11 36), iRI]
def tM_told : Tb := [(0, bM_told_0, 16), (16, bM_told_16, 20), (20, bM_told_20, 21), (21, bM_told_21, 29), (29, bM_told_29, 31), (31, bM_told_31, 76), (76, bM_told_76, 83), (83, bM_told_83, 90), (90, bM_told_90, 99), (99, bM_told_99, 104), (104, bM_told_104, 109), (109, bM_told_109, 114)]
theorem fM_told_0 : tbf tM_told 0 = some (bM_told_0, 16) := rfl
theorem fM_told_16 : tbf tM_told 16 = some (bM_told_16, 20) := rfl
theorem fM_told_20 : tbf tM_told 20 = some (bM_told_20, 21) := rfl
theorem fM_told_21 : tbf tM_told 21 = some (bM_told_21, 29) := rfl
theorem fM_told_29 : tbf tM_told 29 = some (bM_told_29, 31) := rfl
theorem fM_told_31 : tbf tM_told 31 = some (bM_told_31, 76) := rfl
theorem fM_told_76 : tbf tM_told 76 = some (bM_told_76, 83) := rfl
theorem fM_told_83 : tbf tM_told 83 = some (bM_told_83, 90) := rfl
theorem fM_told_90 : tbf tM_told 90 = some (bM_told_90, 99) := rfl
theorem fM_told_99 : tbf tM_told 99 = some (bM_told_99, 104) := rfl
theorem fM_told_104 : tbf tM_told 104 = some (bM_told_104, 109) := rfl
theorem fM_told_109 : tbf tM_told 109 = some (bM_told_109, 114) := rfl
theorem kM_told_0 : Bok "HerbWatersModel" prog_14_method_59_code (0, bM_told_0, 16) := ⟨by decide +kernel, (List.forall_mem_cons.mpr ⟨sLA0, (List.forall_mem_cons.mpr ⟨sC0, (List.forall_mem_cons.mpr ⟨lM_p123, (List.forall_mem_cons.mpr ⟨sLA0, (List.forall_mem_cons.mpr ⟨sLI1, (List.forall_mem_cons.mpr ⟨sC0, (List.forall_mem_cons.mpr ⟨sBP, (List.forall_mem_cons.mpr ⟨lM_s157, (List.forall_mem_cons.mpr ⟨sIFne, (fun _ h => absurd h List.not_mem_nil)⟩)⟩)⟩)⟩)⟩)⟩)⟩)⟩)⟩)⟩
theorem kM_told_16 : Bok "HerbWatersModel" prog_14_method_59_code (16, bM_told_16, 20) := ⟨by decide +kernel, (List.forall_mem_cons.mpr ⟨sC1, (List.forall_mem_cons.mpr ⟨sGO, (fun _ h => absurd h List.not_mem_nil)⟩)⟩)⟩
theorem kM_told_20 : Bok "HerbWatersModel" prog_14_method_59_code (20, bM_told_20, 21) := ⟨by decide +kernel, (List.forall_mem_cons.mpr ⟨sC0, (fun _ h => absurd h List.not_mem_nil)⟩)⟩
theorem kM_told_21 : Bok "HerbWatersModel" prog_14_method_59_code (21, bM_told_21, 29) := ⟨by decide +kernel, (List.forall_mem_cons.mpr ⟨sC1, (List.forall_mem_cons.mpr ⟨sC1, (List.forall_mem_cons.mpr ⟨lM_v221, (List.forall_mem_cons.mpr ⟨sIFeq, (fun _ h => absurd h List.not_mem_nil)⟩)⟩)⟩)⟩)⟩
theorem kM_told_29 : Bok "HerbWatersModel" prog_14_method_59_code (29, bM_told_29, 31) := ⟨by decide +kernel, (List.forall_mem_cons.mpr ⟨sC0, (List.forall_mem_cons.mpr ⟨sRI, (fun _ h => absurd h List.not_mem_nil)⟩)⟩)⟩
theorem kM_told_31 : Bok "HerbWatersModel" prog_14_method_59_code (31, bM_told_31, 76) := ⟨by decide +kernel, (List.forall_mem_cons.mpr ⟨sLI1, (List.forall_mem_cons.mpr ⟨sSW, (fun _ h => absurd h List.not_mem_nil)⟩)⟩)⟩
theorem kM_told_76 : Bok "HerbWatersModel" prog_14_method_59_code (76, bM_told_76, 83) := ⟨by decide +kernel, (List.forall_mem_cons.mpr ⟨sLA0, (List.forall_mem_cons.mpr ⟨lM_g23, (List.forall_mem_cons.mpr ⟨sLI1, (List.forall_mem_cons.mpr ⟨sIALD, (List.forall_mem_cons.mpr ⟨sRI, (fun _ h => absurd h List.not_mem_nil)⟩)⟩)⟩)⟩)⟩)⟩
theorem kM_told_83 : Bok "HerbWatersModel" prog_14_method_59_code (83, bM_told_83, 90) := ⟨by decide +kernel, (List.forall_mem_cons.mpr ⟨sLA0, (List.forall_mem_cons.mpr ⟨lM_g23, (List.forall_mem_cons.mpr ⟨sC4, (List.forall_mem_cons.mpr ⟨sIALD, (List.forall_mem_cons.mpr ⟨sRI, (fun _ h => absurd h List.not_mem_nil)⟩)⟩)⟩)⟩)⟩)⟩
theorem kM_told_90 : Bok "HerbWatersModel" prog_14_method_59_code (90, bM_told_90, 99) := ⟨by decide +kernel, (List.forall_mem_cons.mpr ⟨sLA0, (List.forall_mem_cons.mpr ⟨lM_g77, (List.forall_mem_cons.mpr ⟨sSP, (List.forall_mem_cons.mpr ⟨sIALD, (List.forall_mem_cons.mpr ⟨sRI, (fun _ h => absurd h List.not_mem_nil)⟩)⟩)⟩)⟩)⟩)⟩
theorem kM_told_99 : Bok "HerbWatersModel" prog_14_method_59_code (99, bM_told_99, 104) := ⟨by decide +kernel, (List.forall_mem_cons.mpr ⟨sLA0, (List.forall_mem_cons.mpr ⟨lM_g238, (List.forall_mem_cons.mpr ⟨sRI, (fun _ h => absurd h List.not_mem_nil)⟩)⟩)⟩)⟩
theorem kM_told_104 : Bok "HerbWatersModel" prog_14_method_59_code (104, bM_told_104, 109) := ⟨by decide +kernel, (List.forall_mem_cons.mpr ⟨sLA0, (List.forall_mem_cons.mpr ⟨lM_g241, (List.forall_mem_cons.mpr ⟨sRI, (fun _ h => absurd h List.not_mem_nil)⟩)⟩)⟩)⟩
theorem kM_told_109 : Bok "HerbWatersModel" prog_14_method_59_code (109, bM_told_109, 114) := ⟨by decide +kernel, (List.forall_mem_cons.mpr ⟨sLA0, (List.forall_mem_cons.mpr ⟨lM_g235, (List.forall_mem_cons.mpr ⟨sRI, (fun _ h => absurd h List.not_mem_nil)⟩)⟩)⟩)⟩
theorem kM_told : ∀ q ∈ tM_told, Bok "HerbWatersModel" prog_14_method_59_code q := (List.forall_mem_cons.mpr ⟨kM_told_0, (List.forall_mem_cons.mpr ⟨kM_told_16, (List.forall_mem_cons.mpr ⟨kM_told_20, (List.forall_mem_cons.mpr ⟨kM_told_21, (List.forall_mem_cons.mpr ⟨kM_told_29, (List.forall_mem_cons.mpr ⟨kM_told_31, (List.forall_mem_cons.mpr ⟨kM_told_76, (List.forall_mem_cons.mpr ⟨kM_told_83, (List.forall_mem_cons.mpr ⟨kM_told_90, (List.forall_mem_cons.mpr ⟨kM_told_99, (List.forall_mem_cons.mpr ⟨kM_told_104, (List.forall_mem_cons.mpr ⟨kM_told_109, (fun _ h => absurd h List.not_mem_nil)⟩)⟩)⟩)⟩)⟩)⟩)⟩)⟩)⟩)⟩)⟩)⟩)
def mM_staying : Mt := (⟨"HerbWatersModel", "staying", "(I)I"⟩, prog_14_method_60_code, 4, some .int)
theorem ok_M_staying : Mok mM_staying := ⟨gtb_mem 2081 (by decide +kernel) rfl, gtb_mem 107 (by decide +kernel) rfl, by decide +kernel, by decide⟩
def bM_staying_0 : List Ir := [(iBP 8), iLA0, (iGR 31 11 14), iLI1, iAALD107, iC2, iIALD, iSUB, iLA0, (iGR 23 11 12), iC2, iIALD, iLI1, (iICne (12) 30)]
def bM_staying_21 : List Ir := [iLA0, (iGR 23 11 12), iC3, iIALD, (iGO (4) 31)]
def bM_staying_30 : List Ir := [iC0]
def bM_staying_31 : List Ir := [iSUB, iSI2, iC0, iSI3]
def bM_staying_35 : List Ir := [iLI3, iLA0, (iGR 23 11 12), iC1, iIALD, (iICge (36) 78)]
def bM_staying_45 : List Ir := [iLI2, iLA0, (iGR 37 11 16), iLI3, iAALD107, iC0, iIALD, iLI1, (iICne (14) 69)]
def bM_staying_58 : List Ir := [iLA0, (iGR 37 11 16), iLI3, iAALD107, iC2, iIALD, (iGO (4) 70)]
def bM_staying_69 : List Ir := [iC0]
def bM_staying_70 : List Ir := [iSUB, iSI2, (iINC3 1), (iGO (-40) 35)]
def bM_staying_78 : List Ir := [iLI2, iRI]
def tM_staying : Tb := [(0, bM_staying_0, 21), (21, bM_staying_21, 30), (30, bM_staying_30, 31), (31, bM_staying_31, 35), (35, bM_staying_35, 45), (45, bM_staying_45, 58), (58, bM_staying_58, 69), (69, bM_staying_69, 70), (70, bM_staying_70, 78), (78, bM_staying_78, 80)]
theorem fM_staying_0 : tbf tM_staying 0 = some (bM_staying_0, 21) := rfl
theorem fM_staying_21 : tbf tM_staying 21 = some (bM_staying_21, 30) := rfl
theorem fM_staying_30 : tbf tM_staying 30 = some (bM_staying_30, 31) := rfl
theorem fM_staying_31 : tbf tM_staying 31 = some (bM_staying_31, 35) := rfl
theorem fM_staying_35 : tbf tM_staying 35 = some (bM_staying_35, 45) := rfl
theorem fM_staying_45 : tbf tM_staying 45 = some (bM_staying_45, 58) := rfl
theorem fM_staying_58 : tbf tM_staying 58 = some (bM_staying_58, 69) := rfl
theorem fM_staying_69 : tbf tM_staying 69 = some (bM_staying_69, 70) := rfl
theorem fM_staying_70 : tbf tM_staying 70 = some (bM_staying_70, 78) := rfl
theorem fM_staying_78 : tbf tM_staying 78 = some (bM_staying_78, 80) := rfl
theorem kM_staying_0 : Bok "HerbWatersModel" prog_14_method_60_code (0, bM_staying_0, 21) := ⟨by decide +kernel, (List.forall_mem_cons.mpr ⟨sBP, (List.forall_mem_cons.mpr ⟨sLA0, (List.forall_mem_cons.mpr ⟨lM_g31, (List.forall_mem_cons.mpr ⟨sLI1, (List.forall_mem_cons.mpr ⟨sAALD107, (List.forall_mem_cons.mpr ⟨sC2, (List.forall_mem_cons.mpr ⟨sIALD, (List.forall_mem_cons.mpr ⟨sSUB, (List.forall_mem_cons.mpr ⟨sLA0, (List.forall_mem_cons.mpr ⟨lM_g23, (List.forall_mem_cons.mpr ⟨sC2, (List.forall_mem_cons.mpr ⟨sIALD, (List.forall_mem_cons.mpr ⟨sLI1, (List.forall_mem_cons.mpr ⟨sICne, (fun _ h => absurd h List.not_mem_nil)⟩)⟩)⟩)⟩)⟩)⟩)⟩)⟩)⟩)⟩)⟩)⟩)⟩)⟩)⟩
theorem kM_staying_21 : Bok "HerbWatersModel" prog_14_method_60_code (21, bM_staying_21, 30) := ⟨by decide +kernel, (List.forall_mem_cons.mpr ⟨sLA0, (List.forall_mem_cons.mpr ⟨lM_g23, (List.forall_mem_cons.mpr ⟨sC3, (List.forall_mem_cons.mpr ⟨sIALD, (List.forall_mem_cons.mpr ⟨sGO, (fun _ h => absurd h List.not_mem_nil)⟩)⟩)⟩)⟩)⟩)⟩
theorem kM_staying_30 : Bok "HerbWatersModel" prog_14_method_60_code (30, bM_staying_30, 31) := ⟨by decide +kernel, (List.forall_mem_cons.mpr ⟨sC0, (fun _ h => absurd h List.not_mem_nil)⟩)⟩
theorem kM_staying_31 : Bok "HerbWatersModel" prog_14_method_60_code (31, bM_staying_31, 35) := ⟨by decide +kernel, (List.forall_mem_cons.mpr ⟨sSUB, (List.forall_mem_cons.mpr ⟨sSI2, (List.forall_mem_cons.mpr ⟨sC0, (List.forall_mem_cons.mpr ⟨sSI3, (fun _ h => absurd h List.not_mem_nil)⟩)⟩)⟩)⟩)⟩
theorem kM_staying_35 : Bok "HerbWatersModel" prog_14_method_60_code (35, bM_staying_35, 45) := ⟨by decide +kernel, (List.forall_mem_cons.mpr ⟨sLI3, (List.forall_mem_cons.mpr ⟨sLA0, (List.forall_mem_cons.mpr ⟨lM_g23, (List.forall_mem_cons.mpr ⟨sC1, (List.forall_mem_cons.mpr ⟨sIALD, (List.forall_mem_cons.mpr ⟨sICge, (fun _ h => absurd h List.not_mem_nil)⟩)⟩)⟩)⟩)⟩)⟩)⟩
theorem kM_staying_45 : Bok "HerbWatersModel" prog_14_method_60_code (45, bM_staying_45, 58) := ⟨by decide +kernel, (List.forall_mem_cons.mpr ⟨sLI2, (List.forall_mem_cons.mpr ⟨sLA0, (List.forall_mem_cons.mpr ⟨lM_g37, (List.forall_mem_cons.mpr ⟨sLI3, (List.forall_mem_cons.mpr ⟨sAALD107, (List.forall_mem_cons.mpr ⟨sC0, (List.forall_mem_cons.mpr ⟨sIALD, (List.forall_mem_cons.mpr ⟨sLI1, (List.forall_mem_cons.mpr ⟨sICne, (fun _ h => absurd h List.not_mem_nil)⟩)⟩)⟩)⟩)⟩)⟩)⟩)⟩)⟩)⟩
theorem kM_staying_58 : Bok "HerbWatersModel" prog_14_method_60_code (58, bM_staying_58, 69) := ⟨by decide +kernel, (List.forall_mem_cons.mpr ⟨sLA0, (List.forall_mem_cons.mpr ⟨lM_g37, (List.forall_mem_cons.mpr ⟨sLI3, (List.forall_mem_cons.mpr ⟨sAALD107, (List.forall_mem_cons.mpr ⟨sC2, (List.forall_mem_cons.mpr ⟨sIALD, (List.forall_mem_cons.mpr ⟨sGO, (fun _ h => absurd h List.not_mem_nil)⟩)⟩)⟩)⟩)⟩)⟩)⟩)⟩
theorem kM_staying_69 : Bok "HerbWatersModel" prog_14_method_60_code (69, bM_staying_69, 70) := ⟨by decide +kernel, (List.forall_mem_cons.mpr ⟨sC0, (fun _ h => absurd h List.not_mem_nil)⟩)⟩
theorem kM_staying_70 : Bok "HerbWatersModel" prog_14_method_60_code (70, bM_staying_70, 78) := ⟨by decide +kernel, (List.forall_mem_cons.mpr ⟨sSUB, (List.forall_mem_cons.mpr ⟨sSI2, (List.forall_mem_cons.mpr ⟨sINC3, (List.forall_mem_cons.mpr ⟨sGO, (fun _ h => absurd h List.not_mem_nil)⟩)⟩)⟩)⟩)⟩
theorem kM_staying_78 : Bok "HerbWatersModel" prog_14_method_60_code (78, bM_staying_78, 80) := ⟨by decide +kernel, (List.forall_mem_cons.mpr ⟨sLI2, (List.forall_mem_cons.mpr ⟨sRI, (fun _ h => absurd h List.not_mem_nil)⟩)⟩)⟩
theorem kM_staying : ∀ q ∈ tM_staying, Bok "HerbWatersModel" prog_14_method_60_code q := (List.forall_mem_cons.mpr ⟨kM_staying_0, (List.forall_mem_cons.mpr ⟨kM_staying_21, (List.forall_mem_cons.mpr ⟨kM_staying_30, (List.forall_mem_cons.mpr ⟨kM_staying_31, (List.forall_mem_cons.mpr ⟨kM_staying_35, (List.forall_mem_cons.mpr ⟨kM_staying_45, (List.forall_mem_cons.mpr ⟨kM_staying_58, (List.forall_mem_cons.mpr ⟨kM_staying_69, (List.forall_mem_cons.mpr ⟨kM_staying_70, (List.forall_mem_cons.mpr ⟨kM_staying_78, (fun _ h => absurd h List.not_mem_nil)⟩)⟩)⟩)⟩)⟩)⟩)⟩)⟩)⟩)⟩)
def mM_basin : Mt := (⟨"HerbWatersModel", "basin", "([III)I"⟩, prog_14_method_61_code, 3, some .int)
theorem ok_M_basin : Mok mM_basin := ⟨gtb_mem 2084 (by decide +kernel) rfl, gtb_mem 107 (by decide +kernel) rfl, by decide +kernel, by decide⟩
def bM_basin_0 : List Ir := [iLI2, (iIFne (11) 12)]
def bM_basin_4 : List Ir := [iLA0, iC0, iLI1, iADD, iIALD, (iGO (11) 20)]
def bM_basin_12 : List Ir := [iLA0, iLI1, iLI2, iC1, iSUB, (iCS3 327 mM_herbsOf)]
def bM_basin_20 : List Ir := [iRI]
def tM_basin : Tb := [(0, bM_basin_0, 4), (4, bM_basin_4, 12), (12, bM_basin_12, 20), (20, bM_basin_20, 21)]
theorem fM_basin_0 : tbf tM_basin 0 = some (bM_basin_0, 4) := rfl
theorem fM_basin_4 : tbf tM_basin 4 = some (bM_basin_4, 12) := rfl
theorem fM_basin_12 : tbf tM_basin 12 = some (bM_basin_12, 20) := rfl
theorem fM_basin_20 : tbf tM_basin 20 = some (bM_basin_20, 21) := rfl
theorem kM_basin_0 : Bok "HerbWatersModel" prog_14_method_61_code (0, bM_basin_0, 4) := ⟨by decide +kernel, (List.forall_mem_cons.mpr ⟨sLI2, (List.forall_mem_cons.mpr ⟨sIFne, (fun _ h => absurd h List.not_mem_nil)⟩)⟩)⟩
theorem kM_basin_4 : Bok "HerbWatersModel" prog_14_method_61_code (4, bM_basin_4, 12) := ⟨by decide +kernel, (List.forall_mem_cons.mpr ⟨sLA0, (List.forall_mem_cons.mpr ⟨sC0, (List.forall_mem_cons.mpr ⟨sLI1, (List.forall_mem_cons.mpr ⟨sADD, (List.forall_mem_cons.mpr ⟨sIALD, (List.forall_mem_cons.mpr ⟨sGO, (fun _ h => absurd h List.not_mem_nil)⟩)⟩)⟩)⟩)⟩)⟩)⟩
theorem kM_basin_12 : Bok "HerbWatersModel" prog_14_method_61_code (12, bM_basin_12, 20) := ⟨by decide +kernel, (List.forall_mem_cons.mpr ⟨sLA0, (List.forall_mem_cons.mpr ⟨sLI1, (List.forall_mem_cons.mpr ⟨sLI2, (List.forall_mem_cons.mpr ⟨sC1, (List.forall_mem_cons.mpr ⟨sSUB, (List.forall_mem_cons.mpr ⟨lM_s327, (fun _ h => absurd h List.not_mem_nil)⟩)⟩)⟩)⟩)⟩)⟩)⟩
theorem kM_basin_20 : Bok "HerbWatersModel" prog_14_method_61_code (20, bM_basin_20, 21) := ⟨by decide +kernel, (List.forall_mem_cons.mpr ⟨sRI, (fun _ h => absurd h List.not_mem_nil)⟩)⟩
theorem kM_basin : ∀ q ∈ tM_basin, Bok "HerbWatersModel" prog_14_method_61_code q := (List.forall_mem_cons.mpr ⟨kM_basin_0, (List.forall_mem_cons.mpr ⟨kM_basin_4, (List.forall_mem_cons.mpr ⟨kM_basin_12, (List.forall_mem_cons.mpr ⟨kM_basin_20, (fun _ h => absurd h List.not_mem_nil)⟩)⟩)⟩)⟩)
def mM_village : Mt := (⟨"HerbWatersModel", "village", "(II)I"⟩, prog_14_method_62_code, 3, some .int)
theorem ok_M_village : Mok mM_village := ⟨gtb_mem 2077 (by decide +kernel) rfl, gtb_mem 107 (by decide +kernel) rfl, by decide +kernel, by decide⟩
theorem lM_v347 : Snd "HerbWatersModel" (iCV1 347 11 mM_staying) := sCV1 _ rfl rfl ok_M_staying (gtb_mem 2080 (by decide +kernel) rfl) (gtb_mem 74 (by decide +kernel) rfl) (gtb_mem 2078 (by decide +kernel) rfl)
theorem lM_s350 : Snd "HerbWatersModel" (iCS3 350 mM_basin) := sCS3 ok_M_basin (gtb_mem 2083 (by decide +kernel) rfl) (gtb_mem 2082 (by decide +kernel) rfl)
def bM_village_0 : List Ir := [iLA0, iC0, (iPI 123 11 0), iLA0, iLA0, iLI1, (iCV1 290 11 mM_isVillage), (iIFne (7) 18)]
def bM_village_14 : List Ir := [iC1, (iGO (4) 19)]
def bM_village_18 : List Ir := [iC0]
def bM_village_19 : List Ir := [iC1, iC0, (iCV3 221 11 mM_bad), (iIFne (27) 51)]
def bM_village_27 : List Ir := [iLA0, iLI2, iC0, (iBP 8), (iCS3 157 mM_in), (iIFne (7) 42)]
def bM_village_38 : List Ir := [iC1, (iGO (4) 43)]
def bM_village_42 : List Ir := [iC0]
def bM_village_43 : List Ir := [iC2, iC1, (iCV3 221 11 mM_bad), (iIFeq (5) 53)]
def bM_village_51 : List Ir := [iC0, iRI]
def bM_village_53 : List Ir := [iLI2, (iSW 4 (74) #[(34), (43), (52), (61), (67)] 34 [88, 97, 106, 115, 121] 128)]
def bM_village_88 : List Ir := [iLA0, (iGR 31 11 14), iLI1, iAALD107, iC1, iIALD, iRI]
def bM_village_97 : List Ir := [iLA0, (iGR 31 11 14), iLI1, iAALD107, iC3, iIALD, iRI]
def bM_village_106 : List Ir := [iLA0, (iGR 31 11 14), iLI1, iAALD107, iC4, iIALD, iRI]
def bM_village_115 : List Ir := [iLA0, iLI1, (iCV1 347 11 mM_staying), iRI]
def bM_village_121 : List Ir := [iLA0, (iGR 74 11 31), iLI1, iIALD, iRI]
def bM_village_128 : List Ir := [iLA0, (iGR 77 11 32), iLI1, iLI2, (iCS3 350 mM_basin), iRI]
def tM_village : Tb := [(0, bM_village_0, 14), (14, bM_village_14, 18), (18, bM_village_18, 19), (19, bM_village_19, 27), (27, bM_village_27, 38), (38, bM_village_38, 42), (42, bM_village_42, 43), (43, bM_village_43, 51), (51, bM_village_51, 53), (53, bM_village_53, 88), (88, bM_village_88, 97), (97, bM_village_97, 106), (106, bM_village_106, 115), (115, bM_village_115, 121), (121, bM_village_121, 128), (128, bM_village_128, 138)]
theorem fM_village_0 : tbf tM_village 0 = some (bM_village_0, 14) := rfl
theorem fM_village_14 : tbf tM_village 14 = some (bM_village_14, 18) := rfl
theorem fM_village_18 : tbf tM_village 18 = some (bM_village_18, 19) := rfl
theorem fM_village_19 : tbf tM_village 19 = some (bM_village_19, 27) := rfl
theorem fM_village_27 : tbf tM_village 27 = some (bM_village_27, 38) := rfl
theorem fM_village_38 : tbf tM_village 38 = some (bM_village_38, 42) := rfl
theorem fM_village_42 : tbf tM_village 42 = some (bM_village_42, 43) := rfl
theorem fM_village_43 : tbf tM_village 43 = some (bM_village_43, 51) := rfl
theorem fM_village_51 : tbf tM_village 51 = some (bM_village_51, 53) := rfl
theorem fM_village_53 : tbf tM_village 53 = some (bM_village_53, 88) := rfl
theorem fM_village_88 : tbf tM_village 88 = some (bM_village_88, 97) := rfl
theorem fM_village_97 : tbf tM_village 97 = some (bM_village_97, 106) := rfl
theorem fM_village_106 : tbf tM_village 106 = some (bM_village_106, 115) := rfl
theorem fM_village_115 : tbf tM_village 115 = some (bM_village_115, 121) := rfl
theorem fM_village_121 : tbf tM_village 121 = some (bM_village_121, 128) := rfl
theorem fM_village_128 : tbf tM_village 128 = some (bM_village_128, 138) := rfl
theorem kM_village_0 : Bok "HerbWatersModel" prog_14_method_62_code (0, bM_village_0, 14) := ⟨by decide +kernel, (List.forall_mem_cons.mpr ⟨sLA0, (List.forall_mem_cons.mpr ⟨sC0, (List.forall_mem_cons.mpr ⟨lM_p123, (List.forall_mem_cons.mpr ⟨sLA0, (List.forall_mem_cons.mpr ⟨sLA0, (List.forall_mem_cons.mpr ⟨sLI1, (List.forall_mem_cons.mpr ⟨lM_v290, (List.forall_mem_cons.mpr ⟨sIFne, (fun _ h => absurd h List.not_mem_nil)⟩)⟩)⟩)⟩)⟩)⟩)⟩)⟩)⟩
theorem kM_village_14 : Bok "HerbWatersModel" prog_14_method_62_code (14, bM_village_14, 18) := ⟨by decide +kernel, (List.forall_mem_cons.mpr ⟨sC1, (List.forall_mem_cons.mpr ⟨sGO, (fun _ h => absurd h List.not_mem_nil)⟩)⟩)⟩
theorem kM_village_18 : Bok "HerbWatersModel" prog_14_method_62_code (18, bM_village_18, 19) := ⟨by decide +kernel, (List.forall_mem_cons.mpr ⟨sC0, (fun _ h => absurd h List.not_mem_nil)⟩)⟩
theorem kM_village_19 : Bok "HerbWatersModel" prog_14_method_62_code (19, bM_village_19, 27) := ⟨by decide +kernel, (List.forall_mem_cons.mpr ⟨sC1, (List.forall_mem_cons.mpr ⟨sC0, (List.forall_mem_cons.mpr ⟨lM_v221, (List.forall_mem_cons.mpr ⟨sIFne, (fun _ h => absurd h List.not_mem_nil)⟩)⟩)⟩)⟩)⟩
theorem kM_village_27 : Bok "HerbWatersModel" prog_14_method_62_code (27, bM_village_27, 38) := ⟨by decide +kernel, (List.forall_mem_cons.mpr ⟨sLA0, (List.forall_mem_cons.mpr ⟨sLI2, (List.forall_mem_cons.mpr ⟨sC0, (List.forall_mem_cons.mpr ⟨sBP, (List.forall_mem_cons.mpr ⟨lM_s157, (List.forall_mem_cons.mpr ⟨sIFne, (fun _ h => absurd h List.not_mem_nil)⟩)⟩)⟩)⟩)⟩)⟩)⟩
theorem kM_village_38 : Bok "HerbWatersModel" prog_14_method_62_code (38, bM_village_38, 42) := ⟨by decide +kernel, (List.forall_mem_cons.mpr ⟨sC1, (List.forall_mem_cons.mpr ⟨sGO, (fun _ h => absurd h List.not_mem_nil)⟩)⟩)⟩
theorem kM_village_42 : Bok "HerbWatersModel" prog_14_method_62_code (42, bM_village_42, 43) := ⟨by decide +kernel, (List.forall_mem_cons.mpr ⟨sC0, (fun _ h => absurd h List.not_mem_nil)⟩)⟩
theorem kM_village_43 : Bok "HerbWatersModel" prog_14_method_62_code (43, bM_village_43, 51) := ⟨by decide +kernel, (List.forall_mem_cons.mpr ⟨sC2, (List.forall_mem_cons.mpr ⟨sC1, (List.forall_mem_cons.mpr ⟨lM_v221, (List.forall_mem_cons.mpr ⟨sIFeq, (fun _ h => absurd h List.not_mem_nil)⟩)⟩)⟩)⟩)⟩
theorem kM_village_51 : Bok "HerbWatersModel" prog_14_method_62_code (51, bM_village_51, 53) := ⟨by decide +kernel, (List.forall_mem_cons.mpr ⟨sC0, (List.forall_mem_cons.mpr ⟨sRI, (fun _ h => absurd h List.not_mem_nil)⟩)⟩)⟩
theorem kM_village_53 : Bok "HerbWatersModel" prog_14_method_62_code (53, bM_village_53, 88) := ⟨by decide +kernel, (List.forall_mem_cons.mpr ⟨sLI2, (List.forall_mem_cons.mpr ⟨sSW, (fun _ h => absurd h List.not_mem_nil)⟩)⟩)⟩
theorem kM_village_88 : Bok "HerbWatersModel" prog_14_method_62_code (88, bM_village_88, 97) := ⟨by decide +kernel, (List.forall_mem_cons.mpr ⟨sLA0, (List.forall_mem_cons.mpr ⟨lM_g31, (List.forall_mem_cons.mpr ⟨sLI1, (List.forall_mem_cons.mpr ⟨sAALD107, (List.forall_mem_cons.mpr ⟨sC1, (List.forall_mem_cons.mpr ⟨sIALD, (List.forall_mem_cons.mpr ⟨sRI, (fun _ h => absurd h List.not_mem_nil)⟩)⟩)⟩)⟩)⟩)⟩)⟩)⟩
theorem kM_village_97 : Bok "HerbWatersModel" prog_14_method_62_code (97, bM_village_97, 106) := ⟨by decide +kernel, (List.forall_mem_cons.mpr ⟨sLA0, (List.forall_mem_cons.mpr ⟨lM_g31, (List.forall_mem_cons.mpr ⟨sLI1, (List.forall_mem_cons.mpr ⟨sAALD107, (List.forall_mem_cons.mpr ⟨sC3, (List.forall_mem_cons.mpr ⟨sIALD, (List.forall_mem_cons.mpr ⟨sRI, (fun _ h => absurd h List.not_mem_nil)⟩)⟩)⟩)⟩)⟩)⟩)⟩)⟩
theorem kM_village_106 : Bok "HerbWatersModel" prog_14_method_62_code (106, bM_village_106, 115) := ⟨by decide +kernel, (List.forall_mem_cons.mpr ⟨sLA0, (List.forall_mem_cons.mpr ⟨lM_g31, (List.forall_mem_cons.mpr ⟨sLI1, (List.forall_mem_cons.mpr ⟨sAALD107, (List.forall_mem_cons.mpr ⟨sC4, (List.forall_mem_cons.mpr ⟨sIALD, (List.forall_mem_cons.mpr ⟨sRI, (fun _ h => absurd h List.not_mem_nil)⟩)⟩)⟩)⟩)⟩)⟩)⟩)⟩
theorem kM_village_115 : Bok "HerbWatersModel" prog_14_method_62_code (115, bM_village_115, 121) := ⟨by decide +kernel, (List.forall_mem_cons.mpr ⟨sLA0, (List.forall_mem_cons.mpr ⟨sLI1, (List.forall_mem_cons.mpr ⟨lM_v347, (List.forall_mem_cons.mpr ⟨sRI, (fun _ h => absurd h List.not_mem_nil)⟩)⟩)⟩)⟩)⟩
theorem kM_village_121 : Bok "HerbWatersModel" prog_14_method_62_code (121, bM_village_121, 128) := ⟨by decide +kernel, (List.forall_mem_cons.mpr ⟨sLA0, (List.forall_mem_cons.mpr ⟨lM_g74, (List.forall_mem_cons.mpr ⟨sLI1, (List.forall_mem_cons.mpr ⟨sIALD, (List.forall_mem_cons.mpr ⟨sRI, (fun _ h => absurd h List.not_mem_nil)⟩)⟩)⟩)⟩)⟩)⟩
theorem kM_village_128 : Bok "HerbWatersModel" prog_14_method_62_code (128, bM_village_128, 138) := ⟨by decide +kernel, (List.forall_mem_cons.mpr ⟨sLA0, (List.forall_mem_cons.mpr ⟨lM_g77, (List.forall_mem_cons.mpr ⟨sLI1, (List.forall_mem_cons.mpr ⟨sLI2, (List.forall_mem_cons.mpr ⟨lM_s350, (List.forall_mem_cons.mpr ⟨sRI, (fun _ h => absurd h List.not_mem_nil)⟩)⟩)⟩)⟩)⟩)⟩)⟩
theorem kM_village : ∀ q ∈ tM_village, Bok "HerbWatersModel" prog_14_method_62_code q := (List.forall_mem_cons.mpr ⟨kM_village_0, (List.forall_mem_cons.mpr ⟨kM_village_14, (List.forall_mem_cons.mpr ⟨kM_village_18, (List.forall_mem_cons.mpr ⟨kM_village_19, (List.forall_mem_cons.mpr ⟨kM_village_27, (List.forall_mem_cons.mpr ⟨kM_village_38, (List.forall_mem_cons.mpr ⟨kM_village_42, (List.forall_mem_cons.mpr ⟨kM_village_43, (List.forall_mem_cons.mpr ⟨kM_village_51, (List.forall_mem_cons.mpr ⟨kM_village_53, (List.forall_mem_cons.mpr ⟨kM_village_88, (List.forall_mem_cons.mpr ⟨kM_village_97, (List.forall_mem_cons.mpr ⟨kM_village_106, (List.forall_mem_cons.mpr ⟨kM_village_115, (List.forall_mem_cons.mpr ⟨kM_village_121, (List.forall_mem_cons.mpr ⟨kM_village_128, (fun _ h => absurd h List.not_mem_nil)⟩)⟩)⟩)⟩)⟩)⟩)⟩)⟩)⟩)⟩)⟩)⟩)⟩)⟩)⟩)⟩)
def mM_led : Mt := (⟨"HerbWatersModel", "led", "(III)I"⟩, prog_14_method_63_code, 4, some .int)
theorem ok_M_led : Mok mM_led := ⟨gtb_mem 2094 (by decide +kernel) rfl, gtb_mem 107 (by decide +kernel) rfl, by decide +kernel, by decide⟩
def bM_led_0 : List Ir := [iLA0, iC0, (iPI 123 11 0), iLA0, iLA0, iLI1, (iCV1 290 11 mM_isVillage), (iIFeq (11) 22)]
def bM_led_14 : List Ir := [iLA0, iLI3, (iCV1 290 11 mM_isVillage), (iIFne (7) 26)]
def bM_led_22 : List Ir := [iC1, (iGO (4) 27)]
def bM_led_26 : List Ir := [iC0]
def bM_led_27 : List Ir := [iC1, iC0, (iCV3 221 11 mM_bad), (iIFne (26) 58)]
def bM_led_35 : List Ir := [iLA0, iLI2, iC0, iC2, (iCS3 157 mM_in), (iIFne (7) 49)]
def bM_led_45 : List Ir := [iC1, (iGO (4) 50)]
def bM_led_49 : List Ir := [iC0]
def bM_led_50 : List Ir := [iC2, iC1, (iCV3 221 11 mM_bad), (iIFeq (5) 60)]
def bM_led_58 : List Ir := [iC0, iRI]
def bM_led_60 : List Ir := [iLA0, (iGR 77 11 32), iLI1, iLI2, iLI3, (iCS3 318 mM_herbAt), iIALD, iRI]
def tM_led : Tb := [(0, bM_led_0, 14), (14, bM_led_14, 22), (22, bM_led_22, 26), (26, bM_led_26, 27), (27, bM_led_27, 35), (35, bM_led_35, 45), (45, bM_led_45, 49), (49, bM_led_49, 50), (50, bM_led_50, 58), (58, bM_led_58, 60), (60, bM_led_60, 72)]
theorem fM_led_0 : tbf tM_led 0 = some (bM_led_0, 14) := rfl
theorem fM_led_14 : tbf tM_led 14 = some (bM_led_14, 22) := rfl
theorem fM_led_22 : tbf tM_led 22 = some (bM_led_22, 26) := rfl
theorem fM_led_26 : tbf tM_led 26 = some (bM_led_26, 27) := rfl
theorem fM_led_27 : tbf tM_led 27 = some (bM_led_27, 35) := rfl
theorem fM_led_35 : tbf tM_led 35 = some (bM_led_35, 45) := rfl
theorem fM_led_45 : tbf tM_led 45 = some (bM_led_45, 49) := rfl
theorem fM_led_49 : tbf tM_led 49 = some (bM_led_49, 50) := rfl
theorem fM_led_50 : tbf tM_led 50 = some (bM_led_50, 58) := rfl
theorem fM_led_58 : tbf tM_led 58 = some (bM_led_58, 60) := rfl
theorem fM_led_60 : tbf tM_led 60 = some (bM_led_60, 72) := rfl
theorem kM_led_0 : Bok "HerbWatersModel" prog_14_method_63_code (0, bM_led_0, 14) := ⟨by decide +kernel, (List.forall_mem_cons.mpr ⟨sLA0, (List.forall_mem_cons.mpr ⟨sC0, (List.forall_mem_cons.mpr ⟨lM_p123, (List.forall_mem_cons.mpr ⟨sLA0, (List.forall_mem_cons.mpr ⟨sLA0, (List.forall_mem_cons.mpr ⟨sLI1, (List.forall_mem_cons.mpr ⟨lM_v290, (List.forall_mem_cons.mpr ⟨sIFeq, (fun _ h => absurd h List.not_mem_nil)⟩)⟩)⟩)⟩)⟩)⟩)⟩)⟩)⟩
theorem kM_led_14 : Bok "HerbWatersModel" prog_14_method_63_code (14, bM_led_14, 22) := ⟨by decide +kernel, (List.forall_mem_cons.mpr ⟨sLA0, (List.forall_mem_cons.mpr ⟨sLI3, (List.forall_mem_cons.mpr ⟨lM_v290, (List.forall_mem_cons.mpr ⟨sIFne, (fun _ h => absurd h List.not_mem_nil)⟩)⟩)⟩)⟩)⟩
theorem kM_led_22 : Bok "HerbWatersModel" prog_14_method_63_code (22, bM_led_22, 26) := ⟨by decide +kernel, (List.forall_mem_cons.mpr ⟨sC1, (List.forall_mem_cons.mpr ⟨sGO, (fun _ h => absurd h List.not_mem_nil)⟩)⟩)⟩
theorem kM_led_26 : Bok "HerbWatersModel" prog_14_method_63_code (26, bM_led_26, 27) := ⟨by decide +kernel, (List.forall_mem_cons.mpr ⟨sC0, (fun _ h => absurd h List.not_mem_nil)⟩)⟩
theorem kM_led_27 : Bok "HerbWatersModel" prog_14_method_63_code (27, bM_led_27, 35) := ⟨by decide +kernel, (List.forall_mem_cons.mpr ⟨sC1, (List.forall_mem_cons.mpr ⟨sC0, (List.forall_mem_cons.mpr ⟨lM_v221, (List.forall_mem_cons.mpr ⟨sIFne, (fun _ h => absurd h List.not_mem_nil)⟩)⟩)⟩)⟩)⟩
theorem kM_led_35 : Bok "HerbWatersModel" prog_14_method_63_code (35, bM_led_35, 45) := ⟨by decide +kernel, (List.forall_mem_cons.mpr ⟨sLA0, (List.forall_mem_cons.mpr ⟨sLI2, (List.forall_mem_cons.mpr ⟨sC0, (List.forall_mem_cons.mpr ⟨sC2, (List.forall_mem_cons.mpr ⟨lM_s157, (List.forall_mem_cons.mpr ⟨sIFne, (fun _ h => absurd h List.not_mem_nil)⟩)⟩)⟩)⟩)⟩)⟩)⟩
theorem kM_led_45 : Bok "HerbWatersModel" prog_14_method_63_code (45, bM_led_45, 49) := ⟨by decide +kernel, (List.forall_mem_cons.mpr ⟨sC1, (List.forall_mem_cons.mpr ⟨sGO, (fun _ h => absurd h List.not_mem_nil)⟩)⟩)⟩
theorem kM_led_49 : Bok "HerbWatersModel" prog_14_method_63_code (49, bM_led_49, 50) := ⟨by decide +kernel, (List.forall_mem_cons.mpr ⟨sC0, (fun _ h => absurd h List.not_mem_nil)⟩)⟩
theorem kM_led_50 : Bok "HerbWatersModel" prog_14_method_63_code (50, bM_led_50, 58) := ⟨by decide +kernel, (List.forall_mem_cons.mpr ⟨sC2, (List.forall_mem_cons.mpr ⟨sC1, (List.forall_mem_cons.mpr ⟨lM_v221, (List.forall_mem_cons.mpr ⟨sIFeq, (fun _ h => absurd h List.not_mem_nil)⟩)⟩)⟩)⟩)⟩
theorem kM_led_58 : Bok "HerbWatersModel" prog_14_method_63_code (58, bM_led_58, 60) := ⟨by decide +kernel, (List.forall_mem_cons.mpr ⟨sC0, (List.forall_mem_cons.mpr ⟨sRI, (fun _ h => absurd h List.not_mem_nil)⟩)⟩)⟩
theorem kM_led_60 : Bok "HerbWatersModel" prog_14_method_63_code (60, bM_led_60, 72) := ⟨by decide +kernel, (List.forall_mem_cons.mpr ⟨sLA0, (List.forall_mem_cons.mpr ⟨lM_g77, (List.forall_mem_cons.mpr ⟨sLI1, (List.forall_mem_cons.mpr ⟨sLI2, (List.forall_mem_cons.mpr ⟨sLI3, (List.forall_mem_cons.mpr ⟨lM_s318, (List.forall_mem_cons.mpr ⟨sIALD, (List.forall_mem_cons.mpr ⟨sRI, (fun _ h => absurd h List.not_mem_nil)⟩)⟩)⟩)⟩)⟩)⟩)⟩)⟩)⟩
theorem kM_led : ∀ q ∈ tM_led, Bok "HerbWatersModel" prog_14_method_63_code q := (List.forall_mem_cons.mpr ⟨kM_led_0, (List.forall_mem_cons.mpr ⟨kM_led_14, (List.forall_mem_cons.mpr ⟨kM_led_22, (List.forall_mem_cons.mpr ⟨kM_led_26, (List.forall_mem_cons.mpr ⟨kM_led_27, (List.forall_mem_cons.mpr ⟨kM_led_35, (List.forall_mem_cons.mpr ⟨kM_led_45, (List.forall_mem_cons.mpr ⟨kM_led_49, (List.forall_mem_cons.mpr ⟨kM_led_50, (List.forall_mem_cons.mpr ⟨kM_led_58, (List.forall_mem_cons.mpr ⟨kM_led_60, (fun _ h => absurd h List.not_mem_nil)⟩)⟩)⟩)⟩)⟩)⟩)⟩)⟩)⟩)⟩)⟩)
def mM_days : Mt := (⟨"HerbWatersModel", "days", "(I)I"⟩, prog_14_method_64_code, 3, some .int)
theorem ok_M_days : Mok mM_days := ⟨gtb_mem 2098 (by decide +kernel) rfl, gtb_mem 107 (by decide +kernel) rfl, by decide +kernel, by decide⟩
theorem lM_v353 : Snd "HerbWatersModel" (iCV0 353 11 mM_asNow) := sCV0 _ rfl rfl ok_M_asNow (gtb_mem 2101 (by decide +kernel) rfl) (gtb_mem 75 (by decide +kernel) rfl) (gtb_mem 2099 (by decide +kernel) rfl)
theorem lM_v356 : Snd "HerbWatersModel" (iCV1 356 11 mM_steps) := sCV1 _ rfl rfl ok_M_steps (gtb_mem 2105 (by decide +kernel) rfl) (gtb_mem 76 (by decide +kernel) rfl) (gtb_mem 2103 (by decide +kernel) rfl)
theorem lM_g250 : Snd "HerbWatersModel" (iGI 250 11 39) := sGI _ rfl (gtb_mem 1762 (by decide +kernel) rfl)
def bM_days_0 : List Ir := [iLA0, iC0, (iPI 123 11 0), iLA0, iLI1, iC1, (iBP 99), (iCS3 157 mM_in), (iIFne (7) 20)]
def bM_days_16 : List Ir := [iC1, (iGO (4) 21)]
def bM_days_20 : List Ir := [iC0]
def bM_days_21 : List Ir := [iC1, iC1, (iCV3 221 11 mM_bad), (iIFeq (5) 31)]
def bM_days_29 : List Ir := [iC0, iRI]
def bM_days_31 : List Ir := [iLA0, (iCV0 353 11 mM_asNow), iC0, iSI2]
def bM_days_37 : List Ir := [iLI2, iLI1, (iICge (41) 80)]
def bM_days_42 : List Ir := [iLA0, (iGR 77 11 32), (iSP 501), iIALD, (iSP 999), (iICge (27) 80)]
def bM_days_56 : List Ir := [iLA0, iLA0, (iGR 77 11 32), (iCV1 356 11 mM_steps), iLA0, iDUPr, (iGI 250 11 39), iC1, iADD, (iPI 250 11 39), (iINC2 1), (iGO (-40) 37)]
def bM_days_80 : List Ir := [iLA0, (iGR 77 11 32), (iSP 501), iIALD, iRI]
def tM_days : Tb := [(0, bM_days_0, 16), (16, bM_days_16, 20), (20, bM_days_20, 21), (21, bM_days_21, 29), (29, bM_days_29, 31), (31, bM_days_31, 37), (37, bM_days_37, 42), (42, bM_days_42, 56), (56, bM_days_56, 80), (80, bM_days_80, 89)]
theorem fM_days_0 : tbf tM_days 0 = some (bM_days_0, 16) := rfl
theorem fM_days_16 : tbf tM_days 16 = some (bM_days_16, 20) := rfl
theorem fM_days_20 : tbf tM_days 20 = some (bM_days_20, 21) := rfl
theorem fM_days_21 : tbf tM_days 21 = some (bM_days_21, 29) := rfl
theorem fM_days_29 : tbf tM_days 29 = some (bM_days_29, 31) := rfl
theorem fM_days_31 : tbf tM_days 31 = some (bM_days_31, 37) := rfl
theorem fM_days_37 : tbf tM_days 37 = some (bM_days_37, 42) := rfl
theorem fM_days_42 : tbf tM_days 42 = some (bM_days_42, 56) := rfl
theorem fM_days_56 : tbf tM_days 56 = some (bM_days_56, 80) := rfl
theorem fM_days_80 : tbf tM_days 80 = some (bM_days_80, 89) := rfl
theorem kM_days_0 : Bok "HerbWatersModel" prog_14_method_64_code (0, bM_days_0, 16) := ⟨by decide +kernel, (List.forall_mem_cons.mpr ⟨sLA0, (List.forall_mem_cons.mpr ⟨sC0, (List.forall_mem_cons.mpr ⟨lM_p123, (List.forall_mem_cons.mpr ⟨sLA0, (List.forall_mem_cons.mpr ⟨sLI1, (List.forall_mem_cons.mpr ⟨sC1, (List.forall_mem_cons.mpr ⟨sBP, (List.forall_mem_cons.mpr ⟨lM_s157, (List.forall_mem_cons.mpr ⟨sIFne, (fun _ h => absurd h List.not_mem_nil)⟩)⟩)⟩)⟩)⟩)⟩)⟩)⟩)⟩)⟩
theorem kM_days_16 : Bok "HerbWatersModel" prog_14_method_64_code (16, bM_days_16, 20) := ⟨by decide +kernel, (List.forall_mem_cons.mpr ⟨sC1, (List.forall_mem_cons.mpr ⟨sGO, (fun _ h => absurd h List.not_mem_nil)⟩)⟩)⟩
theorem kM_days_20 : Bok "HerbWatersModel" prog_14_method_64_code (20, bM_days_20, 21) := ⟨by decide +kernel, (List.forall_mem_cons.mpr ⟨sC0, (fun _ h => absurd h List.not_mem_nil)⟩)⟩
theorem kM_days_21 : Bok "HerbWatersModel" prog_14_method_64_code (21, bM_days_21, 29) := ⟨by decide +kernel, (List.forall_mem_cons.mpr ⟨sC1, (List.forall_mem_cons.mpr ⟨sC1, (List.forall_mem_cons.mpr ⟨lM_v221, (List.forall_mem_cons.mpr ⟨sIFeq, (fun _ h => absurd h List.not_mem_nil)⟩)⟩)⟩)⟩)⟩
theorem kM_days_29 : Bok "HerbWatersModel" prog_14_method_64_code (29, bM_days_29, 31) := ⟨by decide +kernel, (List.forall_mem_cons.mpr ⟨sC0, (List.forall_mem_cons.mpr ⟨sRI, (fun _ h => absurd h List.not_mem_nil)⟩)⟩)⟩
theorem kM_days_31 : Bok "HerbWatersModel" prog_14_method_64_code (31, bM_days_31, 37) := ⟨by decide +kernel, (List.forall_mem_cons.mpr ⟨sLA0, (List.forall_mem_cons.mpr ⟨lM_v353, (List.forall_mem_cons.mpr ⟨sC0, (List.forall_mem_cons.mpr ⟨sSI2, (fun _ h => absurd h List.not_mem_nil)⟩)⟩)⟩)⟩)⟩
theorem kM_days_37 : Bok "HerbWatersModel" prog_14_method_64_code (37, bM_days_37, 42) := ⟨by decide +kernel, (List.forall_mem_cons.mpr ⟨sLI2, (List.forall_mem_cons.mpr ⟨sLI1, (List.forall_mem_cons.mpr ⟨sICge, (fun _ h => absurd h List.not_mem_nil)⟩)⟩)⟩)⟩
theorem kM_days_42 : Bok "HerbWatersModel" prog_14_method_64_code (42, bM_days_42, 56) := ⟨by decide +kernel, (List.forall_mem_cons.mpr ⟨sLA0, (List.forall_mem_cons.mpr ⟨lM_g77, (List.forall_mem_cons.mpr ⟨sSP, (List.forall_mem_cons.mpr ⟨sIALD, (List.forall_mem_cons.mpr ⟨sSP, (List.forall_mem_cons.mpr ⟨sICge, (fun _ h => absurd h List.not_mem_nil)⟩)⟩)⟩)⟩)⟩)⟩)⟩
theorem kM_days_56 : Bok "HerbWatersModel" prog_14_method_64_code (56, bM_days_56, 80) := ⟨by decide +kernel, (List.forall_mem_cons.mpr ⟨sLA0, (List.forall_mem_cons.mpr ⟨sLA0, (List.forall_mem_cons.mpr ⟨lM_g77, (List.forall_mem_cons.mpr ⟨lM_v356, (List.forall_mem_cons.mpr ⟨sLA0, (List.forall_mem_cons.mpr ⟨sDUPr, (List.forall_mem_cons.mpr ⟨lM_g250, (List.forall_mem_cons.mpr ⟨sC1, (List.forall_mem_cons.mpr ⟨sADD, (List.forall_mem_cons.mpr ⟨lM_p250, (List.forall_mem_cons.mpr ⟨sINC2, (List.forall_mem_cons.mpr ⟨sGO, (fun _ h => absurd h List.not_mem_nil)⟩)⟩)⟩)⟩)⟩)⟩)⟩)⟩)⟩)⟩)⟩)⟩)⟩
theorem kM_days_80 : Bok "HerbWatersModel" prog_14_method_64_code (80, bM_days_80, 89) := ⟨by decide +kernel, (List.forall_mem_cons.mpr ⟨sLA0, (List.forall_mem_cons.mpr ⟨lM_g77, (List.forall_mem_cons.mpr ⟨sSP, (List.forall_mem_cons.mpr ⟨sIALD, (List.forall_mem_cons.mpr ⟨sRI, (fun _ h => absurd h List.not_mem_nil)⟩)⟩)⟩)⟩)⟩)⟩
theorem kM_days : ∀ q ∈ tM_days, Bok "HerbWatersModel" prog_14_method_64_code q := (List.forall_mem_cons.mpr ⟨kM_days_0, (List.forall_mem_cons.mpr ⟨kM_days_16, (List.forall_mem_cons.mpr ⟨kM_days_20, (List.forall_mem_cons.mpr ⟨kM_days_21, (List.forall_mem_cons.mpr ⟨kM_days_29, (List.forall_mem_cons.mpr ⟨kM_days_31, (List.forall_mem_cons.mpr ⟨kM_days_37, (List.forall_mem_cons.mpr ⟨kM_days_42, (List.forall_mem_cons.mpr ⟨kM_days_56, (List.forall_mem_cons.mpr ⟨kM_days_80, (fun _ h => absurd h List.not_mem_nil)⟩)⟩)⟩)⟩)⟩)⟩)⟩)⟩)⟩)⟩)
def mM_undo : Mt := (⟨"HerbWatersModel", "undo", "(I)I"⟩, prog_14_method_65_code, 4, some .int)
theorem ok_M_undo : Mok mM_undo := ⟨gtb_mem 2123 (by decide +kernel) rfl, gtb_mem 107 (by decide +kernel) rfl, by decide +kernel, by decide⟩
def bM_undo_0 : List Ir := [iLA0, iC0, (iPI 123 11 0), iLA0, iLI1, iC1, (iBP 99), (iCS3 157 mM_in), (iIFne (7) 20)]
def bM_undo_16 : List Ir := [iC1, (iGO (4) 21)]
def bM_undo_20 : List Ir := [iC0]
def bM_undo_21 : List Ir := [iC1, iC1, (iCV3 221 11 mM_bad), (iIFeq (5) 31)]
def bM_undo_29 : List Ir := [iC0, iRI]
def bM_undo_31 : List Ir := [iLI1, iLA0, (iGI 250 11 39), (iCS2 303 mM_less), iSI2, iLI2, (iIFne (5) 46)]
def bM_undo_44 : List Ir := [iC0, iRI]
def bM_undo_46 : List Ir := [iLA0, iDUPr, (iGI 250 11 39), iLI2, iSUB, (iPI 250 11 39), iLA0, (iGR 80 11 33), iLA0, (iGR 77 11 32), (iCS2 231 mM_copies), iLA0, (iCV0 353 11 mM_asNow), iC0, iSI3]
def bM_undo_73 : List Ir := [iLI3, iLA0, (iGI 250 11 39), (iICge (17) 95)]
def bM_undo_81 : List Ir := [iLA0, iLA0, (iGR 77 11 32), (iCV1 356 11 mM_steps), (iINC3 1), (iGO (-19) 73)]
def bM_undo_95 : List Ir := [iLI2, iRI]
def tM_undo : Tb := [(0, bM_undo_0, 16), (16, bM_undo_16, 20), (20, bM_undo_20, 21), (21, bM_undo_21, 29), (29, bM_undo_29, 31), (31, bM_undo_31, 44), (44, bM_undo_44, 46), (46, bM_undo_46, 73), (73, bM_undo_73, 81), (81, bM_undo_81, 95), (95, bM_undo_95, 97)]
theorem fM_undo_0 : tbf tM_undo 0 = some (bM_undo_0, 16) := rfl
theorem fM_undo_16 : tbf tM_undo 16 = some (bM_undo_16, 20) := rfl
theorem fM_undo_20 : tbf tM_undo 20 = some (bM_undo_20, 21) := rfl
theorem fM_undo_21 : tbf tM_undo 21 = some (bM_undo_21, 29) := rfl
theorem fM_undo_29 : tbf tM_undo 29 = some (bM_undo_29, 31) := rfl
theorem fM_undo_31 : tbf tM_undo 31 = some (bM_undo_31, 44) := rfl
theorem fM_undo_44 : tbf tM_undo 44 = some (bM_undo_44, 46) := rfl
theorem fM_undo_46 : tbf tM_undo 46 = some (bM_undo_46, 73) := rfl
theorem fM_undo_73 : tbf tM_undo 73 = some (bM_undo_73, 81) := rfl
theorem fM_undo_81 : tbf tM_undo 81 = some (bM_undo_81, 95) := rfl
theorem fM_undo_95 : tbf tM_undo 95 = some (bM_undo_95, 97) := rfl
theorem kM_undo_0 : Bok "HerbWatersModel" prog_14_method_65_code (0, bM_undo_0, 16) := ⟨by decide +kernel, (List.forall_mem_cons.mpr ⟨sLA0, (List.forall_mem_cons.mpr ⟨sC0, (List.forall_mem_cons.mpr ⟨lM_p123, (List.forall_mem_cons.mpr ⟨sLA0, (List.forall_mem_cons.mpr ⟨sLI1, (List.forall_mem_cons.mpr ⟨sC1, (List.forall_mem_cons.mpr ⟨sBP, (List.forall_mem_cons.mpr ⟨lM_s157, (List.forall_mem_cons.mpr ⟨sIFne, (fun _ h => absurd h List.not_mem_nil)⟩)⟩)⟩)⟩)⟩)⟩)⟩)⟩)⟩)⟩
theorem kM_undo_16 : Bok "HerbWatersModel" prog_14_method_65_code (16, bM_undo_16, 20) := ⟨by decide +kernel, (List.forall_mem_cons.mpr ⟨sC1, (List.forall_mem_cons.mpr ⟨sGO, (fun _ h => absurd h List.not_mem_nil)⟩)⟩)⟩
theorem kM_undo_20 : Bok "HerbWatersModel" prog_14_method_65_code (20, bM_undo_20, 21) := ⟨by decide +kernel, (List.forall_mem_cons.mpr ⟨sC0, (fun _ h => absurd h List.not_mem_nil)⟩)⟩
theorem kM_undo_21 : Bok "HerbWatersModel" prog_14_method_65_code (21, bM_undo_21, 29) := ⟨by decide +kernel, (List.forall_mem_cons.mpr ⟨sC1, (List.forall_mem_cons.mpr ⟨sC1, (List.forall_mem_cons.mpr ⟨lM_v221, (List.forall_mem_cons.mpr ⟨sIFeq, (fun _ h => absurd h List.not_mem_nil)⟩)⟩)⟩)⟩)⟩
theorem kM_undo_29 : Bok "HerbWatersModel" prog_14_method_65_code (29, bM_undo_29, 31) := ⟨by decide +kernel, (List.forall_mem_cons.mpr ⟨sC0, (List.forall_mem_cons.mpr ⟨sRI, (fun _ h => absurd h List.not_mem_nil)⟩)⟩)⟩
theorem kM_undo_31 : Bok "HerbWatersModel" prog_14_method_65_code (31, bM_undo_31, 44) := ⟨by decide +kernel, (List.forall_mem_cons.mpr ⟨sLI1, (List.forall_mem_cons.mpr ⟨sLA0, (List.forall_mem_cons.mpr ⟨lM_g250, (List.forall_mem_cons.mpr ⟨lM_s303, (List.forall_mem_cons.mpr ⟨sSI2, (List.forall_mem_cons.mpr ⟨sLI2, (List.forall_mem_cons.mpr ⟨sIFne, (fun _ h => absurd h List.not_mem_nil)⟩)⟩)⟩)⟩)⟩)⟩)⟩)⟩
theorem kM_undo_44 : Bok "HerbWatersModel" prog_14_method_65_code (44, bM_undo_44, 46) := ⟨by decide +kernel, (List.forall_mem_cons.mpr ⟨sC0, (List.forall_mem_cons.mpr ⟨sRI, (fun _ h => absurd h List.not_mem_nil)⟩)⟩)⟩
theorem kM_undo_46 : Bok "HerbWatersModel" prog_14_method_65_code (46, bM_undo_46, 73) := ⟨by decide +kernel, (List.forall_mem_cons.mpr ⟨sLA0, (List.forall_mem_cons.mpr ⟨sDUPr, (List.forall_mem_cons.mpr ⟨lM_g250, (List.forall_mem_cons.mpr ⟨sLI2, (List.forall_mem_cons.mpr ⟨sSUB, (List.forall_mem_cons.mpr ⟨lM_p250, (List.forall_mem_cons.mpr ⟨sLA0, (List.forall_mem_cons.mpr ⟨lM_g80, (List.forall_mem_cons.mpr ⟨sLA0, (List.forall_mem_cons.mpr ⟨lM_g77, (List.forall_mem_cons.mpr ⟨lM_s231, (List.forall_mem_cons.mpr ⟨sLA0, (List.forall_mem_cons.mpr ⟨lM_v353, (List.forall_mem_cons.mpr ⟨sC0, (List.forall_mem_cons.mpr ⟨sSI3, (fun _ h => absurd h List.not_mem_nil)⟩)⟩)⟩)⟩)⟩)⟩)⟩)⟩)⟩)⟩)⟩)⟩)⟩)⟩)⟩)⟩
theorem kM_undo_73 : Bok "HerbWatersModel" prog_14_method_65_code (73, bM_undo_73, 81) := ⟨by decide +kernel, (List.forall_mem_cons.mpr ⟨sLI3, (List.forall_mem_cons.mpr ⟨sLA0, (List.forall_mem_cons.mpr ⟨lM_g250, (List.forall_mem_cons.mpr ⟨sICge, (fun _ h => absurd h List.not_mem_nil)⟩)⟩)⟩)⟩)⟩
theorem kM_undo_81 : Bok "HerbWatersModel" prog_14_method_65_code (81, bM_undo_81, 95) := ⟨by decide +kernel, (List.forall_mem_cons.mpr ⟨sLA0, (List.forall_mem_cons.mpr ⟨sLA0, (List.forall_mem_cons.mpr ⟨lM_g77, (List.forall_mem_cons.mpr ⟨lM_v356, (List.forall_mem_cons.mpr ⟨sINC3, (List.forall_mem_cons.mpr ⟨sGO, (fun _ h => absurd h List.not_mem_nil)⟩)⟩)⟩)⟩)⟩)⟩)⟩
theorem kM_undo_95 : Bok "HerbWatersModel" prog_14_method_65_code (95, bM_undo_95, 97) := ⟨by decide +kernel, (List.forall_mem_cons.mpr ⟨sLI2, (List.forall_mem_cons.mpr ⟨sRI, (fun _ h => absurd h List.not_mem_nil)⟩)⟩)⟩
theorem kM_undo : ∀ q ∈ tM_undo, Bok "HerbWatersModel" prog_14_method_65_code q := (List.forall_mem_cons.mpr ⟨kM_undo_0, (List.forall_mem_cons.mpr ⟨kM_undo_16, (List.forall_mem_cons.mpr ⟨kM_undo_20, (List.forall_mem_cons.mpr ⟨kM_undo_21, (List.forall_mem_cons.mpr ⟨kM_undo_29, (List.forall_mem_cons.mpr ⟨kM_undo_31, (List.forall_mem_cons.mpr ⟨kM_undo_44, (List.forall_mem_cons.mpr ⟨kM_undo_46, (List.forall_mem_cons.mpr ⟨kM_undo_73, (List.forall_mem_cons.mpr ⟨kM_undo_81, (List.forall_mem_cons.mpr ⟨kM_undo_95, (fun _ h => absurd h List.not_mem_nil)⟩)⟩)⟩)⟩)⟩)⟩)⟩)⟩)⟩)⟩)⟩)
def mM_tap : Mt := (⟨"HerbWatersModel", "tap", "(I)I"⟩, prog_14_method_66_code, 2, some .int)
theorem ok_M_tap : Mok mM_tap := ⟨gtb_mem 2127 (by decide +kernel) rfl, gtb_mem 107 (by decide +kernel) rfl, by decide +kernel, by decide⟩
theorem lM_s360 : Snd "HerbWatersModel" (iCS1 360 mM_viewOf) := sCS1 ok_M_viewOf (gtb_mem 2129 (by decide +kernel) rfl) (gtb_mem 2128 (by decide +kernel) rfl)
def bM_tap_0 : List Ir := [iLA0, iC0, (iPI 123 11 0), iLA0, iLI1, iC0, iC4, (iCS3 157 mM_in), (iIFne (7) 19)]
def bM_tap_15 : List Ir := [iC1, (iGO (4) 20)]
def bM_tap_19 : List Ir := [iC0]
def bM_tap_20 : List Ir := [iC1, iC1, (iCV3 221 11 mM_bad), (iIFeq (5) 30)]
def bM_tap_28 : List Ir := [iC0, iRI]
def bM_tap_30 : List Ir := [iLI1, iC4, (iICge (16) 48)]
def bM_tap_35 : List Ir := [iLA0, (iGR 77 11 32), (iSP 497), iLI1, iADD, iIALD, (iGO (10) 55)]
def bM_tap_48 : List Ir := [iLA0, (iGR 77 11 32), (iCS1 360 mM_viewOf)]
def bM_tap_55 : List Ir := [iRI]
def tM_tap : Tb := [(0, bM_tap_0, 15), (15, bM_tap_15, 19), (19, bM_tap_19, 20), (20, bM_tap_20, 28), (28, bM_tap_28, 30), (30, bM_tap_30, 35), (35, bM_tap_35, 48), (48, bM_tap_48, 55), (55, bM_tap_55, 56)]
theorem fM_tap_0 : tbf tM_tap 0 = some (bM_tap_0, 15) := rfl
theorem fM_tap_15 : tbf tM_tap 15 = some (bM_tap_15, 19) := rfl
theorem fM_tap_19 : tbf tM_tap 19 = some (bM_tap_19, 20) := rfl
theorem fM_tap_20 : tbf tM_tap 20 = some (bM_tap_20, 28) := rfl
theorem fM_tap_28 : tbf tM_tap 28 = some (bM_tap_28, 30) := rfl
theorem fM_tap_30 : tbf tM_tap 30 = some (bM_tap_30, 35) := rfl
theorem fM_tap_35 : tbf tM_tap 35 = some (bM_tap_35, 48) := rfl
theorem fM_tap_48 : tbf tM_tap 48 = some (bM_tap_48, 55) := rfl
theorem fM_tap_55 : tbf tM_tap 55 = some (bM_tap_55, 56) := rfl
theorem kM_tap_0 : Bok "HerbWatersModel" prog_14_method_66_code (0, bM_tap_0, 15) := ⟨by decide +kernel, (List.forall_mem_cons.mpr ⟨sLA0, (List.forall_mem_cons.mpr ⟨sC0, (List.forall_mem_cons.mpr ⟨lM_p123, (List.forall_mem_cons.mpr ⟨sLA0, (List.forall_mem_cons.mpr ⟨sLI1, (List.forall_mem_cons.mpr ⟨sC0, (List.forall_mem_cons.mpr ⟨sC4, (List.forall_mem_cons.mpr ⟨lM_s157, (List.forall_mem_cons.mpr ⟨sIFne, (fun _ h => absurd h List.not_mem_nil)⟩)⟩)⟩)⟩)⟩)⟩)⟩)⟩)⟩)⟩
theorem kM_tap_15 : Bok "HerbWatersModel" prog_14_method_66_code (15, bM_tap_15, 19) := ⟨by decide +kernel, (List.forall_mem_cons.mpr ⟨sC1, (List.forall_mem_cons.mpr ⟨sGO, (fun _ h => absurd h List.not_mem_nil)⟩)⟩)⟩
theorem kM_tap_19 : Bok "HerbWatersModel" prog_14_method_66_code (19, bM_tap_19, 20) := ⟨by decide +kernel, (List.forall_mem_cons.mpr ⟨sC0, (fun _ h => absurd h List.not_mem_nil)⟩)⟩
theorem kM_tap_20 : Bok "HerbWatersModel" prog_14_method_66_code (20, bM_tap_20, 28) := ⟨by decide +kernel, (List.forall_mem_cons.mpr ⟨sC1, (List.forall_mem_cons.mpr ⟨sC1, (List.forall_mem_cons.mpr ⟨lM_v221, (List.forall_mem_cons.mpr ⟨sIFeq, (fun _ h => absurd h List.not_mem_nil)⟩)⟩)⟩)⟩)⟩
theorem kM_tap_28 : Bok "HerbWatersModel" prog_14_method_66_code (28, bM_tap_28, 30) := ⟨by decide +kernel, (List.forall_mem_cons.mpr ⟨sC0, (List.forall_mem_cons.mpr ⟨sRI, (fun _ h => absurd h List.not_mem_nil)⟩)⟩)⟩
theorem kM_tap_30 : Bok "HerbWatersModel" prog_14_method_66_code (30, bM_tap_30, 35) := ⟨by decide +kernel, (List.forall_mem_cons.mpr ⟨sLI1, (List.forall_mem_cons.mpr ⟨sC4, (List.forall_mem_cons.mpr ⟨sICge, (fun _ h => absurd h List.not_mem_nil)⟩)⟩)⟩)⟩
theorem kM_tap_35 : Bok "HerbWatersModel" prog_14_method_66_code (35, bM_tap_35, 48) := ⟨by decide +kernel, (List.forall_mem_cons.mpr ⟨sLA0, (List.forall_mem_cons.mpr ⟨lM_g77, (List.forall_mem_cons.mpr ⟨sSP, (List.forall_mem_cons.mpr ⟨sLI1, (List.forall_mem_cons.mpr ⟨sADD, (List.forall_mem_cons.mpr ⟨sIALD, (List.forall_mem_cons.mpr ⟨sGO, (fun _ h => absurd h List.not_mem_nil)⟩)⟩)⟩)⟩)⟩)⟩)⟩)⟩
theorem kM_tap_48 : Bok "HerbWatersModel" prog_14_method_66_code (48, bM_tap_48, 55) := ⟨by decide +kernel, (List.forall_mem_cons.mpr ⟨sLA0, (List.forall_mem_cons.mpr ⟨lM_g77, (List.forall_mem_cons.mpr ⟨lM_s360, (fun _ h => absurd h List.not_mem_nil)⟩)⟩)⟩)⟩
theorem kM_tap_55 : Bok "HerbWatersModel" prog_14_method_66_code (55, bM_tap_55, 56) := ⟨by decide +kernel, (List.forall_mem_cons.mpr ⟨sRI, (fun _ h => absurd h List.not_mem_nil)⟩)⟩
theorem kM_tap : ∀ q ∈ tM_tap, Bok "HerbWatersModel" prog_14_method_66_code q := (List.forall_mem_cons.mpr ⟨kM_tap_0, (List.forall_mem_cons.mpr ⟨kM_tap_15, (List.forall_mem_cons.mpr ⟨kM_tap_19, (List.forall_mem_cons.mpr ⟨kM_tap_20, (List.forall_mem_cons.mpr ⟨kM_tap_28, (List.forall_mem_cons.mpr ⟨kM_tap_30, (List.forall_mem_cons.mpr ⟨kM_tap_35, (List.forall_mem_cons.mpr ⟨kM_tap_48, (List.forall_mem_cons.mpr ⟨kM_tap_55, (fun _ h => absurd h List.not_mem_nil)⟩)⟩)⟩)⟩)⟩)⟩)⟩)⟩)⟩)
def mM_sums : Mt := (⟨"HerbWatersModel", "sums", "(I)I"⟩, prog_14_method_67_code, 4, some .int)
theorem ok_M_sums : Mok mM_sums := ⟨gtb_mem 2134 (by decide +kernel) rfl, gtb_mem 107 (by decide +kernel) rfl, by decide +kernel, by decide⟩
def bM_sums_0 : List Ir := [iLA0, iC0, (iPI 123 11 0), iLA0, iLI1, iC0, iC4, (iCS3 157 mM_in), (iIFne (7) 19)]
def bM_sums_15 : List Ir := [iC1, (iGO (4) 20)]
def bM_sums_19 : List Ir := [iC0]
def bM_sums_20 : List Ir := [iC1, iC1, (iCV3 221 11 mM_bad), (iIFeq (5) 30)]
def bM_sums_28 : List Ir := [iC0, iRI]
def bM_sums_30 : List Ir := [iC0, iSI2, iLI1, (iIFne (30) 63)]
def bM_sums_36 : List Ir := [iC0, iSI3]
def bM_sums_38 : List Ir := [iLI3, (iBP 27), (iICge (22) 63)]
def bM_sums_44 : List Ir := [iLI2, iLA0, (iGR 77 11 32), (iSP 441), iLI3, iADD, iIALD, iADD, iSI2, (iINC3 1), (iGO (-22) 38)]
def bM_sums_63 : List Ir := [iLI1, iC1, (iICne (30) 95)]
def bM_sums_68 : List Ir := [iC0, iSI3]
def bM_sums_70 : List Ir := [iLI3, (iBP 27), (iICge (22) 95)]
def bM_sums_76 : List Ir := [iLI2, iLA0, (iGR 77 11 32), (iSP 468), iLI3, iADD, iIALD, iADD, iSI2, (iINC3 1), (iGO (-22) 70)]
def bM_sums_95 : List Ir := [iLI1, iC2, (iICne (12) 109)]
def bM_sums_100 : List Ir := [iLA0, (iGR 77 11 32), (iSP 495), iIALD, iSI2]
def bM_sums_109 : List Ir := [iLI1, iC3, (iICne (12) 123)]
def bM_sums_114 : List Ir := [iLA0, (iGR 77 11 32), (iSP 496), iIALD, iSI2]
def bM_sums_123 : List Ir := [iLI1, iC4, (iICne (28) 153)]
def bM_sums_128 : List Ir := [(iBP 9), iSI3]
def bM_sums_131 : List Ir := [iLI3, (iSP 252), (iICge (18) 153)]
def bM_sums_138 : List Ir := [iLI2, iLA0, (iGR 77 11 32), iLI3, iIALD, iADD, iSI2, (iINC3 1), (iGO (-19) 131)]
def bM_sums_153 : List Ir := [iLI2, iRI]
def tM_sums : Tb := [(0, bM_sums_0, 15), (15, bM_sums_15, 19), (19, bM_sums_19, 20), (20, bM_sums_20, 28), (28, bM_sums_28, 30), (30, bM_sums_30, 36), (36, bM_sums_36, 38), (38, bM_sums_38, 44), (44, bM_sums_44, 63), (63, bM_sums_63, 68), (68, bM_sums_68, 70), (70, bM_sums_70, 76), (76, bM_sums_76, 95), (95, bM_sums_95, 100), (100, bM_sums_100, 109), (109, bM_sums_109, 114), (114, bM_sums_114, 123), (123, bM_sums_123, 128), (128, bM_sums_128, 131), (131, bM_sums_131, 138), (138, bM_sums_138, 153), (153, bM_sums_153, 155)]
theorem fM_sums_0 : tbf tM_sums 0 = some (bM_sums_0, 15) := rfl
theorem fM_sums_15 : tbf tM_sums 15 = some (bM_sums_15, 19) := rfl
theorem fM_sums_19 : tbf tM_sums 19 = some (bM_sums_19, 20) := rfl
theorem fM_sums_20 : tbf tM_sums 20 = some (bM_sums_20, 28) := rfl
theorem fM_sums_28 : tbf tM_sums 28 = some (bM_sums_28, 30) := rfl
theorem fM_sums_30 : tbf tM_sums 30 = some (bM_sums_30, 36) := rfl
theorem fM_sums_36 : tbf tM_sums 36 = some (bM_sums_36, 38) := rfl
theorem fM_sums_38 : tbf tM_sums 38 = some (bM_sums_38, 44) := rfl
theorem fM_sums_44 : tbf tM_sums 44 = some (bM_sums_44, 63) := rfl
theorem fM_sums_63 : tbf tM_sums 63 = some (bM_sums_63, 68) := rfl
theorem fM_sums_68 : tbf tM_sums 68 = some (bM_sums_68, 70) := rfl
theorem fM_sums_70 : tbf tM_sums 70 = some (bM_sums_70, 76) := rfl
theorem fM_sums_76 : tbf tM_sums 76 = some (bM_sums_76, 95) := rfl
theorem fM_sums_95 : tbf tM_sums 95 = some (bM_sums_95, 100) := rfl
theorem fM_sums_100 : tbf tM_sums 100 = some (bM_sums_100, 109) := rfl
theorem fM_sums_109 : tbf tM_sums 109 = some (bM_sums_109, 114) := rfl
theorem fM_sums_114 : tbf tM_sums 114 = some (bM_sums_114, 123) := rfl
theorem fM_sums_123 : tbf tM_sums 123 = some (bM_sums_123, 128) := rfl
theorem fM_sums_128 : tbf tM_sums 128 = some (bM_sums_128, 131) := rfl
theorem fM_sums_131 : tbf tM_sums 131 = some (bM_sums_131, 138) := rfl
theorem fM_sums_138 : tbf tM_sums 138 = some (bM_sums_138, 153) := rfl
theorem fM_sums_153 : tbf tM_sums 153 = some (bM_sums_153, 155) := rfl
theorem kM_sums_0 : Bok "HerbWatersModel" prog_14_method_67_code (0, bM_sums_0, 15) := ⟨by decide +kernel, (List.forall_mem_cons.mpr ⟨sLA0, (List.forall_mem_cons.mpr ⟨sC0, (List.forall_mem_cons.mpr ⟨lM_p123, (List.forall_mem_cons.mpr ⟨sLA0, (List.forall_mem_cons.mpr ⟨sLI1, (List.forall_mem_cons.mpr ⟨sC0, (List.forall_mem_cons.mpr ⟨sC4, (List.forall_mem_cons.mpr ⟨lM_s157, (List.forall_mem_cons.mpr ⟨sIFne, (fun _ h => absurd h List.not_mem_nil)⟩)⟩)⟩)⟩)⟩)⟩)⟩)⟩)⟩)⟩
theorem kM_sums_15 : Bok "HerbWatersModel" prog_14_method_67_code (15, bM_sums_15, 19) := ⟨by decide +kernel, (List.forall_mem_cons.mpr ⟨sC1, (List.forall_mem_cons.mpr ⟨sGO, (fun _ h => absurd h List.not_mem_nil)⟩)⟩)⟩
theorem kM_sums_19 : Bok "HerbWatersModel" prog_14_method_67_code (19, bM_sums_19, 20) := ⟨by decide +kernel, (List.forall_mem_cons.mpr ⟨sC0, (fun _ h => absurd h List.not_mem_nil)⟩)⟩
theorem kM_sums_20 : Bok "HerbWatersModel" prog_14_method_67_code (20, bM_sums_20, 28) := ⟨by decide +kernel, (List.forall_mem_cons.mpr ⟨sC1, (List.forall_mem_cons.mpr ⟨sC1, (List.forall_mem_cons.mpr ⟨lM_v221, (List.forall_mem_cons.mpr ⟨sIFeq, (fun _ h => absurd h List.not_mem_nil)⟩)⟩)⟩)⟩)⟩
theorem kM_sums_28 : Bok "HerbWatersModel" prog_14_method_67_code (28, bM_sums_28, 30) := ⟨by decide +kernel, (List.forall_mem_cons.mpr ⟨sC0, (List.forall_mem_cons.mpr ⟨sRI, (fun _ h => absurd h List.not_mem_nil)⟩)⟩)⟩
theorem kM_sums_30 : Bok "HerbWatersModel" prog_14_method_67_code (30, bM_sums_30, 36) := ⟨by decide +kernel, (List.forall_mem_cons.mpr ⟨sC0, (List.forall_mem_cons.mpr ⟨sSI2, (List.forall_mem_cons.mpr ⟨sLI1, (List.forall_mem_cons.mpr ⟨sIFne, (fun _ h => absurd h List.not_mem_nil)⟩)⟩)⟩)⟩)⟩
theorem kM_sums_36 : Bok "HerbWatersModel" prog_14_method_67_code (36, bM_sums_36, 38) := ⟨by decide +kernel, (List.forall_mem_cons.mpr ⟨sC0, (List.forall_mem_cons.mpr ⟨sSI3, (fun _ h => absurd h List.not_mem_nil)⟩)⟩)⟩
theorem kM_sums_38 : Bok "HerbWatersModel" prog_14_method_67_code (38, bM_sums_38, 44) := ⟨by decide +kernel, (List.forall_mem_cons.mpr ⟨sLI3, (List.forall_mem_cons.mpr ⟨sBP, (List.forall_mem_cons.mpr ⟨sICge, (fun _ h => absurd h List.not_mem_nil)⟩)⟩)⟩)⟩
theorem kM_sums_44 : Bok "HerbWatersModel" prog_14_method_67_code (44, bM_sums_44, 63) := ⟨by decide +kernel, (List.forall_mem_cons.mpr ⟨sLI2, (List.forall_mem_cons.mpr ⟨sLA0, (List.forall_mem_cons.mpr ⟨lM_g77, (List.forall_mem_cons.mpr ⟨sSP, (List.forall_mem_cons.mpr ⟨sLI3, (List.forall_mem_cons.mpr ⟨sADD, (List.forall_mem_cons.mpr ⟨sIALD, (List.forall_mem_cons.mpr ⟨sADD, (List.forall_mem_cons.mpr ⟨sSI2, (List.forall_mem_cons.mpr ⟨sINC3, (List.forall_mem_cons.mpr ⟨sGO, (fun _ h => absurd h List.not_mem_nil)⟩)⟩)⟩)⟩)⟩)⟩)⟩)⟩)⟩)⟩)⟩)⟩
theorem kM_sums_63 : Bok "HerbWatersModel" prog_14_method_67_code (63, bM_sums_63, 68) := ⟨by decide +kernel, (List.forall_mem_cons.mpr ⟨sLI1, (List.forall_mem_cons.mpr ⟨sC1, (List.forall_mem_cons.mpr ⟨sICne, (fun _ h => absurd h List.not_mem_nil)⟩)⟩)⟩)⟩
theorem kM_sums_68 : Bok "HerbWatersModel" prog_14_method_67_code (68, bM_sums_68, 70) := ⟨by decide +kernel, (List.forall_mem_cons.mpr ⟨sC0, (List.forall_mem_cons.mpr ⟨sSI3, (fun _ h => absurd h List.not_mem_nil)⟩)⟩)⟩
theorem kM_sums_70 : Bok "HerbWatersModel" prog_14_method_67_code (70, bM_sums_70, 76) := ⟨by decide +kernel, (List.forall_mem_cons.mpr ⟨sLI3, (List.forall_mem_cons.mpr ⟨sBP, (List.forall_mem_cons.mpr ⟨sICge, (fun _ h => absurd h List.not_mem_nil)⟩)⟩)⟩)⟩
theorem kM_sums_76 : Bok "HerbWatersModel" prog_14_method_67_code (76, bM_sums_76, 95) := ⟨by decide +kernel, (List.forall_mem_cons.mpr ⟨sLI2, (List.forall_mem_cons.mpr ⟨sLA0, (List.forall_mem_cons.mpr ⟨lM_g77, (List.forall_mem_cons.mpr ⟨sSP, (List.forall_mem_cons.mpr ⟨sLI3, (List.forall_mem_cons.mpr ⟨sADD, (List.forall_mem_cons.mpr ⟨sIALD, (List.forall_mem_cons.mpr ⟨sADD, (List.forall_mem_cons.mpr ⟨sSI2, (List.forall_mem_cons.mpr ⟨sINC3, (List.forall_mem_cons.mpr ⟨sGO, (fun _ h => absurd h List.not_mem_nil)⟩)⟩)⟩)⟩)⟩)⟩)⟩)⟩)⟩)⟩)⟩)⟩
theorem kM_sums_95 : Bok "HerbWatersModel" prog_14_method_67_code (95, bM_sums_95, 100) := ⟨by decide +kernel, (List.forall_mem_cons.mpr ⟨sLI1, (List.forall_mem_cons.mpr ⟨sC2, (List.forall_mem_cons.mpr ⟨sICne, (fun _ h => absurd h List.not_mem_nil)⟩)⟩)⟩)⟩
theorem kM_sums_100 : Bok "HerbWatersModel" prog_14_method_67_code (100, bM_sums_100, 109) := ⟨by decide +kernel, (List.forall_mem_cons.mpr ⟨sLA0, (List.forall_mem_cons.mpr ⟨lM_g77, (List.forall_mem_cons.mpr ⟨sSP, (List.forall_mem_cons.mpr ⟨sIALD, (List.forall_mem_cons.mpr ⟨sSI2, (fun _ h => absurd h List.not_mem_nil)⟩)⟩)⟩)⟩)⟩)⟩
theorem kM_sums_109 : Bok "HerbWatersModel" prog_14_method_67_code (109, bM_sums_109, 114) := ⟨by decide +kernel, (List.forall_mem_cons.mpr ⟨sLI1, (List.forall_mem_cons.mpr ⟨sC3, (List.forall_mem_cons.mpr ⟨sICne, (fun _ h => absurd h List.not_mem_nil)⟩)⟩)⟩)⟩
theorem kM_sums_114 : Bok "HerbWatersModel" prog_14_method_67_code (114, bM_sums_114, 123) := ⟨by decide +kernel, (List.forall_mem_cons.mpr ⟨sLA0, (List.forall_mem_cons.mpr ⟨lM_g77, (List.forall_mem_cons.mpr ⟨sSP, (List.forall_mem_cons.mpr ⟨sIALD, (List.forall_mem_cons.mpr ⟨sSI2, (fun _ h => absurd h List.not_mem_nil)⟩)⟩)⟩)⟩)⟩)⟩
theorem kM_sums_123 : Bok "HerbWatersModel" prog_14_method_67_code (123, bM_sums_123, 128) := ⟨by decide +kernel, (List.forall_mem_cons.mpr ⟨sLI1, (List.forall_mem_cons.mpr ⟨sC4, (List.forall_mem_cons.mpr ⟨sICne, (fun _ h => absurd h List.not_mem_nil)⟩)⟩)⟩)⟩
theorem kM_sums_128 : Bok "HerbWatersModel" prog_14_method_67_code (128, bM_sums_128, 131) := ⟨by decide +kernel, (List.forall_mem_cons.mpr ⟨sBP, (List.forall_mem_cons.mpr ⟨sSI3, (fun _ h => absurd h List.not_mem_nil)⟩)⟩)⟩
theorem kM_sums_131 : Bok "HerbWatersModel" prog_14_method_67_code (131, bM_sums_131, 138) := ⟨by decide +kernel, (List.forall_mem_cons.mpr ⟨sLI3, (List.forall_mem_cons.mpr ⟨sSP, (List.forall_mem_cons.mpr ⟨sICge, (fun _ h => absurd h List.not_mem_nil)⟩)⟩)⟩)⟩
theorem kM_sums_138 : Bok "HerbWatersModel" prog_14_method_67_code (138, bM_sums_138, 153) := ⟨by decide +kernel, (List.forall_mem_cons.mpr ⟨sLI2, (List.forall_mem_cons.mpr ⟨sLA0, (List.forall_mem_cons.mpr ⟨lM_g77, (List.forall_mem_cons.mpr ⟨sLI3, (List.forall_mem_cons.mpr ⟨sIALD, (List.forall_mem_cons.mpr ⟨sADD, (List.forall_mem_cons.mpr ⟨sSI2, (List.forall_mem_cons.mpr ⟨sINC3, (List.forall_mem_cons.mpr ⟨sGO, (fun _ h => absurd h List.not_mem_nil)⟩)⟩)⟩)⟩)⟩)⟩)⟩)⟩)⟩)⟩
theorem kM_sums_153 : Bok "HerbWatersModel" prog_14_method_67_code (153, bM_sums_153, 155) := ⟨by decide +kernel, (List.forall_mem_cons.mpr ⟨sLI2, (List.forall_mem_cons.mpr ⟨sRI, (fun _ h => absurd h List.not_mem_nil)⟩)⟩)⟩
theorem kM_sums : ∀ q ∈ tM_sums, Bok "HerbWatersModel" prog_14_method_67_code q := (List.forall_mem_cons.mpr ⟨kM_sums_0, (List.forall_mem_cons.mpr ⟨kM_sums_15, (List.forall_mem_cons.mpr ⟨kM_sums_19, (List.forall_mem_cons.mpr ⟨kM_sums_20, (List.forall_mem_cons.mpr ⟨kM_sums_28, (List.forall_mem_cons.mpr ⟨kM_sums_30, (List.forall_mem_cons.mpr ⟨kM_sums_36, (List.forall_mem_cons.mpr ⟨kM_sums_38, (List.forall_mem_cons.mpr ⟨kM_sums_44, (List.forall_mem_cons.mpr ⟨kM_sums_63, (List.forall_mem_cons.mpr ⟨kM_sums_68, (List.forall_mem_cons.mpr ⟨kM_sums_70, (List.forall_mem_cons.mpr ⟨kM_sums_76, (List.forall_mem_cons.mpr ⟨kM_sums_95, (List.forall_mem_cons.mpr ⟨kM_sums_100, (List.forall_mem_cons.mpr ⟨kM_sums_109, (List.forall_mem_cons.mpr ⟨kM_sums_114, (List.forall_mem_cons.mpr ⟨kM_sums_123, (List.forall_mem_cons.mpr ⟨kM_sums_128, (List.forall_mem_cons.mpr ⟨kM_sums_131, (List.forall_mem_cons.mpr ⟨kM_sums_138, (List.forall_mem_cons.mpr ⟨kM_sums_153, (fun _ h => absurd h List.not_mem_nil)⟩)⟩)⟩)⟩)⟩)⟩)⟩)⟩)⟩)⟩)⟩)⟩)⟩)⟩)⟩)⟩)⟩)⟩)⟩)⟩)⟩)⟩)
def mM_put : Mt := (⟨"HerbWatersModel", "put", "(II)I"⟩, prog_14_method_68_code, 3, some .int)
theorem ok_M_put : Mok mM_put := ⟨gtb_mem 2138 (by decide +kernel) rfl, gtb_mem 107 (by decide +kernel) rfl, by decide +kernel, by decide⟩
def bM_put_0 : List Ir := [iLA0, iC0, (iPI 123 11 0), iLA0, iLA0, iLI1, (iCV1 290 11 mM_isVillage), (iIFne (7) 18)]
def bM_put_14 : List Ir := [iC1, (iGO (4) 19)]
def bM_put_18 : List Ir := [iC0]
def bM_put_19 : List Ir := [iC1, iC0, (iCV3 221 11 mM_bad), (iIFne (26) 50)]
def bM_put_27 : List Ir := [iLA0, iLI2, iC0, iC5, (iCS3 157 mM_in), (iIFne (7) 41)]
def bM_put_37 : List Ir := [iC1, (iGO (4) 42)]
def bM_put_41 : List Ir := [iC0]
def bM_put_42 : List Ir := [iC2, iC1, (iCV3 221 11 mM_bad), (iIFeq (5) 52)]
def bM_put_50 : List Ir := [iC0, iRI]
def bM_put_52 : List Ir := [iLI2, iC3, (iICge (20) 74)]
def bM_put_57 : List Ir := [iLA0, (iGR 77 11 32), (iSP 441), iC3, iLI1, iMUL, iADD, iLI2, iADD, iIALD, (iGO (19) 90)]
def bM_put_74 : List Ir := [iLA0, (iGR 77 11 32), (iSP 468), iC3, iLI1, iMUL, iADD, iLI2, iADD, iC3, iSUB, iIALD]
def bM_put_90 : List Ir := [iRI]
def tM_put : Tb := [(0, bM_put_0, 14), (14, bM_put_14, 18), (18, bM_put_18, 19), (19, bM_put_19, 27), (27, bM_put_27, 37), (37, bM_put_37, 41), (41, bM_put_41, 42), (42, bM_put_42, 50), (50, bM_put_50, 52), (52, bM_put_52, 57), (57, bM_put_57, 74), (74, bM_put_74, 90), (90, bM_put_90, 91)]
theorem fM_put_0 : tbf tM_put 0 = some (bM_put_0, 14) := rfl
theorem fM_put_14 : tbf tM_put 14 = some (bM_put_14, 18) := rfl
theorem fM_put_18 : tbf tM_put 18 = some (bM_put_18, 19) := rfl
theorem fM_put_19 : tbf tM_put 19 = some (bM_put_19, 27) := rfl
theorem fM_put_27 : tbf tM_put 27 = some (bM_put_27, 37) := rfl
theorem fM_put_37 : tbf tM_put 37 = some (bM_put_37, 41) := rfl
theorem fM_put_41 : tbf tM_put 41 = some (bM_put_41, 42) := rfl
theorem fM_put_42 : tbf tM_put 42 = some (bM_put_42, 50) := rfl
theorem fM_put_50 : tbf tM_put 50 = some (bM_put_50, 52) := rfl
theorem fM_put_52 : tbf tM_put 52 = some (bM_put_52, 57) := rfl
theorem fM_put_57 : tbf tM_put 57 = some (bM_put_57, 74) := rfl
theorem fM_put_74 : tbf tM_put 74 = some (bM_put_74, 90) := rfl
theorem fM_put_90 : tbf tM_put 90 = some (bM_put_90, 91) := rfl
theorem kM_put_0 : Bok "HerbWatersModel" prog_14_method_68_code (0, bM_put_0, 14) := ⟨by decide +kernel, (List.forall_mem_cons.mpr ⟨sLA0, (List.forall_mem_cons.mpr ⟨sC0, (List.forall_mem_cons.mpr ⟨lM_p123, (List.forall_mem_cons.mpr ⟨sLA0, (List.forall_mem_cons.mpr ⟨sLA0, (List.forall_mem_cons.mpr ⟨sLI1, (List.forall_mem_cons.mpr ⟨lM_v290, (List.forall_mem_cons.mpr ⟨sIFne, (fun _ h => absurd h List.not_mem_nil)⟩)⟩)⟩)⟩)⟩)⟩)⟩)⟩)⟩
theorem kM_put_14 : Bok "HerbWatersModel" prog_14_method_68_code (14, bM_put_14, 18) := ⟨by decide +kernel, (List.forall_mem_cons.mpr ⟨sC1, (List.forall_mem_cons.mpr ⟨sGO, (fun _ h => absurd h List.not_mem_nil)⟩)⟩)⟩
theorem kM_put_18 : Bok "HerbWatersModel" prog_14_method_68_code (18, bM_put_18, 19) := ⟨by decide +kernel, (List.forall_mem_cons.mpr ⟨sC0, (fun _ h => absurd h List.not_mem_nil)⟩)⟩
theorem kM_put_19 : Bok "HerbWatersModel" prog_14_method_68_code (19, bM_put_19, 27) := ⟨by decide +kernel, (List.forall_mem_cons.mpr ⟨sC1, (List.forall_mem_cons.mpr ⟨sC0, (List.forall_mem_cons.mpr ⟨lM_v221, (List.forall_mem_cons.mpr ⟨sIFne, (fun _ h => absurd h List.not_mem_nil)⟩)⟩)⟩)⟩)⟩
theorem kM_put_27 : Bok "HerbWatersModel" prog_14_method_68_code (27, bM_put_27, 37) := ⟨by decide +kernel, (List.forall_mem_cons.mpr ⟨sLA0, (List.forall_mem_cons.mpr ⟨sLI2, (List.forall_mem_cons.mpr ⟨sC0, (List.forall_mem_cons.mpr ⟨sC5, (List.forall_mem_cons.mpr ⟨lM_s157, (List.forall_mem_cons.mpr ⟨sIFne, (fun _ h => absurd h List.not_mem_nil)⟩)⟩)⟩)⟩)⟩)⟩)⟩
theorem kM_put_37 : Bok "HerbWatersModel" prog_14_method_68_code (37, bM_put_37, 41) := ⟨by decide +kernel, (List.forall_mem_cons.mpr ⟨sC1, (List.forall_mem_cons.mpr ⟨sGO, (fun _ h => absurd h List.not_mem_nil)⟩)⟩)⟩
theorem kM_put_41 : Bok "HerbWatersModel" prog_14_method_68_code (41, bM_put_41, 42) := ⟨by decide +kernel, (List.forall_mem_cons.mpr ⟨sC0, (fun _ h => absurd h List.not_mem_nil)⟩)⟩
theorem kM_put_42 : Bok "HerbWatersModel" prog_14_method_68_code (42, bM_put_42, 50) := ⟨by decide +kernel, (List.forall_mem_cons.mpr ⟨sC2, (List.forall_mem_cons.mpr ⟨sC1, (List.forall_mem_cons.mpr ⟨lM_v221, (List.forall_mem_cons.mpr ⟨sIFeq, (fun _ h => absurd h List.not_mem_nil)⟩)⟩)⟩)⟩)⟩
theorem kM_put_50 : Bok "HerbWatersModel" prog_14_method_68_code (50, bM_put_50, 52) := ⟨by decide +kernel, (List.forall_mem_cons.mpr ⟨sC0, (List.forall_mem_cons.mpr ⟨sRI, (fun _ h => absurd h List.not_mem_nil)⟩)⟩)⟩
theorem kM_put_52 : Bok "HerbWatersModel" prog_14_method_68_code (52, bM_put_52, 57) := ⟨by decide +kernel, (List.forall_mem_cons.mpr ⟨sLI2, (List.forall_mem_cons.mpr ⟨sC3, (List.forall_mem_cons.mpr ⟨sICge, (fun _ h => absurd h List.not_mem_nil)⟩)⟩)⟩)⟩
theorem kM_put_57 : Bok "HerbWatersModel" prog_14_method_68_code (57, bM_put_57, 74) := ⟨by decide +kernel, (List.forall_mem_cons.mpr ⟨sLA0, (List.forall_mem_cons.mpr ⟨lM_g77, (List.forall_mem_cons.mpr ⟨sSP, (List.forall_mem_cons.mpr ⟨sC3, (List.forall_mem_cons.mpr ⟨sLI1, (List.forall_mem_cons.mpr ⟨sMUL, (List.forall_mem_cons.mpr ⟨sADD, (List.forall_mem_cons.mpr ⟨sLI2, (List.forall_mem_cons.mpr ⟨sADD, (List.forall_mem_cons.mpr ⟨sIALD, (List.forall_mem_cons.mpr ⟨sGO, (fun _ h => absurd h List.not_mem_nil)⟩)⟩)⟩)⟩)⟩)⟩)⟩)⟩)⟩)⟩)⟩)⟩
theorem kM_put_74 : Bok "HerbWatersModel" prog_14_method_68_code (74, bM_put_74, 90) := ⟨by decide +kernel, (List.forall_mem_cons.mpr ⟨sLA0, (List.forall_mem_cons.mpr ⟨lM_g77, (List.forall_mem_cons.mpr ⟨sSP, (List.forall_mem_cons.mpr ⟨sC3, (List.forall_mem_cons.mpr ⟨sLI1, (List.forall_mem_cons.mpr ⟨sMUL, (List.forall_mem_cons.mpr ⟨sADD, (List.forall_mem_cons.mpr ⟨sLI2, (List.forall_mem_cons.mpr ⟨sADD, (List.forall_mem_cons.mpr ⟨sC3, (List.forall_mem_cons.mpr ⟨sSUB, (List.forall_mem_cons.mpr ⟨sIALD, (fun _ h => absurd h List.not_mem_nil)⟩)⟩)⟩)⟩)⟩)⟩)⟩)⟩)⟩)⟩)⟩)⟩)⟩
theorem kM_put_90 : Bok "HerbWatersModel" prog_14_method_68_code (90, bM_put_90, 91) := ⟨by decide +kernel, (List.forall_mem_cons.mpr ⟨sRI, (fun _ h => absurd h List.not_mem_nil)⟩)⟩
theorem kM_put : ∀ q ∈ tM_put, Bok "HerbWatersModel" prog_14_method_68_code q := (List.forall_mem_cons.mpr ⟨kM_put_0, (List.forall_mem_cons.mpr ⟨kM_put_14, (List.forall_mem_cons.mpr ⟨kM_put_18, (List.forall_mem_cons.mpr ⟨kM_put_19, (List.forall_mem_cons.mpr ⟨kM_put_27, (List.forall_mem_cons.mpr ⟨kM_put_37, (List.forall_mem_cons.mpr ⟨kM_put_41, (List.forall_mem_cons.mpr ⟨kM_put_42, (List.forall_mem_cons.mpr ⟨kM_put_50, (List.forall_mem_cons.mpr ⟨kM_put_52, (List.forall_mem_cons.mpr ⟨kM_put_57, (List.forall_mem_cons.mpr ⟨kM_put_74, (List.forall_mem_cons.mpr ⟨kM_put_90, (fun _ h => absurd h List.not_mem_nil)⟩)⟩)⟩)⟩)⟩)⟩)⟩)⟩)⟩)⟩)⟩)⟩)⟩)
def mM_goesOn : Mt := (⟨"HerbWatersModel", "goesOn", "(I)V"⟩, prog_14_method_69_code, 3, none)
theorem ok_M_goesOn : Mok mM_goesOn := ⟨gtb_mem 2146 (by decide +kernel) rfl, gtb_mem 107 (by decide +kernel) rfl, by decide +kernel, by decide⟩
def bM_goesOn_0 : List Ir := [iLA0, (iGR 77 11 32), iLA0, (iGR 83 11 34), (iCS2 231 mM_copies), iC0, iSI2]
def bM_goesOn_13 : List Ir := [iLI2, iLI1, (iICge (17) 32)]
def bM_goesOn_18 : List Ir := [iLA0, iLA0, (iGR 83 11 34), (iCV1 356 11 mM_steps), (iINC2 1), (iGO (-16) 13)]
def bM_goesOn_32 : List Ir := [iRV]
def tM_goesOn : Tb := [(0, bM_goesOn_0, 13), (13, bM_goesOn_13, 18), (18, bM_goesOn_18, 32), (32, bM_goesOn_32, 33)]
theorem fM_goesOn_0 : tbf tM_goesOn 0 = some (bM_goesOn_0, 13) := rfl
theorem fM_goesOn_13 : tbf tM_goesOn 13 = some (bM_goesOn_13, 18) := rfl
theorem fM_goesOn_18 : tbf tM_goesOn 18 = some (bM_goesOn_18, 32) := rfl
theorem fM_goesOn_32 : tbf tM_goesOn 32 = some (bM_goesOn_32, 33) := rfl
theorem kM_goesOn_0 : Bok "HerbWatersModel" prog_14_method_69_code (0, bM_goesOn_0, 13) := ⟨by decide +kernel, (List.forall_mem_cons.mpr ⟨sLA0, (List.forall_mem_cons.mpr ⟨lM_g77, (List.forall_mem_cons.mpr ⟨sLA0, (List.forall_mem_cons.mpr ⟨lM_g83, (List.forall_mem_cons.mpr ⟨lM_s231, (List.forall_mem_cons.mpr ⟨sC0, (List.forall_mem_cons.mpr ⟨sSI2, (fun _ h => absurd h List.not_mem_nil)⟩)⟩)⟩)⟩)⟩)⟩)⟩)⟩
theorem kM_goesOn_13 : Bok "HerbWatersModel" prog_14_method_69_code (13, bM_goesOn_13, 18) := ⟨by decide +kernel, (List.forall_mem_cons.mpr ⟨sLI2, (List.forall_mem_cons.mpr ⟨sLI1, (List.forall_mem_cons.mpr ⟨sICge, (fun _ h => absurd h List.not_mem_nil)⟩)⟩)⟩)⟩
theorem kM_goesOn_18 : Bok "HerbWatersModel" prog_14_method_69_code (18, bM_goesOn_18, 32) := ⟨by decide +kernel, (List.forall_mem_cons.mpr ⟨sLA0, (List.forall_mem_cons.mpr ⟨sLA0, (List.forall_mem_cons.mpr ⟨lM_g83, (List.forall_mem_cons.mpr ⟨lM_v356, (List.forall_mem_cons.mpr ⟨sINC2, (List.forall_mem_cons.mpr ⟨sGO, (fun _ h => absurd h List.not_mem_nil)⟩)⟩)⟩)⟩)⟩)⟩)⟩
theorem kM_goesOn_32 : Bok "HerbWatersModel" prog_14_method_69_code (32, bM_goesOn_32, 33) := ⟨by decide +kernel, (List.forall_mem_cons.mpr ⟨sRV, (fun _ h => absurd h List.not_mem_nil)⟩)⟩
theorem kM_goesOn : ∀ q ∈ tM_goesOn, Bok "HerbWatersModel" prog_14_method_69_code q := (List.forall_mem_cons.mpr ⟨kM_goesOn_0, (List.forall_mem_cons.mpr ⟨kM_goesOn_13, (List.forall_mem_cons.mpr ⟨kM_goesOn_18, (List.forall_mem_cons.mpr ⟨kM_goesOn_32, (fun _ h => absurd h List.not_mem_nil)⟩)⟩)⟩)⟩)
def mM_view : Mt := (⟨"HerbWatersModel", "view", "(I)I"⟩, prog_14_method_70_code, 2, some .int)
theorem ok_M_view : Mok mM_view := ⟨gtb_mem 2142 (by decide +kernel) rfl, gtb_mem 107 (by decide +kernel) rfl, by decide +kernel, by decide⟩
theorem lM_v364 : Snd "HerbWatersModel" (iCV1 364 11 mM_goesOn) := sCV1 _ rfl rfl ok_M_goesOn (gtb_mem 2145 (by decide +kernel) rfl) (gtb_mem 80 (by decide +kernel) rfl) (gtb_mem 2143 (by decide +kernel) rfl)
def bM_view_0 : List Ir := [iLA0, iC0, (iPI 123 11 0), iLA0, iLI1, iC0, (iBP 99), (iCS3 157 mM_in), (iIFne (7) 20)]
def bM_view_16 : List Ir := [iC1, (iGO (4) 21)]
def bM_view_20 : List Ir := [iC0]
def bM_view_21 : List Ir := [iC1, iC1, (iCV3 221 11 mM_bad), (iIFeq (5) 31)]
def bM_view_29 : List Ir := [iC0, iRI]
def bM_view_31 : List Ir := [iLA0, (iCV0 353 11 mM_asNow), iLA0, iLI1, (iCV1 364 11 mM_goesOn), iLA0, (iGR 83 11 34), (iCS1 360 mM_viewOf), iRI]
def tM_view : Tb := [(0, bM_view_0, 16), (16, bM_view_16, 20), (20, bM_view_20, 21), (21, bM_view_21, 29), (29, bM_view_29, 31), (31, bM_view_31, 48)]
theorem fM_view_0 : tbf tM_view 0 = some (bM_view_0, 16) := rfl
theorem fM_view_16 : tbf tM_view 16 = some (bM_view_16, 20) := rfl
theorem fM_view_20 : tbf tM_view 20 = some (bM_view_20, 21) := rfl
theorem fM_view_21 : tbf tM_view 21 = some (bM_view_21, 29) := rfl
theorem fM_view_29 : tbf tM_view 29 = some (bM_view_29, 31) := rfl
theorem fM_view_31 : tbf tM_view 31 = some (bM_view_31, 48) := rfl
theorem kM_view_0 : Bok "HerbWatersModel" prog_14_method_70_code (0, bM_view_0, 16) := ⟨by decide +kernel, (List.forall_mem_cons.mpr ⟨sLA0, (List.forall_mem_cons.mpr ⟨sC0, (List.forall_mem_cons.mpr ⟨lM_p123, (List.forall_mem_cons.mpr ⟨sLA0, (List.forall_mem_cons.mpr ⟨sLI1, (List.forall_mem_cons.mpr ⟨sC0, (List.forall_mem_cons.mpr ⟨sBP, (List.forall_mem_cons.mpr ⟨lM_s157, (List.forall_mem_cons.mpr ⟨sIFne, (fun _ h => absurd h List.not_mem_nil)⟩)⟩)⟩)⟩)⟩)⟩)⟩)⟩)⟩)⟩
theorem kM_view_16 : Bok "HerbWatersModel" prog_14_method_70_code (16, bM_view_16, 20) := ⟨by decide +kernel, (List.forall_mem_cons.mpr ⟨sC1, (List.forall_mem_cons.mpr ⟨sGO, (fun _ h => absurd h List.not_mem_nil)⟩)⟩)⟩
theorem kM_view_20 : Bok "HerbWatersModel" prog_14_method_70_code (20, bM_view_20, 21) := ⟨by decide +kernel, (List.forall_mem_cons.mpr ⟨sC0, (fun _ h => absurd h List.not_mem_nil)⟩)⟩
theorem kM_view_21 : Bok "HerbWatersModel" prog_14_method_70_code (21, bM_view_21, 29) := ⟨by decide +kernel, (List.forall_mem_cons.mpr ⟨sC1, (List.forall_mem_cons.mpr ⟨sC1, (List.forall_mem_cons.mpr ⟨lM_v221, (List.forall_mem_cons.mpr ⟨sIFeq, (fun _ h => absurd h List.not_mem_nil)⟩)⟩)⟩)⟩)⟩
theorem kM_view_29 : Bok "HerbWatersModel" prog_14_method_70_code (29, bM_view_29, 31) := ⟨by decide +kernel, (List.forall_mem_cons.mpr ⟨sC0, (List.forall_mem_cons.mpr ⟨sRI, (fun _ h => absurd h List.not_mem_nil)⟩)⟩)⟩
theorem kM_view_31 : Bok "HerbWatersModel" prog_14_method_70_code (31, bM_view_31, 48) := ⟨by decide +kernel, (List.forall_mem_cons.mpr ⟨sLA0, (List.forall_mem_cons.mpr ⟨lM_v353, (List.forall_mem_cons.mpr ⟨sLA0, (List.forall_mem_cons.mpr ⟨sLI1, (List.forall_mem_cons.mpr ⟨lM_v364, (List.forall_mem_cons.mpr ⟨sLA0, (List.forall_mem_cons.mpr ⟨lM_g83, (List.forall_mem_cons.mpr ⟨lM_s360, (List.forall_mem_cons.mpr ⟨sRI, (fun _ h => absurd h List.not_mem_nil)⟩)⟩)⟩)⟩)⟩)⟩)⟩)⟩)⟩)⟩
theorem kM_view : ∀ q ∈ tM_view, Bok "HerbWatersModel" prog_14_method_70_code q := (List.forall_mem_cons.mpr ⟨kM_view_0, (List.forall_mem_cons.mpr ⟨kM_view_16, (List.forall_mem_cons.mpr ⟨kM_view_20, (List.forall_mem_cons.mpr ⟨kM_view_21, (List.forall_mem_cons.mpr ⟨kM_view_29, (List.forall_mem_cons.mpr ⟨kM_view_31, (fun _ h => absurd h List.not_mem_nil)⟩)⟩)⟩)⟩)⟩)⟩)
def mM_ahead : Mt := (⟨"HerbWatersModel", "ahead", "(III)I"⟩, prog_14_method_71_code, 4, some .int)
theorem ok_M_ahead : Mok mM_ahead := ⟨gtb_mem 2150 (by decide +kernel) rfl, gtb_mem 107 (by decide +kernel) rfl, by decide +kernel, by decide⟩
def bM_ahead_0 : List Ir := [iLA0, iC0, (iPI 123 11 0), iLA0, iLA0, iLI1, (iCV1 290 11 mM_isVillage), (iIFne (7) 18)]
def bM_ahead_14 : List Ir := [iC1, (iGO (4) 19)]
def bM_ahead_18 : List Ir := [iC0]
def bM_ahead_19 : List Ir := [iC1, iC0, (iCV3 221 11 mM_bad), (iIFne (36) 60)]
def bM_ahead_27 : List Ir := [iLA0, iLI2, iC0, (iBP 99), (iCS3 157 mM_in), (iIFeq (12) 47)]
def bM_ahead_38 : List Ir := [iLI3, iC0, iC3, (iCS3 157 mM_in), (iIFne (7) 51)]
def bM_ahead_47 : List Ir := [iC1, (iGO (4) 52)]
def bM_ahead_51 : List Ir := [iC0]
def bM_ahead_52 : List Ir := [iC2, iC1, (iCV3 221 11 mM_bad), (iIFeq (5) 62)]
def bM_ahead_60 : List Ir := [iC0, iRI]
def bM_ahead_62 : List Ir := [iLA0, (iCV0 353 11 mM_asNow), iLA0, iLI2, (iCV1 364 11 mM_goesOn), iLA0, (iGR 83 11 34), iLI1, iLI3, (iCS3 350 mM_basin), iRI]
def tM_ahead : Tb := [(0, bM_ahead_0, 14), (14, bM_ahead_14, 18), (18, bM_ahead_18, 19), (19, bM_ahead_19, 27), (27, bM_ahead_27, 38), (38, bM_ahead_38, 47), (47, bM_ahead_47, 51), (51, bM_ahead_51, 52), (52, bM_ahead_52, 60), (60, bM_ahead_60, 62), (62, bM_ahead_62, 81)]
theorem fM_ahead_0 : tbf tM_ahead 0 = some (bM_ahead_0, 14) := rfl
theorem fM_ahead_14 : tbf tM_ahead 14 = some (bM_ahead_14, 18) := rfl
theorem fM_ahead_18 : tbf tM_ahead 18 = some (bM_ahead_18, 19) := rfl
theorem fM_ahead_19 : tbf tM_ahead 19 = some (bM_ahead_19, 27) := rfl
theorem fM_ahead_27 : tbf tM_ahead 27 = some (bM_ahead_27, 38) := rfl
theorem fM_ahead_38 : tbf tM_ahead 38 = some (bM_ahead_38, 47) := rfl
theorem fM_ahead_47 : tbf tM_ahead 47 = some (bM_ahead_47, 51) := rfl
theorem fM_ahead_51 : tbf tM_ahead 51 = some (bM_ahead_51, 52) := rfl
theorem fM_ahead_52 : tbf tM_ahead 52 = some (bM_ahead_52, 60) := rfl
theorem fM_ahead_60 : tbf tM_ahead 60 = some (bM_ahead_60, 62) := rfl
theorem fM_ahead_62 : tbf tM_ahead 62 = some (bM_ahead_62, 81) := rfl
theorem kM_ahead_0 : Bok "HerbWatersModel" prog_14_method_71_code (0, bM_ahead_0, 14) := ⟨by decide +kernel, (List.forall_mem_cons.mpr ⟨sLA0, (List.forall_mem_cons.mpr ⟨sC0, (List.forall_mem_cons.mpr ⟨lM_p123, (List.forall_mem_cons.mpr ⟨sLA0, (List.forall_mem_cons.mpr ⟨sLA0, (List.forall_mem_cons.mpr ⟨sLI1, (List.forall_mem_cons.mpr ⟨lM_v290, (List.forall_mem_cons.mpr ⟨sIFne, (fun _ h => absurd h List.not_mem_nil)⟩)⟩)⟩)⟩)⟩)⟩)⟩)⟩)⟩
theorem kM_ahead_14 : Bok "HerbWatersModel" prog_14_method_71_code (14, bM_ahead_14, 18) := ⟨by decide +kernel, (List.forall_mem_cons.mpr ⟨sC1, (List.forall_mem_cons.mpr ⟨sGO, (fun _ h => absurd h List.not_mem_nil)⟩)⟩)⟩
theorem kM_ahead_18 : Bok "HerbWatersModel" prog_14_method_71_code (18, bM_ahead_18, 19) := ⟨by decide +kernel, (List.forall_mem_cons.mpr ⟨sC0, (fun _ h => absurd h List.not_mem_nil)⟩)⟩
theorem kM_ahead_19 : Bok "HerbWatersModel" prog_14_method_71_code (19, bM_ahead_19, 27) := ⟨by decide +kernel, (List.forall_mem_cons.mpr ⟨sC1, (List.forall_mem_cons.mpr ⟨sC0, (List.forall_mem_cons.mpr ⟨lM_v221, (List.forall_mem_cons.mpr ⟨sIFne, (fun _ h => absurd h List.not_mem_nil)⟩)⟩)⟩)⟩)⟩
theorem kM_ahead_27 : Bok "HerbWatersModel" prog_14_method_71_code (27, bM_ahead_27, 38) := ⟨by decide +kernel, (List.forall_mem_cons.mpr ⟨sLA0, (List.forall_mem_cons.mpr ⟨sLI2, (List.forall_mem_cons.mpr ⟨sC0, (List.forall_mem_cons.mpr ⟨sBP, (List.forall_mem_cons.mpr ⟨lM_s157, (List.forall_mem_cons.mpr ⟨sIFeq, (fun _ h => absurd h List.not_mem_nil)⟩)⟩)⟩)⟩)⟩)⟩)⟩
theorem kM_ahead_38 : Bok "HerbWatersModel" prog_14_method_71_code (38, bM_ahead_38, 47) := ⟨by decide +kernel, (List.forall_mem_cons.mpr ⟨sLI3, (List.forall_mem_cons.mpr ⟨sC0, (List.forall_mem_cons.mpr ⟨sC3, (List.forall_mem_cons.mpr ⟨lM_s157, (List.forall_mem_cons.mpr ⟨sIFne, (fun _ h => absurd h List.not_mem_nil)⟩)⟩)⟩)⟩)⟩)⟩
theorem kM_ahead_47 : Bok "HerbWatersModel" prog_14_method_71_code (47, bM_ahead_47, 51) := ⟨by decide +kernel, (List.forall_mem_cons.mpr ⟨sC1, (List.forall_mem_cons.mpr ⟨sGO, (fun _ h => absurd h List.not_mem_nil)⟩)⟩)⟩
theorem kM_ahead_51 : Bok "HerbWatersModel" prog_14_method_71_code (51, bM_ahead_51, 52) := ⟨by decide +kernel, (List.forall_mem_cons.mpr ⟨sC0, (fun _ h => absurd h List.not_mem_nil)⟩)⟩
theorem kM_ahead_52 : Bok "HerbWatersModel" prog_14_method_71_code (52, bM_ahead_52, 60) := ⟨by decide +kernel, (List.forall_mem_cons.mpr ⟨sC2, (List.forall_mem_cons.mpr ⟨sC1, (List.forall_mem_cons.mpr ⟨lM_v221, (List.forall_mem_cons.mpr ⟨sIFeq, (fun _ h => absurd h List.not_mem_nil)⟩)⟩)⟩)⟩)⟩
theorem kM_ahead_60 : Bok "HerbWatersModel" prog_14_method_71_code (60, bM_ahead_60, 62) := ⟨by decide +kernel, (List.forall_mem_cons.mpr ⟨sC0, (List.forall_mem_cons.mpr ⟨sRI, (fun _ h => absurd h List.not_mem_nil)⟩)⟩)⟩
theorem kM_ahead_62 : Bok "HerbWatersModel" prog_14_method_71_code (62, bM_ahead_62, 81) := ⟨by decide +kernel, (List.forall_mem_cons.mpr ⟨sLA0, (List.forall_mem_cons.mpr ⟨lM_v353, (List.forall_mem_cons.mpr ⟨sLA0, (List.forall_mem_cons.mpr ⟨sLI2, (List.forall_mem_cons.mpr ⟨lM_v364, (List.forall_mem_cons.mpr ⟨sLA0, (List.forall_mem_cons.mpr ⟨lM_g83, (List.forall_mem_cons.mpr ⟨sLI1, (List.forall_mem_cons.mpr ⟨sLI3, (List.forall_mem_cons.mpr ⟨lM_s350, (List.forall_mem_cons.mpr ⟨sRI, (fun _ h => absurd h List.not_mem_nil)⟩)⟩)⟩)⟩)⟩)⟩)⟩)⟩)⟩)⟩)⟩)⟩
theorem kM_ahead : ∀ q ∈ tM_ahead, Bok "HerbWatersModel" prog_14_method_71_code q := (List.forall_mem_cons.mpr ⟨kM_ahead_0, (List.forall_mem_cons.mpr ⟨kM_ahead_14, (List.forall_mem_cons.mpr ⟨kM_ahead_18, (List.forall_mem_cons.mpr ⟨kM_ahead_19, (List.forall_mem_cons.mpr ⟨kM_ahead_27, (List.forall_mem_cons.mpr ⟨kM_ahead_38, (List.forall_mem_cons.mpr ⟨kM_ahead_47, (List.forall_mem_cons.mpr ⟨kM_ahead_51, (List.forall_mem_cons.mpr ⟨kM_ahead_52, (List.forall_mem_cons.mpr ⟨kM_ahead_60, (List.forall_mem_cons.mpr ⟨kM_ahead_62, (fun _ h => absurd h List.not_mem_nil)⟩)⟩)⟩)⟩)⟩)⟩)⟩)⟩)⟩)⟩)⟩)
