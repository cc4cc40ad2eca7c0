/-! code of HerbWatersModel; by program (wip/whole/gen_M.py) -/
def mM_worth : Mt := (⟨"HerbWatersModel", "worth", "(III)I"⟩, prog_14_method_47_code, 8, some .int)
theorem ok_M_worth : Mok mM_worth := ⟨gtb_mem 2063 (by decide +kernel) rfl, gtb_mem 107 (by decide +kernel) rfl, by decide +kernel, by decide⟩
theorem lM_g59 : Snd "HerbWatersModel" (iGR 59 11 23) := sGR _ rfl (gtb_mem 1746 (by decide +kernel) rfl)
theorem lM_g62 : Snd "HerbWatersModel" (iGR 62 11 24) := sGR _ rfl (gtb_mem 1747 (by decide +kernel) rfl)
theorem lM_s296 : Snd "HerbWatersModel" (iCS3 296 mM_by) := sCS3 ok_M_by (gtb_mem 2065 (by decide +kernel) rfl) (gtb_mem 2064 (by decide +kernel) rfl)
def bM_worth_0 : List Ir := [iC0, iSI4, iLI2, iSI5]
def bM_worth_6 : List Ir := [iLI5, iLI3, (iICge (136) 145)]
def bM_worth_12 : List Ir := [iLA0, (iGR 50 11 20), iLI1, iAALD107, iC2, iLI5, iMUL, iIALD, iSI6, iLA0, (iGR 50 11 20), iLI1, iAALD107, iC2, iLI5, iMUL, iC1, iADD, iIALD, iSI7, iLI6, iC2, (iICge (33) 76)]
def bM_worth_46 : List Ir := [iLA0, (iGR 59 11 23), iLI4, iLI6, (iIFne (8) 62)]
def bM_worth_57 : List Ir := [iLI7, (iGO (10) 69)]
def bM_worth_62 : List Ir := [iLA0, (iGR 62 11 24), iLI7, iIALD]
def bM_worth_69 : List Ir := [iIAST, (iINC4 1), (iGO (66) 139)]
def bM_worth_76 : List Ir := [iLI6, (iBP 9), (iICne (26) 106)]
def bM_worth_83 : List Ir := [iLA0, (iGR 59 11 23), iLI4, iC1, iSUB, iC1, iLA0, (iGR 59 11 23), iLI4, iC1, iSUB, iIALD, iSUB, iIAST, (iGO (36) 139)]
def bM_worth_106 : List Ir := [(iDEC4 1), iLA0, (iGR 59 11 23), iLI4, iC1, iSUB, iLI6, iLA0, (iGR 59 11 23), iLI4, iC1, iSUB, iIALD, iLA0, (iGR 59 11 23), iLI4, iIALD, (iCS3 296 mM_by), iIAST]
def bM_worth_139 : List Ir := [(iINC5 1), (iGO (-136) 6)]
def bM_worth_145 : List Ir := [iLA0, (iGR 59 11 23), iC0, iIALD, iRI]
def tM_worth : Tb := [(0, bM_worth_0, 6), (6, bM_worth_6, 12), (12, bM_worth_12, 46), (46, bM_worth_46, 57), (57, bM_worth_57, 62), (62, bM_worth_62, 69), (69, bM_worth_69, 76), (76, bM_worth_76, 83), (83, bM_worth_83, 106), (106, bM_worth_106, 139), (139, bM_worth_139, 145), (145, bM_worth_145, 152)]
theorem fM_worth_0 : tbf tM_worth 0 = some (bM_worth_0, 6) := rfl
theorem fM_worth_6 : tbf tM_worth 6 = some (bM_worth_6, 12) := rfl
theorem fM_worth_12 : tbf tM_worth 12 = some (bM_worth_12, 46) := rfl
theorem fM_worth_46 : tbf tM_worth 46 = some (bM_worth_46, 57) := rfl
theorem fM_worth_57 : tbf tM_worth 57 = some (bM_worth_57, 62) := rfl
theorem fM_worth_62 : tbf tM_worth 62 = some (bM_worth_62, 69) := rfl
theorem fM_worth_69 : tbf tM_worth 69 = some (bM_worth_69, 76) := rfl
theorem fM_worth_76 : tbf tM_worth 76 = some (bM_worth_76, 83) := rfl
theorem fM_worth_83 : tbf tM_worth 83 = some (bM_worth_83, 106) := rfl
theorem fM_worth_106 : tbf tM_worth 106 = some (bM_worth_106, 139) := rfl
theorem fM_worth_139 : tbf tM_worth 139 = some (bM_worth_139, 145) := rfl
theorem fM_worth_145 : tbf tM_worth 145 = some (bM_worth_145, 152) := rfl
theorem kM_worth_0 : Bok "HerbWatersModel" prog_14_method_47_code (0, bM_worth_0, 6) := ⟨by decide +kernel, (List.forall_mem_cons.mpr ⟨sC0, (List.forall_mem_cons.mpr ⟨sSI4, (List.forall_mem_cons.mpr ⟨sLI2, (List.forall_mem_cons.mpr ⟨sSI5, (fun _ h => absurd h List.not_mem_nil)⟩)⟩)⟩)⟩)⟩
theorem kM_worth_6 : Bok "HerbWatersModel" prog_14_method_47_code (6, bM_worth_6, 12) := ⟨by decide +kernel, (List.forall_mem_cons.mpr ⟨sLI5, (List.forall_mem_cons.mpr ⟨sLI3, (List.forall_mem_cons.mpr ⟨sICge, (fun _ h => absurd h List.not_mem_nil)⟩)⟩)⟩)⟩
theorem kM_worth_12 : Bok "HerbWatersModel" prog_14_method_47_code (12, bM_worth_12, 46) := ⟨by decide +kernel, (List.forall_mem_cons.mpr ⟨sLA0, (List.forall_mem_cons.mpr ⟨lM_g50, (List.forall_mem_cons.mpr ⟨sLI1, (List.forall_mem_cons.mpr ⟨sAALD107, (List.forall_mem_cons.mpr ⟨sC2, (List.forall_mem_cons.mpr ⟨sLI5, (List.forall_mem_cons.mpr ⟨sMUL, (List.forall_mem_cons.mpr ⟨sIALD, (List.forall_mem_cons.mpr ⟨sSI6, (List.forall_mem_cons.mpr ⟨sLA0, (List.forall_mem_cons.mpr ⟨lM_g50, (List.forall_mem_cons.mpr ⟨sLI1, (List.forall_mem_cons.mpr ⟨sAALD107, (List.forall_mem_cons.mpr ⟨sC2, (List.forall_mem_cons.mpr ⟨sLI5, (List.forall_mem_cons.mpr ⟨sMUL, (List.forall_mem_cons.mpr ⟨sC1, (List.forall_mem_cons.mpr ⟨sADD, (List.forall_mem_cons.mpr ⟨sIALD, (List.forall_mem_cons.mpr ⟨sSI7, (List.forall_mem_cons.mpr ⟨sLI6, (List.forall_mem_cons.mpr ⟨sC2, (List.forall_mem_cons.mpr ⟨sICge, (fun _ h => absurd h List.not_mem_nil)⟩)⟩)⟩)⟩)⟩)⟩)⟩)⟩)⟩)⟩)⟩)⟩)⟩)⟩)⟩)⟩)⟩)⟩)⟩)⟩)⟩)⟩)⟩)⟩
theorem kM_worth_46 : Bok "HerbWatersModel" prog_14_method_47_code (46, bM_worth_46, 57) := ⟨by decide +kernel, (List.forall_mem_cons.mpr ⟨sLA0, (List.forall_mem_cons.mpr ⟨lM_g59, (List.forall_mem_cons.mpr ⟨sLI4, (List.forall_mem_cons.mpr ⟨sLI6, (List.forall_mem_cons.mpr ⟨sIFne, (fun _ h => absurd h List.not_mem_nil)⟩)⟩)⟩)⟩)⟩)⟩
theorem kM_worth_57 : Bok "HerbWatersModel" prog_14_method_47_code (57, bM_worth_57, 62) := ⟨by decide +kernel, (List.forall_mem_cons.mpr ⟨sLI7, (List.forall_mem_cons.mpr ⟨sGO, (fun _ h => absurd h List.not_mem_nil)⟩)⟩)⟩
theorem kM_worth_62 : Bok "HerbWatersModel" prog_14_method_47_code (62, bM_worth_62, 69) := ⟨by decide +kernel, (List.forall_mem_cons.mpr ⟨sLA0, (List.forall_mem_cons.mpr ⟨lM_g62, (List.forall_mem_cons.mpr ⟨sLI7, (List.forall_mem_cons.mpr ⟨sIALD, (fun _ h => absurd h List.not_mem_nil)⟩)⟩)⟩)⟩)⟩
theorem kM_worth_69 : Bok "HerbWatersModel" prog_14_method_47_code (69, bM_worth_69, 76) := ⟨by decide +kernel, (List.forall_mem_cons.mpr ⟨sIAST, (List.forall_mem_cons.mpr ⟨sINC4, (List.forall_mem_cons.mpr ⟨sGO, (fun _ h => absurd h List.not_mem_nil)⟩)⟩)⟩)⟩
theorem kM_worth_76 : Bok "HerbWatersModel" prog_14_method_47_code (76, bM_worth_76, 83) := ⟨by decide +kernel, (List.forall_mem_cons.mpr ⟨sLI6, (List.forall_mem_cons.mpr ⟨sBP, (List.forall_mem_cons.mpr ⟨sICne, (fun _ h => absurd h List.not_mem_nil)⟩)⟩)⟩)⟩
theorem kM_worth_83 : Bok "HerbWatersModel" prog_14_method_47_code (83, bM_worth_83, 106) := ⟨by decide +kernel, (List.forall_mem_cons.mpr ⟨sLA0, (List.forall_mem_cons.mpr ⟨lM_g59, (List.forall_mem_cons.mpr ⟨sLI4, (List.forall_mem_cons.mpr ⟨sC1, (List.forall_mem_cons.mpr ⟨sSUB, (List.forall_mem_cons.mpr ⟨sC1, (List.forall_mem_cons.mpr ⟨sLA0, (List.forall_mem_cons.mpr ⟨lM_g59, (List.forall_mem_cons.mpr ⟨sLI4, (List.forall_mem_cons.mpr ⟨sC1, (List.forall_mem_cons.mpr ⟨sSUB, (List.forall_mem_cons.mpr ⟨sIALD, (List.forall_mem_cons.mpr ⟨sSUB, (List.forall_mem_cons.mpr ⟨sIAST, (List.forall_mem_cons.mpr ⟨sGO, (fun _ h => absurd h List.not_mem_nil)⟩)⟩)⟩)⟩)⟩)⟩)⟩)⟩)⟩)⟩)⟩)⟩)⟩)⟩)⟩)⟩
theorem kM_worth_106 : Bok "HerbWatersModel" prog_14_method_47_code (106, bM_worth_106, 139) := ⟨by decide +kernel, (List.forall_mem_cons.mpr ⟨sDEC4, (List.forall_mem_cons.mpr ⟨sLA0, (List.forall_mem_cons.mpr ⟨lM_g59, (List.forall_mem_cons.mpr ⟨sLI4, (List.forall_mem_cons.mpr ⟨sC1, (List.forall_mem_cons.mpr ⟨sSUB, (List.forall_mem_cons.mpr ⟨sLI6, (List.forall_mem_cons.mpr ⟨sLA0, (List.forall_mem_cons.mpr ⟨lM_g59, (List.forall_mem_cons.mpr ⟨sLI4, (List.forall_mem_cons.mpr ⟨sC1, (List.forall_mem_cons.mpr ⟨sSUB, (List.forall_mem_cons.mpr ⟨sIALD, (List.forall_mem_cons.mpr ⟨sLA0, (List.forall_mem_cons.mpr ⟨lM_g59, (List.forall_mem_cons.mpr ⟨sLI4, (List.forall_mem_cons.mpr ⟨sIALD, (List.forall_mem_cons.mpr ⟨lM_s296, (List.forall_mem_cons.mpr ⟨sIAST, (fun _ h => absurd h List.not_mem_nil)⟩)⟩)⟩)⟩)⟩)⟩)⟩)⟩)⟩)⟩)⟩)⟩)⟩)⟩)⟩)⟩)⟩)⟩)⟩)⟩
theorem kM_worth_139 : Bok "HerbWatersModel" prog_14_method_47_code (139, bM_worth_139, 145) := ⟨by decide +kernel, (List.forall_mem_cons.mpr ⟨sINC5, (List.forall_mem_cons.mpr ⟨sGO, (fun _ h => absurd h List.not_mem_nil)⟩)⟩)⟩
theorem kM_worth_145 : Bok "HerbWatersModel" prog_14_method_47_code (145, bM_worth_145, 152) := ⟨by decide +kernel, (List.forall_mem_cons.mpr ⟨sLA0, (List.forall_mem_cons.mpr ⟨lM_g59, (List.forall_mem_cons.mpr ⟨sC0, (List.forall_mem_cons.mpr ⟨sIALD, (List.forall_mem_cons.mpr ⟨sRI, (fun _ h => absurd h List.not_mem_nil)⟩)⟩)⟩)⟩)⟩)⟩
theorem kM_worth : ∀ q ∈ tM_worth, Bok "HerbWatersModel" prog_14_method_47_code q := (List.forall_mem_cons.mpr ⟨kM_worth_0, (List.forall_mem_cons.mpr ⟨kM_worth_6, (List.forall_mem_cons.mpr ⟨kM_worth_12, (List.forall_mem_cons.mpr ⟨kM_worth_46, (List.forall_mem_cons.mpr ⟨kM_worth_57, (List.forall_mem_cons.mpr ⟨kM_worth_62, (List.forall_mem_cons.mpr ⟨kM_worth_69, (List.forall_mem_cons.mpr ⟨kM_worth_76, (List.forall_mem_cons.mpr ⟨kM_worth_83, (List.forall_mem_cons.mpr ⟨kM_worth_106, (List.forall_mem_cons.mpr ⟨kM_worth_139, (List.forall_mem_cons.mpr ⟨kM_worth_145, (fun _ h => absurd h List.not_mem_nil)⟩)⟩)⟩)⟩)⟩)⟩)⟩)⟩)⟩)⟩)⟩)⟩)
def mM_puts : Mt := (⟨"HerbWatersModel", "puts", "(II)I"⟩, prog_14_method_48_code, 5, some .int)
theorem ok_M_puts : Mok mM_puts := ⟨gtb_mem 2059 (by decide +kernel) rfl, gtb_mem 107 (by decide +kernel) rfl, by decide +kernel, by decide⟩
theorem lM_v300 : Snd "HerbWatersModel" (iCV3 300 11 mM_worth) := sCV3 _ rfl rfl ok_M_worth (gtb_mem 2062 (by decide +kernel) rfl) (gtb_mem 73 (by decide +kernel) rfl) (gtb_mem 2060 (by decide +kernel) rfl)
theorem lM_s303 : Snd "HerbWatersModel" (iCS2 303 mM_less) := sCS2 ok_M_less (gtb_mem 2068 (by decide +kernel) rfl) (gtb_mem 2067 (by decide +kernel) rfl)
def bM_puts_0 : List Ir := [iLA0, (iGR 47 11 19), iLI1, iAALD107, iSA3, iLA3, iC4, iLI2, iMUL, iC3, iADD, iIALD, iLA3, iC4, iLI2, iMUL, iC2, iADD, iIALD, (iICle (27) 48)]
def bM_puts_24 : List Ir := [iLA0, iLI1, iLA3, iC4, iLI2, iMUL, iC2, iADD, iIALD, iLA3, iC4, iLI2, iMUL, iC3, iADD, iIALD, (iCV3 300 11 mM_worth), (iIFne (5) 48)]
def bM_puts_46 : List Ir := [iC0, iRI]
def bM_puts_48 : List Ir := [iLA0, iLI1, iLA3, iC4, iLI2, iMUL, iC1, iADD, iIALD, iLA3, iC4, iLI2, iMUL, iC2, iADD, iIALD, (iCV3 300 11 mM_worth), iSI4, iLI4, (iIFge (7) 78)]
def bM_puts_74 : List Ir := [iC0, (iGO (10) 85)]
def bM_puts_78 : List Ir := [iLI4, (iBP 99), (iCS2 303 mM_less)]
def bM_puts_85 : List Ir := [iSI4, iLA0, (iGR 31 11 14), iLI1, iAALD107, iC4, iIALD, iC1, (iICne (10) 106)]
def bM_puts_99 : List Ir := [iLI4, iC2, iDIV, (iGO (5) 108)]
def bM_puts_106 : List Ir := [iLI4]
def bM_puts_108 : List Ir := [iRI]
def tM_puts : Tb := [(0, bM_puts_0, 24), (24, bM_puts_24, 46), (46, bM_puts_46, 48), (48, bM_puts_48, 74), (74, bM_puts_74, 78), (78, bM_puts_78, 85), (85, bM_puts_85, 99), (99, bM_puts_99, 106), (106, bM_puts_106, 108), (108, bM_puts_108, 109)]
theorem fM_puts_0 : tbf tM_puts 0 = some (bM_puts_0, 24) := rfl
theorem fM_puts_24 : tbf tM_puts 24 = some (bM_puts_24, 46) := rfl
theorem fM_puts_46 : tbf tM_puts 46 = some (bM_puts_46, 48) := rfl
theorem fM_puts_48 : tbf tM_puts 48 = some (bM_puts_48, 74) := rfl
theorem fM_puts_74 : tbf tM_puts 74 = some (bM_puts_74, 78) := rfl
theorem fM_puts_78 : tbf tM_puts 78 = some (bM_puts_78, 85) := rfl
theorem fM_puts_85 : tbf tM_puts 85 = some (bM_puts_85, 99) := rfl
theorem fM_puts_99 : tbf tM_puts 99 = some (bM_puts_99, 106) := rfl
theorem fM_puts_106 : tbf tM_puts 106 = some (bM_puts_106, 108) := rfl
theorem fM_puts_108 : tbf tM_puts 108 = some (bM_puts_108, 109) := rfl
theorem kM_puts_0 : Bok "HerbWatersModel" prog_14_method_48_code (0, bM_puts_0, 24) := ⟨by decide +kernel, (List.forall_mem_cons.mpr ⟨sLA0, (List.forall_mem_cons.mpr ⟨lM_g47, (List.forall_mem_cons.mpr ⟨sLI1, (List.forall_mem_cons.mpr ⟨sAALD107, (List.forall_mem_cons.mpr ⟨sSA3, (List.forall_mem_cons.mpr ⟨sLA3, (List.forall_mem_cons.mpr ⟨sC4, (List.forall_mem_cons.mpr ⟨sLI2, (List.forall_mem_cons.mpr ⟨sMUL, (List.forall_mem_cons.mpr ⟨sC3, (List.forall_mem_cons.mpr ⟨sADD, (List.forall_mem_cons.mpr ⟨sIALD, (List.forall_mem_cons.mpr ⟨sLA3, (List.forall_mem_cons.mpr ⟨sC4, (List.forall_mem_cons.mpr ⟨sLI2, (List.forall_mem_cons.mpr ⟨sMUL, (List.forall_mem_cons.mpr ⟨sC2, (List.forall_mem_cons.mpr ⟨sADD, (List.forall_mem_cons.mpr ⟨sIALD, (List.forall_mem_cons.mpr ⟨sICle, (fun _ h => absurd h List.not_mem_nil)⟩)⟩)⟩)⟩)⟩)⟩)⟩)⟩)⟩)⟩)⟩)⟩)⟩)⟩)⟩)⟩)⟩)⟩)⟩)⟩)⟩
theorem kM_puts_24 : Bok "HerbWatersModel" prog_14_method_48_code (24, bM_puts_24, 46) := ⟨by decide +kernel, (List.forall_mem_cons.mpr ⟨sLA0, (List.forall_mem_cons.mpr ⟨sLI1, (List.forall_mem_cons.mpr ⟨sLA3, (List.forall_mem_cons.mpr ⟨sC4, (List.forall_mem_cons.mpr ⟨sLI2, (List.forall_mem_cons.mpr ⟨sMUL, (List.forall_mem_cons.mpr ⟨sC2, (List.forall_mem_cons.mpr ⟨sADD, (List.forall_mem_cons.mpr ⟨sIALD, (List.forall_mem_cons.mpr ⟨sLA3, (List.forall_mem_cons.mpr ⟨sC4, (List.forall_mem_cons.mpr ⟨sLI2, (List.forall_mem_cons.mpr ⟨sMUL, (List.forall_mem_cons.mpr ⟨sC3, (List.forall_mem_cons.mpr ⟨sADD, (List.forall_mem_cons.mpr ⟨sIALD, (List.forall_mem_cons.mpr ⟨lM_v300, (List.forall_mem_cons.mpr ⟨sIFne, (fun _ h => absurd h List.not_mem_nil)⟩)⟩)⟩)⟩)⟩)⟩)⟩)⟩)⟩)⟩)⟩)⟩)⟩)⟩)⟩)⟩)⟩)⟩)⟩
theorem kM_puts_46 : Bok "HerbWatersModel" prog_14_method_48_code (46, bM_puts_46, 48) := ⟨by decide +kernel, (List.forall_mem_cons.mpr ⟨sC0, (List.forall_mem_cons.mpr ⟨sRI, (fun _ h => absurd h List.not_mem_nil)⟩)⟩)⟩
theorem kM_puts_48 : Bok "HerbWatersModel" prog_14_method_48_code (48, bM_puts_48, 74) := ⟨by decide +kernel, (List.forall_mem_cons.mpr ⟨sLA0, (List.forall_mem_cons.mpr ⟨sLI1, (List.forall_mem_cons.mpr ⟨sLA3, (List.forall_mem_cons.mpr ⟨sC4, (List.forall_mem_cons.mpr ⟨sLI2, (List.forall_mem_cons.mpr ⟨sMUL, (List.forall_mem_cons.mpr ⟨sC1, (List.forall_mem_cons.mpr ⟨sADD, (List.forall_mem_cons.mpr ⟨sIALD, (List.forall_mem_cons.mpr ⟨sLA3, (List.forall_mem_cons.mpr ⟨sC4, (List.forall_mem_cons.mpr ⟨sLI2, (List.forall_mem_cons.mpr ⟨sMUL, (List.forall_mem_cons.mpr ⟨sC2, (List.forall_mem_cons.mpr ⟨sADD, (List.forall_mem_cons.mpr ⟨sIALD, (List.forall_mem_cons.mpr ⟨lM_v300, (List.forall_mem_cons.mpr ⟨sSI4, (List.forall_mem_cons.mpr ⟨sLI4, (List.forall_mem_cons.mpr ⟨sIFge, (fun _ h => absurd h List.not_mem_nil)⟩)⟩)⟩)⟩)⟩)⟩)⟩)⟩)⟩)⟩)⟩)⟩)⟩)⟩)⟩)⟩)⟩)⟩)⟩)⟩)⟩
theorem kM_puts_74 : Bok "HerbWatersModel" prog_14_method_48_code (74, bM_puts_74, 78) := ⟨by decide +kernel, (List.forall_mem_cons.mpr ⟨sC0, (List.forall_mem_cons.mpr ⟨sGO, (fun _ h => absurd h List.not_mem_nil)⟩)⟩)⟩
theorem kM_puts_78 : Bok "HerbWatersModel" prog_14_method_48_code (78, bM_puts_78, 85) := ⟨by decide +kernel, (List.forall_mem_cons.mpr ⟨sLI4, (List.forall_mem_cons.mpr ⟨sBP, (List.forall_mem_cons.mpr ⟨lM_s303, (fun _ h => absurd h List.not_mem_nil)⟩)⟩)⟩)⟩
theorem kM_puts_85 : Bok "HerbWatersModel" prog_14_method_48_code (85, bM_puts_85, 99) := ⟨by decide +kernel, (List.forall_mem_cons.mpr ⟨sSI4, (List.forall_mem_cons.mpr ⟨sLA0, (List.forall_mem_cons.mpr ⟨lM_g31, (List.forall_mem_cons.mpr ⟨sLI1, (List.forall_mem_cons.mpr ⟨sAALD107, (List.forall_mem_cons.mpr ⟨sC4, (List.forall_mem_cons.mpr ⟨sIALD, (List.forall_mem_cons.mpr ⟨sC1, (List.forall_mem_cons.mpr ⟨sICne, (fun _ h => absurd h List.not_mem_nil)⟩)⟩)⟩)⟩)⟩)⟩)⟩)⟩)⟩)⟩
theorem kM_puts_99 : Bok "HerbWatersModel" prog_14_method_48_code (99, bM_puts_99, 106) := ⟨by decide +kernel, (List.forall_mem_cons.mpr ⟨sLI4, (List.forall_mem_cons.mpr ⟨sC2, (List.forall_mem_cons.mpr ⟨sDIV, (List.forall_mem_cons.mpr ⟨sGO, (fun _ h => absurd h List.not_mem_nil)⟩)⟩)⟩)⟩)⟩
theorem kM_puts_106 : Bok "HerbWatersModel" prog_14_method_48_code (106, bM_puts_106, 108) := ⟨by decide +kernel, (List.forall_mem_cons.mpr ⟨sLI4, (fun _ h => absurd h List.not_mem_nil)⟩)⟩
theorem kM_puts_108 : Bok "HerbWatersModel" prog_14_method_48_code (108, bM_puts_108, 109) := ⟨by decide +kernel, (List.forall_mem_cons.mpr ⟨sRI, (fun _ h => absurd h List.not_mem_nil)⟩)⟩
theorem kM_puts : ∀ q ∈ tM_puts, Bok "HerbWatersModel" prog_14_method_48_code q := (List.forall_mem_cons.mpr ⟨kM_puts_0, (List.forall_mem_cons.mpr ⟨kM_puts_24, (List.forall_mem_cons.mpr ⟨kM_puts_46, (List.forall_mem_cons.mpr ⟨kM_puts_48, (List.forall_mem_cons.mpr ⟨kM_puts_74, (List.forall_mem_cons.mpr ⟨kM_puts_78, (List.forall_mem_cons.mpr ⟨kM_puts_85, (List.forall_mem_cons.mpr ⟨kM_puts_99, (List.forall_mem_cons.mpr ⟨kM_puts_106, (List.forall_mem_cons.mpr ⟨kM_puts_108, (fun _ h => absurd h List.not_mem_nil)⟩)⟩)⟩)⟩)⟩)⟩)⟩)⟩)⟩)⟩)
def mM_thinks : Mt := (⟨"HerbWatersModel", "thinks", "(IIIIIII)I"⟩, prog_14_method_49_code, 10, some .int)
theorem ok_M_thinks : Mok mM_thinks := ⟨gtb_mem 2055 (by decide +kernel) rfl, gtb_mem 107 (by decide +kernel) rfl, by decide +kernel, by decide⟩
theorem lM_v306 : Snd "HerbWatersModel" (iCV2 306 11 mM_puts) := sCV2 _ rfl rfl ok_M_puts (gtb_mem 2058 (by decide +kernel) rfl) (gtb_mem 72 (by decide +kernel) rfl) (gtb_mem 2056 (by decide +kernel) rfl)
def bM_thinks_0 : List Ir := [iLA0, iC0, (iPI 123 11 0), iLA0, iLA0, iLI1, (iCV1 290 11 mM_isVillage), (iIFne (7) 18)]
def bM_thinks_14 : List Ir := [iC1, (iGO (4) 19)]
def bM_thinks_18 : List Ir := [iC0]
def bM_thinks_19 : List Ir := [iC1, iC0, (iCV3 221 11 mM_bad), (iIFne (85) 109)]
def bM_thinks_27 : List Ir := [iLA0, iLI2, iC0, iC2, (iCS3 157 mM_in), (iIFeq (62) 96)]
def bM_thinks_37 : List Ir := [iLI3, iC0, (iSP 9999), (iCS3 157 mM_in), (iIFeq (51) 96)]
def bM_thinks_48 : List Ir := [iLI4, iC0, (iSP 9999), (iCS3 157 mM_in), (iIFeq (39) 96)]
def bM_thinks_60 : List Ir := [iLI5, iC0, (iSP 9999), (iCS3 157 mM_in), (iIFeq (27) 96)]
def bM_thinks_72 : List Ir := [iLI6, iC0, (iSP 9999), (iCS3 157 mM_in), (iIFeq (15) 96)]
def bM_thinks_84 : List Ir := [iLI7, iC0, (iSP 999), (iCS3 157 mM_in), (iIFne (7) 100)]
def bM_thinks_96 : List Ir := [iC1, (iGO (4) 101)]
def bM_thinks_100 : List Ir := [iC0]
def bM_thinks_101 : List Ir := [iC2, iC1, (iCV3 221 11 mM_bad), (iIFeq (5) 111)]
def bM_thinks_109 : List Ir := [iC0, iRI]
def bM_thinks_111 : List Ir := [iLA0, (iGR 62 11 24), iC0, iLI3, iIAST, iLA0, (iGR 62 11 24), iC1, iLI4, iIAST, iLA0, (iGR 62 11 24), iC2, iLI5, iIAST, iLA0, (iGR 62 11 24), iC3, iLI6, iIAST, iLA0, (iGR 62 11 24), iC4, iLI7, iIAST, iLA0, (iGR 62 11 24), iC5, iC0, iIAST, iLA0, (iGR 62 11 24), (iBP 6), iLA0, (iGR 31 11 14), iLI1, iAALD107, iC1, iIALD, iIAST, iC0, iSI8, iC0, iSI9]
def bM_thinks_178 : List Ir := [iLI9, iLA0, (iGR 40 11 17), iLI1, iIALD, (iICge (40) 226)]
def bM_thinks_189 : List Ir := [iLI8, iLA0, (iGR 47 11 19), iLI1, iAALD107, iC4, iLI9, iMUL, iIALD, iLI2, (iICne (13) 216)]
def bM_thinks_206 : List Ir := [iLA0, iLI1, iLI9, (iCV2 306 11 mM_puts), (iGO (4) 217)]
def bM_thinks_216 : List Ir := [iC0]
def bM_thinks_217 : List Ir := [iADD, iSI8, (iINC9 1), (iGO (-45) 178)]
def bM_thinks_226 : List Ir := [iLI8, iRI]
def tM_thinks : Tb := [(0, bM_thinks_0, 14), (14, bM_thinks_14, 18), (18, bM_thinks_18, 19), (19, bM_thinks_19, 27), (27, bM_thinks_27, 37), (37, bM_thinks_37, 48), (48, bM_thinks_48, 60), (60, bM_thinks_60, 72), (72, bM_thinks_72, 84), (84, bM_thinks_84, 96), (96, bM_thinks_96, 100), (100, bM_thinks_100, 101), (101, bM_thinks_101, 109), (109, bM_thinks_109, 111), (111, bM_thinks_111, 178), (178, bM_thinks_178, 189), (189, bM_thinks_189, 206), (206, bM_thinks_206, 216), (216, bM_thinks_216, 217), (217, bM_thinks_217, 226), (226, bM_thinks_226, 229)]
theorem fM_thinks_0 : tbf tM_thinks 0 = some (bM_thinks_0, 14) := rfl
theorem fM_thinks_14 : tbf tM_thinks 14 = some (bM_thinks_14, 18) := rfl
theorem fM_thinks_18 : tbf tM_thinks 18 = some (bM_thinks_18, 19) := rfl
theorem fM_thinks_19 : tbf tM_thinks 19 = some (bM_thinks_19, 27) := rfl
theorem fM_thinks_27 : tbf tM_thinks 27 = some (bM_thinks_27, 37) := rfl
theorem fM_thinks_37 : tbf tM_thinks 37 = some (bM_thinks_37, 48) := rfl
theorem fM_thinks_48 : tbf tM_thinks 48 = some (bM_thinks_48, 60) := rfl
theorem fM_thinks_60 : tbf tM_thinks 60 = some (bM_thinks_60, 72) := rfl
theorem fM_thinks_72 : tbf tM_thinks 72 = some (bM_thinks_72, 84) := rfl
theorem fM_thinks_84 : tbf tM_thinks 84 = some (bM_thinks_84, 96) := rfl
theorem fM_thinks_96 : tbf tM_thinks 96 = some (bM_thinks_96, 100) := rfl
theorem fM_thinks_100 : tbf tM_thinks 100 = some (bM_thinks_100, 101) := rfl
theorem fM_thinks_101 : tbf tM_thinks 101 = some (bM_thinks_101, 109) := rfl
theorem fM_thinks_109 : tbf tM_thinks 109 = some (bM_thinks_109, 111) := rfl
theorem fM_thinks_111 : tbf tM_thinks 111 = some (bM_thinks_111, 178) := rfl
theorem fM_thinks_178 : tbf tM_thinks 178 = some (bM_thinks_178, 189) := rfl
theorem fM_thinks_189 : tbf tM_thinks 189 = some (bM_thinks_189, 206) := rfl
theorem fM_thinks_206 : tbf tM_thinks 206 = some (bM_thinks_206, 216) := rfl
theorem fM_thinks_216 : tbf tM_thinks 216 = some (bM_thinks_216, 217) := rfl
theorem fM_thinks_217 : tbf tM_thinks 217 = some (bM_thinks_217, 226) := rfl
theorem fM_thinks_226 : tbf tM_thinks 226 = some (bM_thinks_226, 229) := rfl
theorem kM_thinks_0 : Bok "HerbWatersModel" prog_14_method_49_code (0, bM_thinks_0, 14) := ⟨by decide +kernel, (List.forall_mem_cons.mpr ⟨sLA0, (List.forall_mem_cons.mpr ⟨sC0, (List.forall_mem_cons.mpr ⟨lM_p123, (List.forall_mem_cons.mpr ⟨sLA0, (List.forall_mem_cons.mpr ⟨sLA0, (List.forall_mem_cons.mpr ⟨sLI1, (List.forall_mem_cons.mpr ⟨lM_v290, (List.forall_mem_cons.mpr ⟨sIFne, (fun _ h => absurd h List.not_mem_nil)⟩)⟩)⟩)⟩)⟩)⟩)⟩)⟩)⟩
theorem kM_thinks_14 : Bok "HerbWatersModel" prog_14_method_49_code (14, bM_thinks_14, 18) := ⟨by decide +kernel, (List.forall_mem_cons.mpr ⟨sC1, (List.forall_mem_cons.mpr ⟨sGO, (fun _ h => absurd h List.not_mem_nil)⟩)⟩)⟩
theorem kM_thinks_18 : Bok "HerbWatersModel" prog_14_method_49_code (18, bM_thinks_18, 19) := ⟨by decide +kernel, (List.forall_mem_cons.mpr ⟨sC0, (fun _ h => absurd h List.not_mem_nil)⟩)⟩
theorem kM_thinks_19 : Bok "HerbWatersModel" prog_14_method_49_code (19, bM_thinks_19, 27) := ⟨by decide +kernel, (List.forall_mem_cons.mpr ⟨sC1, (List.forall_mem_cons.mpr ⟨sC0, (List.forall_mem_cons.mpr ⟨lM_v221, (List.forall_mem_cons.mpr ⟨sIFne, (fun _ h => absurd h List.not_mem_nil)⟩)⟩)⟩)⟩)⟩
theorem kM_thinks_27 : Bok "HerbWatersModel" prog_14_method_49_code (27, bM_thinks_27, 37) := ⟨by decide +kernel, (List.forall_mem_cons.mpr ⟨sLA0, (List.forall_mem_cons.mpr ⟨sLI2, (List.forall_mem_cons.mpr ⟨sC0, (List.forall_mem_cons.mpr ⟨sC2, (List.forall_mem_cons.mpr ⟨lM_s157, (List.forall_mem_cons.mpr ⟨sIFeq, (fun _ h => absurd h List.not_mem_nil)⟩)⟩)⟩)⟩)⟩)⟩)⟩
theorem kM_thinks_37 : Bok "HerbWatersModel" prog_14_method_49_code (37, bM_thinks_37, 48) := ⟨by decide +kernel, (List.forall_mem_cons.mpr ⟨sLI3, (List.forall_mem_cons.mpr ⟨sC0, (List.forall_mem_cons.mpr ⟨sSP, (List.forall_mem_cons.mpr ⟨lM_s157, (List.forall_mem_cons.mpr ⟨sIFeq, (fun _ h => absurd h List.not_mem_nil)⟩)⟩)⟩)⟩)⟩)⟩
theorem kM_thinks_48 : Bok "HerbWatersModel" prog_14_method_49_code (48, bM_thinks_48, 60) := ⟨by decide +kernel, (List.forall_mem_cons.mpr ⟨sLI4, (List.forall_mem_cons.mpr ⟨sC0, (List.forall_mem_cons.mpr ⟨sSP, (List.forall_mem_cons.mpr ⟨lM_s157, (List.forall_mem_cons.mpr ⟨sIFeq, (fun _ h => absurd h List.not_mem_nil)⟩)⟩)⟩)⟩)⟩)⟩
theorem kM_thinks_60 : Bok "HerbWatersModel" prog_14_method_49_code (60, bM_thinks_60, 72) := ⟨by decide +kernel, (List.forall_mem_cons.mpr ⟨sLI5, (List.forall_mem_cons.mpr ⟨sC0, (List.forall_mem_cons.mpr ⟨sSP, (List.forall_mem_cons.mpr ⟨lM_s157, (List.forall_mem_cons.mpr ⟨sIFeq, (fun _ h => absurd h List.not_mem_nil)⟩)⟩)⟩)⟩)⟩)⟩
theorem kM_thinks_72 : Bok "HerbWatersModel" prog_14_method_49_code (72, bM_thinks_72, 84) := ⟨by decide +kernel, (List.forall_mem_cons.mpr ⟨sLI6, (List.forall_mem_cons.mpr ⟨sC0, (List.forall_mem_cons.mpr ⟨sSP, (List.forall_mem_cons.mpr ⟨lM_s157, (List.forall_mem_cons.mpr ⟨sIFeq, (fun _ h => absurd h List.not_mem_nil)⟩)⟩)⟩)⟩)⟩)⟩
theorem kM_thinks_84 : Bok "HerbWatersModel" prog_14_method_49_code (84, bM_thinks_84, 96) := ⟨by decide +kernel, (List.forall_mem_cons.mpr ⟨sLI7, (List.forall_mem_cons.mpr ⟨sC0, (List.forall_mem_cons.mpr ⟨sSP, (List.forall_mem_cons.mpr ⟨lM_s157, (List.forall_mem_cons.mpr ⟨sIFne, (fun _ h => absurd h List.not_mem_nil)⟩)⟩)⟩)⟩)⟩)⟩
theorem kM_thinks_96 : Bok "HerbWatersModel" prog_14_method_49_code (96, bM_thinks_96, 100) := ⟨by decide +kernel, (List.forall_mem_cons.mpr ⟨sC1, (List.forall_mem_cons.mpr ⟨sGO, (fun _ h => absurd h List.not_mem_nil)⟩)⟩)⟩
theorem kM_thinks_100 : Bok "HerbWatersModel" prog_14_method_49_code (100, bM_thinks_100, 101) := ⟨by decide +kernel, (List.forall_mem_cons.mpr ⟨sC0, (fun _ h => absurd h List.not_mem_nil)⟩)⟩
theorem kM_thinks_101 : Bok "HerbWatersModel" prog_14_method_49_code (101, bM_thinks_101, 109) := ⟨by decide +kernel, (List.forall_mem_cons.mpr ⟨sC2, (List.forall_mem_cons.mpr ⟨sC1, (List.forall_mem_cons.mpr ⟨lM_v221, (List.forall_mem_cons.mpr ⟨sIFeq, (fun _ h => absurd h List.not_mem_nil)⟩)⟩)⟩)⟩)⟩
theorem kM_thinks_109 : Bok "HerbWatersModel" prog_14_method_49_code (109, bM_thinks_109, 111) := ⟨by decide +kernel, (List.forall_mem_cons.mpr ⟨sC0, (List.forall_mem_cons.mpr ⟨sRI, (fun _ h => absurd h List.not_mem_nil)⟩)⟩)⟩
theorem kM_thinks_111 : Bok "HerbWatersModel" prog_14_method_49_code (111, bM_thinks_111, 178) := ⟨by decide +kernel, (List.forall_mem_cons.mpr ⟨sLA0, (List.forall_mem_cons.mpr ⟨lM_g62, (List.forall_mem_cons.mpr ⟨sC0, (List.forall_mem_cons.mpr ⟨sLI3, (List.forall_mem_cons.mpr ⟨sIAST, (List.forall_mem_cons.mpr ⟨sLA0, (List.forall_mem_cons.mpr ⟨lM_g62, (List.forall_mem_cons.mpr ⟨sC1, (List.forall_mem_cons.mpr ⟨sLI4, (List.forall_mem_cons.mpr ⟨sIAST, (List.forall_mem_cons.mpr ⟨sLA0, (List.forall_mem_cons.mpr ⟨lM_g62, (List.forall_mem_cons.mpr ⟨sC2, (List.forall_mem_cons.mpr ⟨sLI5, (List.forall_mem_cons.mpr ⟨sIAST, (List.forall_mem_cons.mpr ⟨sLA0, (List.forall_mem_cons.mpr ⟨lM_g62, (List.forall_mem_cons.mpr ⟨sC3, (List.forall_mem_cons.mpr ⟨sLI6, (List.forall_mem_cons.mpr ⟨sIAST, (List.forall_mem_cons.mpr ⟨sLA0, (List.forall_mem_cons.mpr ⟨lM_g62, (List.forall_mem_cons.mpr ⟨sC4, (List.forall_mem_cons.mpr ⟨sLI7, (List.forall_mem_cons.mpr ⟨sIAST, (List.forall_mem_cons.mpr ⟨sLA0, (List.forall_mem_cons.mpr ⟨lM_g62, (List.forall_mem_cons.mpr ⟨sC5, (List.forall_mem_cons.mpr ⟨sC0, (List.forall_mem_cons.mpr ⟨sIAST, (List.forall_mem_cons.mpr ⟨sLA0, (List.forall_mem_cons.mpr ⟨lM_g62, (List.forall_mem_cons.mpr ⟨sBP, (List.forall_mem_cons.mpr ⟨sLA0, (List.forall_mem_cons.mpr ⟨lM_g31, (List.forall_mem_cons.mpr ⟨sLI1, (List.forall_mem_cons.mpr ⟨sAALD107, (List.forall_mem_cons.mpr ⟨sC1, (List.forall_mem_cons.mpr ⟨sIALD, (List.forall_mem_cons.mpr ⟨sIAST, (List.forall_mem_cons.mpr ⟨sC0, (List.forall_mem_cons.mpr ⟨sSI8, (List.forall_mem_cons.mpr ⟨sC0, (List.forall_mem_cons.mpr ⟨sSI9, (fun _ h => absurd h List.not_mem_nil)⟩)⟩)⟩)⟩)⟩)⟩)⟩)⟩)⟩)⟩)⟩)⟩)⟩)⟩)⟩)⟩)⟩)⟩)⟩)⟩)⟩)⟩)⟩)⟩)⟩)⟩)⟩)⟩)⟩)⟩)⟩)⟩)⟩)⟩)⟩)⟩)⟩)⟩)⟩)⟩)⟩)⟩)⟩)⟩)⟩
theorem kM_thinks_178 : Bok "HerbWatersModel" prog_14_method_49_code (178, bM_thinks_178, 189) := ⟨by decide +kernel, (List.forall_mem_cons.mpr ⟨sLI9, (List.forall_mem_cons.mpr ⟨sLA0, (List.forall_mem_cons.mpr ⟨lM_g40, (List.forall_mem_cons.mpr ⟨sLI1, (List.forall_mem_cons.mpr ⟨sIALD, (List.forall_mem_cons.mpr ⟨sICge, (fun _ h => absurd h List.not_mem_nil)⟩)⟩)⟩)⟩)⟩)⟩)⟩
theorem kM_thinks_189 : Bok "HerbWatersModel" prog_14_method_49_code (189, bM_thinks_189, 206) := ⟨by decide +kernel, (List.forall_mem_cons.mpr ⟨sLI8, (List.forall_mem_cons.mpr ⟨sLA0, (List.forall_mem_cons.mpr ⟨lM_g47, (List.forall_mem_cons.mpr ⟨sLI1, (List.forall_mem_cons.mpr ⟨sAALD107, (List.forall_mem_cons.mpr ⟨sC4, (List.forall_mem_cons.mpr ⟨sLI9, (List.forall_mem_cons.mpr ⟨sMUL, (List.forall_mem_cons.mpr ⟨sIALD, (List.forall_mem_cons.mpr ⟨sLI2, (List.forall_mem_cons.mpr ⟨sICne, (fun _ h => absurd h List.not_mem_nil)⟩)⟩)⟩)⟩)⟩)⟩)⟩)⟩)⟩)⟩)⟩)⟩
theorem kM_thinks_206 : Bok "HerbWatersModel" prog_14_method_49_code (206, bM_thinks_206, 216) := ⟨by decide +kernel, (List.forall_mem_cons.mpr ⟨sLA0, (List.forall_mem_cons.mpr ⟨sLI1, (List.forall_mem_cons.mpr ⟨sLI9, (List.forall_mem_cons.mpr ⟨lM_v306, (List.forall_mem_cons.mpr ⟨sGO, (fun _ h => absurd h List.not_mem_nil)⟩)⟩)⟩)⟩)⟩)⟩
theorem kM_thinks_216 : Bok "HerbWatersModel" prog_14_method_49_code (216, bM_thinks_216, 217) := ⟨by decide +kernel, (List.forall_mem_cons.mpr ⟨sC0, (fun _ h => absurd h List.not_mem_nil)⟩)⟩
theorem kM_thinks_217 : Bok "HerbWatersModel" prog_14_method_49_code (217, bM_thinks_217, 226) := ⟨by decide +kernel, (List.forall_mem_cons.mpr ⟨sADD, (List.forall_mem_cons.mpr ⟨sSI8, (List.forall_mem_cons.mpr ⟨sINC9, (List.forall_mem_cons.mpr ⟨sGO, (fun _ h => absurd h List.not_mem_nil)⟩)⟩)⟩)⟩)⟩
theorem kM_thinks_226 : Bok "HerbWatersModel" prog_14_method_49_code (226, bM_thinks_226, 229) := ⟨by decide +kernel, (List.forall_mem_cons.mpr ⟨sLI8, (List.forall_mem_cons.mpr ⟨sRI, (fun _ h => absurd h List.not_mem_nil)⟩)⟩)⟩
theorem kM_thinks : ∀ q ∈ tM_thinks, Bok "HerbWatersModel" prog_14_method_49_code q := (List.forall_mem_cons.mpr ⟨kM_thinks_0, (List.forall_mem_cons.mpr ⟨kM_thinks_14, (List.forall_mem_cons.mpr ⟨kM_thinks_18, (List.forall_mem_cons.mpr ⟨kM_thinks_19, (List.forall_mem_cons.mpr ⟨kM_thinks_27, (List.forall_mem_cons.mpr ⟨kM_thinks_37, (List.forall_mem_cons.mpr ⟨kM_thinks_48, (List.forall_mem_cons.mpr ⟨kM_thinks_60, (List.forall_mem_cons.mpr ⟨kM_thinks_72, (List.forall_mem_cons.mpr ⟨kM_thinks_84, (List.forall_mem_cons.mpr ⟨kM_thinks_96, (List.forall_mem_cons.mpr ⟨kM_thinks_100, (List.forall_mem_cons.mpr ⟨kM_thinks_101, (List.forall_mem_cons.mpr ⟨kM_thinks_109, (List.forall_mem_cons.mpr ⟨kM_thinks_111, (List.forall_mem_cons.mpr ⟨kM_thinks_178, (List.forall_mem_cons.mpr ⟨kM_thinks_189, (List.forall_mem_cons.mpr ⟨kM_thinks_206, (List.forall_mem_cons.mpr ⟨kM_thinks_216, (List.forall_mem_cons.mpr ⟨kM_thinks_217, (List.forall_mem_cons.mpr ⟨kM_thinks_226, (fun _ h => absurd h List.not_mem_nil)⟩)⟩)⟩)⟩)⟩)⟩)⟩)⟩)⟩)⟩)⟩)⟩)⟩)⟩)⟩)⟩)⟩)⟩)⟩)⟩)⟩)
def mM_asNow : Mt := (⟨"HerbWatersModel", "asNow", "()V"⟩, prog_14_method_50_code, 1, none)
theorem ok_M_asNow : Mok mM_asNow := ⟨gtb_mem 2102 (by decide +kernel) rfl, gtb_mem 107 (by decide +kernel) rfl, by decide +kernel, by decide⟩
theorem lM_g238 : Snd "HerbWatersModel" (iGI 238 11 37) := sGI _ rfl (gtb_mem 1760 (by decide +kernel) rfl)
theorem lM_p309 : Snd "HerbWatersModel" (iPI 309 11 41) := sPI _ rfl rfl (gtb_mem 1764 (by decide +kernel) rfl)
theorem lM_g241 : Snd "HerbWatersModel" (iGI 241 11 38) := sGI _ rfl (gtb_mem 1761 (by decide +kernel) rfl)
theorem lM_p312 : Snd "HerbWatersModel" (iPI 312 11 42) := sPI _ rfl rfl (gtb_mem 1765 (by decide +kernel) rfl)
theorem lM_p95 : Snd "HerbWatersModel" (iPZ 95 11 49) := sPZ _ rfl rfl (gtb_mem 1772 (by decide +kernel) rfl)
theorem lM_p89 : Snd "HerbWatersModel" (iPI 89 11 43) := sPI _ rfl rfl (gtb_mem 1766 (by decide +kernel) rfl)
theorem lM_p92 : Snd "HerbWatersModel" (iPI 92 11 46) := sPI _ rfl rfl (gtb_mem 1769 (by decide +kernel) rfl)
theorem lM_p315 : Snd "HerbWatersModel" (iPI 315 11 47) := sPI _ rfl rfl (gtb_mem 1770 (by decide +kernel) rfl)
def bM_asNow_0 : List Ir := [iLA0, iLA0, (iGI 238 11 37), (iPI 309 11 41), iLA0, iLA0, (iGI 241 11 38), (iPI 312 11 42), iLA0, iC1, (iPZ 95 11 49), iLA0, iCm1, (iPI 89 11 43), iLA0, iCm1, (iPI 92 11 46), iLA0, iC0, (iPI 315 11 47), iRV]
def tM_asNow : Tb := [(0, bM_asNow_0, 37)]
theorem fM_asNow_0 : tbf tM_asNow 0 = some (bM_asNow_0, 37) := rfl
theorem kM_asNow_0 : Bok "HerbWatersModel" prog_14_method_50_code (0, bM_asNow_0, 37) := ⟨by decide +kernel, (List.forall_mem_cons.mpr ⟨sLA0, (List.forall_mem_cons.mpr ⟨sLA0, (List.forall_mem_cons.mpr ⟨lM_g238, (List.forall_mem_cons.mpr ⟨lM_p309, (List.forall_mem_cons.mpr ⟨sLA0, (List.forall_mem_cons.mpr ⟨sLA0, (List.forall_mem_cons.mpr ⟨lM_g241, (List.forall_mem_cons.mpr ⟨lM_p312, (List.forall_mem_cons.mpr ⟨sLA0, (List.forall_mem_cons.mpr ⟨sC1, (List.forall_mem_cons.mpr ⟨lM_p95, (List.forall_mem_cons.mpr ⟨sLA0, (List.forall_mem_cons.mpr ⟨sCm1, (List.forall_mem_cons.mpr ⟨lM_p89, (List.forall_mem_cons.mpr ⟨sLA0, (List.forall_mem_cons.mpr ⟨sCm1, (List.forall_mem_cons.mpr ⟨lM_p92, (List.forall_mem_cons.mpr ⟨sLA0, (List.forall_mem_cons.mpr ⟨sC0, (List.forall_mem_cons.mpr ⟨lM_p315, (List.forall_mem_cons.mpr ⟨sRV, (fun _ h => absurd h List.not_mem_nil)⟩)⟩)⟩)⟩)⟩)⟩)⟩)⟩)⟩)⟩)⟩)⟩)⟩)⟩)⟩)⟩)⟩)⟩)⟩)⟩)⟩)⟩
theorem kM_asNow : ∀ q ∈ tM_asNow, Bok "HerbWatersModel" prog_14_method_50_code q := (List.forall_mem_cons.mpr ⟨kM_asNow_0, (fun _ h => absurd h List.not_mem_nil)⟩)
def mM_fromBegin : Mt := (⟨"HerbWatersModel", "fromBegin", "(I)V"⟩, prog_14_method_51_code, 2, none)
theorem ok_M_fromBegin : Mok mM_fromBegin := ⟨gtb_mem 2197 (by decide +kernel) rfl, gtb_mem 107 (by decide +kernel) rfl, by decide +kernel, by decide⟩
theorem lM_g83 : Snd "HerbWatersModel" (iGR 83 11 34) := sGR _ rfl (gtb_mem 1757 (by decide +kernel) rfl)
def bM_fromBegin_0 : List Ir := [iLA0, iC0, (iPI 309 11 41), iLA0, iLI1, (iPI 312 11 42), iLA0, iC0, (iPZ 95 11 49), iLA0, iCm1, (iPI 89 11 43), iLA0, iCm1, (iPI 92 11 46), iLA0, iC0, (iPI 315 11 47), iLA0, (iGR 86 11 35), iLA0, (iGR 83 11 34), (iCS2 231 mM_copies), iRV]
def tM_fromBegin : Tb := [(0, bM_fromBegin_0, 42)]
theorem fM_fromBegin_0 : tbf tM_fromBegin 0 = some (bM_fromBegin_0, 42) := rfl
theorem kM_fromBegin_0 : Bok "HerbWatersModel" prog_14_method_51_code (0, bM_fromBegin_0, 42) := ⟨by decide +kernel, (List.forall_mem_cons.mpr ⟨sLA0, (List.forall_mem_cons.mpr ⟨sC0, (List.forall_mem_cons.mpr ⟨lM_p309, (List.forall_mem_cons.mpr ⟨sLA0, (List.forall_mem_cons.mpr ⟨sLI1, (List.forall_mem_cons.mpr ⟨lM_p312, (List.forall_mem_cons.mpr ⟨sLA0, (List.forall_mem_cons.mpr ⟨sC0, (List.forall_mem_cons.mpr ⟨lM_p95, (List.forall_mem_cons.mpr ⟨sLA0, (List.forall_mem_cons.mpr ⟨sCm1, (List.forall_mem_cons.mpr ⟨lM_p89, (List.forall_mem_cons.mpr ⟨sLA0, (List.forall_mem_cons.mpr ⟨sCm1, (List.forall_mem_cons.mpr ⟨lM_p92, (List.forall_mem_cons.mpr ⟨sLA0, (List.forall_mem_cons.mpr ⟨sC0, (List.forall_mem_cons.mpr ⟨lM_p315, (List.forall_mem_cons.mpr ⟨sLA0, (List.forall_mem_cons.mpr ⟨lM_g86, (List.forall_mem_cons.mpr ⟨sLA0, (List.forall_mem_cons.mpr ⟨lM_g83, (List.forall_mem_cons.mpr ⟨lM_s231, (List.forall_mem_cons.mpr ⟨sRV, (fun _ h => absurd h List.not_mem_nil)⟩)⟩)⟩)⟩)⟩)⟩)⟩)⟩)⟩)⟩)⟩)⟩)⟩)⟩)⟩)⟩)⟩)⟩)⟩)⟩)⟩)⟩)⟩)⟩)⟩
theorem kM_fromBegin : ∀ q ∈ tM_fromBegin, Bok "HerbWatersModel" prog_14_method_51_code q := (List.forall_mem_cons.mpr ⟨kM_fromBegin_0, (fun _ h => absurd h List.not_mem_nil)⟩)
def mM_flows : Mt := (⟨"HerbWatersModel", "flows", "([IIII)V"⟩, prog_14_method_52_code, 10, none)
theorem ok_M_flows : Mok mM_flows := ⟨gtb_mem 2110 (by decide +kernel) rfl, gtb_mem 107 (by decide +kernel) rfl, by decide +kernel, by decide⟩
theorem lM_g99 : Snd "HerbWatersModel" (iGR 99 11 50) := sGR _ rfl (gtb_mem 1773 (by decide +kernel) rfl)
def bM_flows_0 : List Ir := [iLA0, (iGR 99 11 50), iLI3, iIALD, iSI5, iLI5, (iIFne (4) 14)]
def bM_flows_13 : List Ir := [iRV]
def bM_flows_14 : List Ir := [iC0, iSI6]
def bM_flows_17 : List Ir := [iLI6, iLA0, (iGR 23 11 12), iC1, iIALD, (iICge (73) 98)]
def bM_flows_28 : List Ir := [iLA0, (iGR 37 11 16), iLI6, iAALD107, iC0, iIALD, iLI2, (iICeq (6) 44)]
def bM_flows_41 : List Ir := [(iGO (51) 92)]
def bM_flows_44 : List Ir := [iLI5, iLA0, (iGR 37 11 16), iLI6, iAALD107, iC2, iIALD, iMUL, (iBP 8), iDIV, iSI7, iLA1, iLI3, iDUP2, iIALD, iLI7, iSUB, iIAST, iLA1, iLI3, iLI4, iLA0, (iGR 37 11 16), iLI6, iAALD107, iC1, iIALD, iLI2, iSUB, iMUL, iADD, iDUP2, iIALD, iLI7, iADD, iIAST]
def bM_flows_92 : List Ir := [(iINC6 1), (iGO (-78) 17)]
def bM_flows_98 : List Ir := [iLA0, (iGR 23 11 12), iC2, iIALD, iLI2, (iICne (18) 123)]
def bM_flows_108 : List Ir := [iLI5, iLA0, (iGR 23 11 12), iC3, iIALD, iMUL, (iBP 8), iDIV, (iGO (4) 124)]
def bM_flows_123 : List Ir := [iC0]
def bM_flows_124 : List Ir := [iSI6, iLI5, iLA0, (iGR 31 11 14), iLI2, iAALD107, iC2, iIALD, iMUL, (iBP 8), iDIV, iSI7, iLA1, iLI3, iDUP2, iIALD, iLI6, iLI7, iADD, iSUB, iIAST, iLI3, (iBP 9), (iICge (14) 170)]
def bM_flows_159 : List Ir := [iLA1, (iSP 497), iDUP2, iIALD, iLI6, iADD, iIAST, iRV]
def bM_flows_170 : List Ir := [iLI3, (iBP 9), iSUB, (iBP 9), iDIV, iC3, iREM, iSI8, iLI3, (iBP 9), iSUB, (iBP 9), iREM, iSI9, iLA1, (iSP 498), iLI8, iADD, iDUP2, iIALD, iLI6, iADD, iIAST, iLA1, (iSP 468), iC3, iLI9, iMUL, iADD, iLI8, iADD, iDUP2, iIALD, iLI6, iADD, iIAST, iLA1, (iSP 495), iDUP2, iIALD, iLI7, iADD, iIAST, iRV]
def tM_flows : Tb := [(0, bM_flows_0, 13), (13, bM_flows_13, 14), (14, bM_flows_14, 17), (17, bM_flows_17, 28), (28, bM_flows_28, 41), (41, bM_flows_41, 44), (44, bM_flows_44, 92), (92, bM_flows_92, 98), (98, bM_flows_98, 108), (108, bM_flows_108, 123), (123, bM_flows_123, 124), (124, bM_flows_124, 159), (159, bM_flows_159, 170), (170, bM_flows_170, 232)]
theorem fM_flows_0 : tbf tM_flows 0 = some (bM_flows_0, 13) := rfl
theorem fM_flows_13 : tbf tM_flows 13 = some (bM_flows_13, 14) := rfl
theorem fM_flows_14 : tbf tM_flows 14 = some (bM_flows_14, 17) := rfl
theorem fM_flows_17 : tbf tM_flows 17 = some (bM_flows_17, 28) := rfl
theorem fM_flows_28 : tbf tM_flows 28 = some (bM_flows_28, 41) := rfl
theorem fM_flows_41 : tbf tM_flows 41 = some (bM_flows_41, 44) := rfl
theorem fM_flows_44 : tbf tM_flows 44 = some (bM_flows_44, 92) := rfl
theorem fM_flows_92 : tbf tM_flows 92 = some (bM_flows_92, 98) := rfl
theorem fM_flows_98 : tbf tM_flows 98 = some (bM_flows_98, 108) := rfl
theorem fM_flows_108 : tbf tM_flows 108 = some (bM_flows_108, 123) := rfl
theorem fM_flows_123 : tbf tM_flows 123 = some (bM_flows_123, 124) := rfl
theorem fM_flows_124 : tbf tM_flows 124 = some (bM_flows_124, 159) := rfl
theorem fM_flows_159 : tbf tM_flows 159 = some (bM_flows_159, 170) := rfl
theorem fM_flows_170 : tbf tM_flows 170 = some (bM_flows_170, 232) := rfl
theorem kM_flows_0 : Bok "HerbWatersModel" prog_14_method_52_code (0, bM_flows_0, 13) := ⟨by decide +kernel, (List.forall_mem_cons.mpr ⟨sLA0, (List.forall_mem_cons.mpr ⟨lM_g99, (List.forall_mem_cons.mpr ⟨sLI3, (List.forall_mem_cons.mpr ⟨sIALD, (List.forall_mem_cons.mpr ⟨sSI5, (List.forall_mem_cons.mpr ⟨sLI5, (List.forall_mem_cons.mpr ⟨sIFne, (fun _ h => absurd h List.not_mem_nil)⟩)⟩)⟩)⟩)⟩)⟩)⟩)⟩
theorem kM_flows_13 : Bok "HerbWatersModel" prog_14_method_52_code (13, bM_flows_13, 14) := ⟨by decide +kernel, (List.forall_mem_cons.mpr ⟨sRV, (fun _ h => absurd h List.not_mem_nil)⟩)⟩
theorem kM_flows_14 : Bok "HerbWatersModel" prog_14_method_52_code (14, bM_flows_14, 17) := ⟨by decide +kernel, (List.forall_mem_cons.mpr ⟨sC0, (List.forall_mem_cons.mpr ⟨sSI6, (fun _ h => absurd h List.not_mem_nil)⟩)⟩)⟩
theorem kM_flows_17 : Bok "HerbWatersModel" prog_14_method_52_code (17, bM_flows_17, 28) := ⟨by decide +kernel, (List.forall_mem_cons.mpr ⟨sLI6, (List.forall_mem_cons.mpr ⟨sLA0, (List.forall_mem_cons.mpr ⟨lM_g23, (List.forall_mem_cons.mpr ⟨sC1, (List.forall_mem_cons.mpr ⟨sIALD, (List.forall_mem_cons.mpr ⟨sICge, (fun _ h => absurd h List.not_mem_nil)⟩)⟩)⟩)⟩)⟩)⟩)⟩
theorem kM_flows_28 : Bok "HerbWatersModel" prog_14_method_52_code (28, bM_flows_28, 41) := ⟨by decide +kernel, (List.forall_mem_cons.mpr ⟨sLA0, (List.forall_mem_cons.mpr ⟨lM_g37, (List.forall_mem_cons.mpr ⟨sLI6, (List.forall_mem_cons.mpr ⟨sAALD107, (List.forall_mem_cons.mpr ⟨sC0, (List.forall_mem_cons.mpr ⟨sIALD, (List.forall_mem_cons.mpr ⟨sLI2, (List.forall_mem_cons.mpr ⟨sICeq, (fun _ h => absurd h List.not_mem_nil)⟩)⟩)⟩)⟩)⟩)⟩)⟩)⟩)⟩
theorem kM_flows_41 : Bok "HerbWatersModel" prog_14_method_52_code (41, bM_flows_41, 44) := ⟨by decide +kernel, (List.forall_mem_cons.mpr ⟨sGO, (fun _ h => absurd h List.not_mem_nil)⟩)⟩
theorem kM_flows_44 : Bok "HerbWatersModel" prog_14_method_52_code (44, bM_flows_44, 92) := ⟨by decide +kernel, (List.forall_mem_cons.mpr ⟨sLI5, (List.forall_mem_cons.mpr ⟨sLA0, (List.forall_mem_cons.mpr ⟨lM_g37, (List.forall_mem_cons.mpr ⟨sLI6, (List.forall_mem_cons.mpr ⟨sAALD107, (List.forall_mem_cons.mpr ⟨sC2, (List.forall_mem_cons.mpr ⟨sIALD, (List.forall_mem_cons.mpr ⟨sMUL, (List.forall_mem_cons.mpr ⟨sBP, (List.forall_mem_cons.mpr ⟨sDIV, (List.forall_mem_cons.mpr ⟨sSI7, (List.forall_mem_cons.mpr ⟨sLA1, (List.forall_mem_cons.mpr ⟨sLI3, (List.forall_mem_cons.mpr ⟨sDUP2, (List.forall_mem_cons.mpr ⟨sIALD, (List.forall_mem_cons.mpr ⟨sLI7, (List.forall_mem_cons.mpr ⟨sSUB, (List.forall_mem_cons.mpr ⟨sIAST, (List.forall_mem_cons.mpr ⟨sLA1, (List.forall_mem_cons.mpr ⟨sLI3, (List.forall_mem_cons.mpr ⟨sLI4, (List.forall_mem_cons.mpr ⟨sLA0, (List.forall_mem_cons.mpr ⟨lM_g37, (List.forall_mem_cons.mpr ⟨sLI6, (List.forall_mem_cons.mpr ⟨sAALD107, (List.forall_mem_cons.mpr ⟨sC1, (List.forall_mem_cons.mpr ⟨sIALD, (List.forall_mem_cons.mpr ⟨sLI2, (List.forall_mem_cons.mpr ⟨sSUB, (List.forall_mem_cons.mpr ⟨sMUL, (List.forall_mem_cons.mpr ⟨sADD, (List.forall_mem_cons.mpr ⟨sDUP2, (List.forall_mem_cons.mpr ⟨sIALD, (List.forall_mem_cons.mpr ⟨sLI7, (List.forall_mem_cons.mpr ⟨sADD, (List.forall_mem_cons.mpr ⟨sIAST, (fun _ h => absurd h List.not_mem_nil)⟩)⟩)⟩)⟩)⟩)⟩)⟩)⟩)⟩)⟩)⟩)⟩)⟩)⟩)⟩)⟩)⟩)⟩)⟩)⟩)⟩)⟩)⟩)⟩)⟩)⟩)⟩)⟩)⟩)⟩)⟩)⟩)⟩)⟩)⟩)⟩)⟩
theorem kM_flows_92 : Bok "HerbWatersModel" prog_14_method_52_code (92, bM_flows_92, 98) := ⟨by decide +kernel, (List.forall_mem_cons.mpr ⟨sINC6, (List.forall_mem_cons.mpr ⟨sGO, (fun _ h => absurd h List.not_mem_nil)⟩)⟩)⟩
theorem kM_flows_98 : Bok "HerbWatersModel" prog_14_method_52_code (98, bM_flows_98, 108) := ⟨by decide +kernel, (List.forall_mem_cons.mpr ⟨sLA0, (List.forall_mem_cons.mpr ⟨lM_g23, (List.forall_mem_cons.mpr ⟨sC2, (List.forall_mem_cons.mpr ⟨sIALD, (List.forall_mem_cons.mpr ⟨sLI2, (List.forall_mem_cons.mpr ⟨sICne, (fun _ h => absurd h List.not_mem_nil)⟩)⟩)⟩)⟩)⟩)⟩)⟩
theorem kM_flows_108 : Bok "HerbWatersModel" prog_14_method_52_code (108, bM_flows_108, 123) := ⟨by decide +kernel, (List.forall_mem_cons.mpr ⟨sLI5, (List.forall_mem_cons.mpr ⟨sLA0, (List.forall_mem_cons.mpr ⟨lM_g23, (List.forall_mem_cons.mpr ⟨sC3, (List.forall_mem_cons.mpr ⟨sIALD, (List.forall_mem_cons.mpr ⟨sMUL, (List.forall_mem_cons.mpr ⟨sBP, (List.forall_mem_cons.mpr ⟨sDIV, (List.forall_mem_cons.mpr ⟨sGO, (fun _ h => absurd h List.not_mem_nil)⟩)⟩)⟩)⟩)⟩)⟩)⟩)⟩)⟩)⟩
theorem kM_flows_123 : Bok "HerbWatersModel" prog_14_method_52_code (123, bM_flows_123, 124) := ⟨by decide +kernel, (List.forall_mem_cons.mpr ⟨sC0, (fun _ h => absurd h List.not_mem_nil)⟩)⟩
theorem kM_flows_124 : Bok "HerbWatersModel" prog_14_method_52_code (124, bM_flows_124, 159) := ⟨by decide +kernel, (List.forall_mem_cons.mpr ⟨sSI6, (List.forall_mem_cons.mpr ⟨sLI5, (List.forall_mem_cons.mpr ⟨sLA0, (List.forall_mem_cons.mpr ⟨lM_g31, (List.forall_mem_cons.mpr ⟨sLI2, (List.forall_mem_cons.mpr ⟨sAALD107, (List.forall_mem_cons.mpr ⟨sC2, (List.forall_mem_cons.mpr ⟨sIALD, (List.forall_mem_cons.mpr ⟨sMUL, (List.forall_mem_cons.mpr ⟨sBP, (List.forall_mem_cons.mpr ⟨sDIV, (List.forall_mem_cons.mpr ⟨sSI7, (List.forall_mem_cons.mpr ⟨sLA1, (List.forall_mem_cons.mpr ⟨sLI3, (List.forall_mem_cons.mpr ⟨sDUP2, (List.forall_mem_cons.mpr ⟨sIALD, (List.forall_mem_cons.mpr ⟨sLI6, (List.forall_mem_cons.mpr ⟨sLI7, (List.forall_mem_cons.mpr ⟨sADD, (List.forall_mem_cons.mpr ⟨sSUB, (List.forall_mem_cons.mpr ⟨sIAST, (List.forall_mem_cons.mpr ⟨sLI3, (List.forall_mem_cons.mpr ⟨sBP, (List.forall_mem_cons.mpr ⟨sICge, (fun _ h => absurd h List.not_mem_nil)⟩)⟩)⟩)⟩)⟩)⟩)⟩)⟩)⟩)⟩)⟩)⟩)⟩)⟩)⟩)⟩)⟩)⟩)⟩)⟩)⟩)⟩)⟩)⟩)⟩
theorem kM_flows_159 : Bok "HerbWatersModel" prog_14_method_52_code (159, bM_flows_159, 170) := ⟨by decide +kernel, (List.forall_mem_cons.mpr ⟨sLA1, (List.forall_mem_cons.mpr ⟨sSP, (List.forall_mem_cons.mpr ⟨sDUP2, (List.forall_mem_cons.mpr ⟨sIALD, (List.forall_mem_cons.mpr ⟨sLI6, (List.forall_mem_cons.mpr ⟨sADD, (List.forall_mem_cons.mpr ⟨sIAST, (List.forall_mem_cons.mpr ⟨sRV, (fun _ h => absurd h List.not_mem_nil)⟩)⟩)⟩)⟩)⟩)⟩)⟩)⟩)⟩
theorem kM_flows_170 : Bok "HerbWatersModel" prog_14_method_52_code (170, bM_flows_170, 232) := ⟨by decide +kernel, (List.forall_mem_cons.mpr ⟨sLI3, (List.forall_mem_cons.mpr ⟨sBP, (List.forall_mem_cons.mpr ⟨sSUB, (List.forall_mem_cons.mpr ⟨sBP, (List.forall_mem_cons.mpr ⟨sDIV, (List.forall_mem_cons.mpr ⟨sC3, (List.forall_mem_cons.mpr ⟨sREM, (List.forall_mem_cons.mpr ⟨sSI8, (List.forall_mem_cons.mpr ⟨sLI3, (List.forall_mem_cons.mpr ⟨sBP, (List.forall_mem_cons.mpr ⟨sSUB, (List.forall_mem_cons.mpr ⟨sBP, (List.forall_mem_cons.mpr ⟨sREM, (List.forall_mem_cons.mpr ⟨sSI9, (List.forall_mem_cons.mpr ⟨sLA1, (List.forall_mem_cons.mpr ⟨sSP, (List.forall_mem_cons.mpr ⟨sLI8, (List.forall_mem_cons.mpr ⟨sADD, (List.forall_mem_cons.mpr ⟨sDUP2, (List.forall_mem_cons.mpr ⟨sIALD, (List.forall_mem_cons.mpr ⟨sLI6, (List.forall_mem_cons.mpr ⟨sADD, (List.forall_mem_cons.mpr ⟨sIAST, (List.forall_mem_cons.mpr ⟨sLA1, (List.forall_mem_cons.mpr ⟨sSP, (List.forall_mem_cons.mpr ⟨sC3, (List.forall_mem_cons.mpr ⟨sLI9, (List.forall_mem_cons.mpr ⟨sMUL, (List.forall_mem_cons.mpr ⟨sADD, (List.forall_mem_cons.mpr ⟨sLI8, (List.forall_mem_cons.mpr ⟨sADD, (List.forall_mem_cons.mpr ⟨sDUP2, (List.forall_mem_cons.mpr ⟨sIALD, (List.forall_mem_cons.mpr ⟨sLI6, (List.forall_mem_cons.mpr ⟨sADD, (List.forall_mem_cons.mpr ⟨sIAST, (List.forall_mem_cons.mpr ⟨sLA1, (List.forall_mem_cons.mpr ⟨sSP, (List.forall_mem_cons.mpr ⟨sDUP2, (List.forall_mem_cons.mpr ⟨sIALD, (List.forall_mem_cons.mpr ⟨sLI7, (List.forall_mem_cons.mpr ⟨sADD, (List.forall_mem_cons.mpr ⟨sIAST, (List.forall_mem_cons.mpr ⟨sRV, (fun _ h => absurd h List.not_mem_nil)⟩)⟩)⟩)⟩)⟩)⟩)⟩)⟩)⟩)⟩)⟩)⟩)⟩)⟩)⟩)⟩)⟩)⟩)⟩)⟩)⟩)⟩)⟩)⟩)⟩)⟩)⟩)⟩)⟩)⟩)⟩)⟩)⟩)⟩)⟩)⟩)⟩)⟩)⟩)⟩)⟩)⟩)⟩)⟩)⟩
theorem kM_flows : ∀ q ∈ tM_flows, Bok "HerbWatersModel" prog_14_method_52_code q := (List.forall_mem_cons.mpr ⟨kM_flows_0, (List.forall_mem_cons.mpr ⟨kM_flows_13, (List.forall_mem_cons.mpr ⟨kM_flows_14, (List.forall_mem_cons.mpr ⟨kM_flows_17, (List.forall_mem_cons.mpr ⟨kM_flows_28, (List.forall_mem_cons.mpr ⟨kM_flows_41, (List.forall_mem_cons.mpr ⟨kM_flows_44, (List.forall_mem_cons.mpr ⟨kM_flows_92, (List.forall_mem_cons.mpr ⟨kM_flows_98, (List.forall_mem_cons.mpr ⟨kM_flows_108, (List.forall_mem_cons.mpr ⟨kM_flows_123, (List.forall_mem_cons.mpr ⟨kM_flows_124, (List.forall_mem_cons.mpr ⟨kM_flows_159, (List.forall_mem_cons.mpr ⟨kM_flows_170, (fun _ h => absurd h List.not_mem_nil)⟩)⟩)⟩)⟩)⟩)⟩)⟩)⟩)⟩)⟩)⟩)⟩)⟩)⟩)
def mM_herbAt : Mt := (⟨"HerbWatersModel", "herbAt", "(III)I"⟩, prog_14_method_53_code, 3, some .int)
theorem ok_M_herbAt : Mok mM_herbAt := ⟨gtb_mem 2090 (by decide +kernel) rfl, gtb_mem 107 (by decide +kernel) rfl, by decide +kernel, by decide⟩
def bM_herbAt_0 : List Ir := [(iBP 9), (iBP 27), iLI0, iMUL, iADD, (iBP 9), iLI1, iMUL, iADD, iLI2, iADD, iRI]
def tM_herbAt : Tb := [(0, bM_herbAt_0, 15)]
theorem fM_herbAt_0 : tbf tM_herbAt 0 = some (bM_herbAt_0, 15) := rfl
theorem kM_herbAt_0 : Bok "HerbWatersModel" prog_14_method_53_code (0, bM_herbAt_0, 15) := ⟨by decide +kernel, (List.forall_mem_cons.mpr ⟨sBP, (List.forall_mem_cons.mpr ⟨sBP, (List.forall_mem_cons.mpr ⟨sLI0, (List.forall_mem_cons.mpr ⟨sMUL, (List.forall_mem_cons.mpr ⟨sADD, (List.forall_mem_cons.mpr ⟨sBP, (List.forall_mem_cons.mpr ⟨sLI1, (List.forall_mem_cons.mpr ⟨sMUL, (List.forall_mem_cons.mpr ⟨sADD, (List.forall_mem_cons.mpr ⟨sLI2, (List.forall_mem_cons.mpr ⟨sADD, (List.forall_mem_cons.mpr ⟨sRI, (fun _ h => absurd h List.not_mem_nil)⟩)⟩)⟩)⟩)⟩)⟩)⟩)⟩)⟩)⟩)⟩)⟩)⟩
theorem kM_herbAt : ∀ q ∈ tM_herbAt, Bok "HerbWatersModel" prog_14_method_53_code q := (List.forall_mem_cons.mpr ⟨kM_herbAt_0, (fun _ h => absurd h List.not_mem_nil)⟩)
def mM_herbsOf : Mt := (⟨"HerbWatersModel", "herbsOf", "([III)I"⟩, prog_14_method_54_code, 5, some .int)
theorem ok_M_herbsOf : Mok mM_herbsOf := ⟨gtb_mem 2087 (by decide +kernel) rfl, gtb_mem 107 (by decide +kernel) rfl, by decide +kernel, by decide⟩
theorem lM_s318 : Snd "HerbWatersModel" (iCS3 318 mM_herbAt) := sCS3 ok_M_herbAt (gtb_mem 2089 (by decide +kernel) rfl) (gtb_mem 2088 (by decide +kernel) rfl)
def bM_herbsOf_0 : List Ir := [iC0, iSI3, iC0, iSI4]
def bM_herbsOf_5 : List Ir := [iLI4, (iBP 9), (iICge (21) 30)]
def bM_herbsOf_12 : List Ir := [iLI3, iLA0, iLI1, iLI2, iLI4, (iCS3 318 mM_herbAt), iIALD, iADD, iSI3, (iINC4 1), (iGO (-22) 5)]
def bM_herbsOf_30 : List Ir := [iLI3, iRI]
def tM_herbsOf : Tb := [(0, bM_herbsOf_0, 5), (5, bM_herbsOf_5, 12), (12, bM_herbsOf_12, 30), (30, bM_herbsOf_30, 32)]
theorem fM_herbsOf_0 : tbf tM_herbsOf 0 = some (bM_herbsOf_0, 5) := rfl
theorem fM_herbsOf_5 : tbf tM_herbsOf 5 = some (bM_herbsOf_5, 12) := rfl
theorem fM_herbsOf_12 : tbf tM_herbsOf 12 = some (bM_herbsOf_12, 30) := rfl
theorem fM_herbsOf_30 : tbf tM_herbsOf 30 = some (bM_herbsOf_30, 32) := rfl
theorem kM_herbsOf_0 : Bok "HerbWatersModel" prog_14_method_54_code (0, bM_herbsOf_0, 5) := ⟨by decide +kernel, (List.forall_mem_cons.mpr ⟨sC0, (List.forall_mem_cons.mpr ⟨sSI3, (List.forall_mem_cons.mpr ⟨sC0, (List.forall_mem_cons.mpr ⟨sSI4, (fun _ h => absurd h List.not_mem_nil)⟩)⟩)⟩)⟩)⟩
theorem kM_herbsOf_5 : Bok "HerbWatersModel" prog_14_method_54_code (5, bM_herbsOf_5, 12) := ⟨by decide +kernel, (List.forall_mem_cons.mpr ⟨sLI4, (List.forall_mem_cons.mpr ⟨sBP, (List.forall_mem_cons.mpr ⟨sICge, (fun _ h => absurd h List.not_mem_nil)⟩)⟩)⟩)⟩
theorem kM_herbsOf_12 : Bok "HerbWatersModel" prog_14_method_54_code (12, bM_herbsOf_12, 30) := ⟨by decide +kernel, (List.forall_mem_cons.mpr ⟨sLI3, (List.forall_mem_cons.mpr ⟨sLA0, (List.forall_mem_cons.mpr ⟨sLI1, (List.forall_mem_cons.mpr ⟨sLI2, (List.forall_mem_cons.mpr ⟨sLI4, (List.forall_mem_cons.mpr ⟨lM_s318, (List.forall_mem_cons.mpr ⟨sIALD, (List.forall_mem_cons.mpr ⟨sADD, (List.forall_mem_cons.mpr ⟨sSI3, (List.forall_mem_cons.mpr ⟨sINC4, (List.forall_mem_cons.mpr ⟨sGO, (fun _ h => absurd h List.not_mem_nil)⟩)⟩)⟩)⟩)⟩)⟩)⟩)⟩)⟩)⟩)⟩)⟩
theorem kM_herbsOf_30 : Bok "HerbWatersModel" prog_14_method_54_code (30, bM_herbsOf_30, 32) := ⟨by decide +kernel, (List.forall_mem_cons.mpr ⟨sLI3, (List.forall_mem_cons.mpr ⟨sRI, (fun _ h => absurd h List.not_mem_nil)⟩)⟩)⟩
theorem kM_herbsOf : ∀ q ∈ tM_herbsOf, Bok "HerbWatersModel" prog_14_method_54_code q := (List.forall_mem_cons.mpr ⟨kM_herbsOf_0, (List.forall_mem_cons.mpr ⟨kM_herbsOf_5, (List.forall_mem_cons.mpr ⟨kM_herbsOf_12, (List.forall_mem_cons.mpr ⟨kM_herbsOf_30, (fun _ h => absurd h List.not_mem_nil)⟩)⟩)⟩)⟩)
def mM_strains : Mt := (⟨"HerbWatersModel", "strains", "([III)V"⟩, prog_14_method_55_code, 7, none)
theorem ok_M_strains : Mok mM_strains := ⟨gtb_mem 2115 (by decide +kernel) rfl, gtb_mem 107 (by decide +kernel) rfl, by decide +kernel, by decide⟩
theorem lM_g95 : Snd "HerbWatersModel" (iGI 95 11 49) := sGI _ rfl (gtb_mem 1772 (by decide +kernel) rfl)
theorem lM_g89 : Snd "HerbWatersModel" (iGI 89 11 43) := sGI _ rfl (gtb_mem 1766 (by decide +kernel) rfl)
theorem lM_g321 : Snd "HerbWatersModel" (iGI 321 11 44) := sGI _ rfl (gtb_mem 1767 (by decide +kernel) rfl)
theorem lM_g324 : Snd "HerbWatersModel" (iGI 324 11 45) := sGI _ rfl (gtb_mem 1768 (by decide +kernel) rfl)
def bM_strains_0 : List Ir := [iLA0, (iGR 31 11 14), iLI2, iAALD107, iC5, iLI3, iADD, iIALD, iLA0, (iGI 95 11 49), (iIFeq (12) 26)]
def bM_strains_17 : List Ir := [iLA0, (iGR 74 11 31), iLI2, iIALD, (iGO (4) 27)]
def bM_strains_26 : List Ir := [iC0]
def bM_strains_27 : List Ir := [iADD, iLA0, (iGI 89 11 43), iLI2, (iICne (18) 51)]
def bM_strains_36 : List Ir := [iLA0, (iGI 321 11 44), iLI3, (iICne (10) 51)]
def bM_strains_44 : List Ir := [iLA0, (iGI 324 11 45), (iGO (4) 52)]
def bM_strains_51 : List Ir := [iC0]
def bM_strains_52 : List Ir := [iADD, iSI4, iC0, iSI5]
def bM_strains_58 : List Ir := [iLI5, (iBP 9), (iICge (56) 118)]
def bM_strains_65 : List Ir := [iLI4, iLA1, iLI2, iLI3, iLI5, (iCS3 318 mM_herbAt), iIALD, (iCS2 303 mM_less), iSI6, iLA1, iLI2, iLI3, iLI5, (iCS3 318 mM_herbAt), iDUP2, iIALD, iLI6, iSUB, iIAST, iLA1, (iSP 496), iDUP2, iIALD, iLI6, iADD, iIAST, iLI4, iLI6, iSUB, iSI4, (iINC5 1), (iGO (-57) 58)]
def bM_strains_118 : List Ir := [iRV]
def tM_strains : Tb := [(0, bM_strains_0, 17), (17, bM_strains_17, 26), (26, bM_strains_26, 27), (27, bM_strains_27, 36), (36, bM_strains_36, 44), (44, bM_strains_44, 51), (51, bM_strains_51, 52), (52, bM_strains_52, 58), (58, bM_strains_58, 65), (65, bM_strains_65, 118), (118, bM_strains_118, 119)]
theorem fM_strains_0 : tbf tM_strains 0 = some (bM_strains_0, 17) := rfl
theorem fM_strains_17 : tbf tM_strains 17 = some (bM_strains_17, 26) := rfl
theorem fM_strains_26 : tbf tM_strains 26 = some (bM_strains_26, 27) := rfl
theorem fM_strains_27 : tbf tM_strains 27 = some (bM_strains_27, 36) := rfl
theorem fM_strains_36 : tbf tM_strains 36 = some (bM_strains_36, 44) := rfl
theorem fM_strains_44 : tbf tM_strains 44 = some (bM_strains_44, 51) := rfl
theorem fM_strains_51 : tbf tM_strains 51 = some (bM_strains_51, 52) := rfl
theorem fM_strains_52 : tbf tM_strains 52 = some (bM_strains_52, 58) := rfl
theorem fM_strains_58 : tbf tM_strains 58 = some (bM_strains_58, 65) := rfl
theorem fM_strains_65 : tbf tM_strains 65 = some (bM_strains_65, 118) := rfl
theorem fM_strains_118 : tbf tM_strains 118 = some (bM_strains_118, 119) := rfl
theorem kM_strains_0 : Bok "HerbWatersModel" prog_14_method_55_code (0, bM_strains_0, 17) := ⟨by decide +kernel, (List.forall_mem_cons.mpr ⟨sLA0, (List.forall_mem_cons.mpr ⟨lM_g31, (List.forall_mem_cons.mpr ⟨sLI2, (List.forall_mem_cons.mpr ⟨sAALD107, (List.forall_mem_cons.mpr ⟨sC5, (List.forall_mem_cons.mpr ⟨sLI3, (List.forall_mem_cons.mpr ⟨sADD, (List.forall_mem_cons.mpr ⟨sIALD, (List.forall_mem_cons.mpr ⟨sLA0, (List.forall_mem_cons.mpr ⟨lM_g95, (List.forall_mem_cons.mpr ⟨sIFeq, (fun _ h => absurd h List.not_mem_nil)⟩)⟩)⟩)⟩)⟩)⟩)⟩)⟩)⟩)⟩)⟩)⟩
theorem kM_strains_17 : Bok "HerbWatersModel" prog_14_method_55_code (17, bM_strains_17, 26) := ⟨by decide +kernel, (List.forall_mem_cons.mpr ⟨sLA0, (List.forall_mem_cons.mpr ⟨lM_g74, (List.forall_mem_cons.mpr ⟨sLI2, (List.forall_mem_cons.mpr ⟨sIALD, (List.forall_mem_cons.mpr ⟨sGO, (fun _ h => absurd h List.not_mem_nil)⟩)⟩)⟩)⟩)⟩)⟩
theorem kM_strains_26 : Bok "HerbWatersModel" prog_14_method_55_code (26, bM_strains_26, 27) := ⟨by decide +kernel, (List.forall_mem_cons.mpr ⟨sC0, (fun _ h => absurd h List.not_mem_nil)⟩)⟩
theorem kM_strains_27 : Bok "HerbWatersModel" prog_14_method_55_code (27, bM_strains_27, 36) := ⟨by decide +kernel, (List.forall_mem_cons.mpr ⟨sADD, (List.forall_mem_cons.mpr ⟨sLA0, (List.forall_mem_cons.mpr ⟨lM_g89, (List.forall_mem_cons.mpr ⟨sLI2, (List.forall_mem_cons.mpr ⟨sICne, (fun _ h => absurd h List.not_mem_nil)⟩)⟩)⟩)⟩)⟩)⟩
theorem kM_strains_36 : Bok "HerbWatersModel" prog_14_method_55_code (36, bM_strains_36, 44) := ⟨by decide +kernel, (List.forall_mem_cons.mpr ⟨sLA0, (List.forall_mem_cons.mpr ⟨lM_g321, (List.forall_mem_cons.mpr ⟨sLI3, (List.forall_mem_cons.mpr ⟨sICne, (fun _ h => absurd h List.not_mem_nil)⟩)⟩)⟩)⟩)⟩
theorem kM_strains_44 : Bok "HerbWatersModel" prog_14_method_55_code (44, bM_strains_44, 51) := ⟨by decide +kernel, (List.forall_mem_cons.mpr ⟨sLA0, (List.forall_mem_cons.mpr ⟨lM_g324, (List.forall_mem_cons.mpr ⟨sGO, (fun _ h => absurd h List.not_mem_nil)⟩)⟩)⟩)⟩
theorem kM_strains_51 : Bok "HerbWatersModel" prog_14_method_55_code (51, bM_strains_51, 52) := ⟨by decide +kernel, (List.forall_mem_cons.mpr ⟨sC0, (fun _ h => absurd h List.not_mem_nil)⟩)⟩
theorem kM_strains_52 : Bok "HerbWatersModel" prog_14_method_55_code (52, bM_strains_52, 58) := ⟨by decide +kernel, (List.forall_mem_cons.mpr ⟨sADD, (List.forall_mem_cons.mpr ⟨sSI4, (List.forall_mem_cons.mpr ⟨sC0, (List.forall_mem_cons.mpr ⟨sSI5, (fun _ h => absurd h List.not_mem_nil)⟩)⟩)⟩)⟩)⟩
theorem kM_strains_58 : Bok "HerbWatersModel" prog_14_method_55_code (58, bM_strains_58, 65) := ⟨by decide +kernel, (List.forall_mem_cons.mpr ⟨sLI5, (List.forall_mem_cons.mpr ⟨sBP, (List.forall_mem_cons.mpr ⟨sICge, (fun _ h => absurd h List.not_mem_nil)⟩)⟩)⟩)⟩
theorem kM_strains_65 : Bok "HerbWatersModel" prog_14_method_55_code (65, bM_strains_65, 118) := ⟨by decide +kernel, (List.forall_mem_cons.mpr ⟨sLI4, (List.forall_mem_cons.mpr ⟨sLA1, (List.forall_mem_cons.mpr ⟨sLI2, (List.forall_mem_cons.mpr ⟨sLI3, (List.forall_mem_cons.mpr ⟨sLI5, (List.forall_mem_cons.mpr ⟨lM_s318, (List.forall_mem_cons.mpr ⟨sIALD, (List.forall_mem_cons.mpr ⟨lM_s303, (List.forall_mem_cons.mpr ⟨sSI6, (List.forall_mem_cons.mpr ⟨sLA1, (List.forall_mem_cons.mpr ⟨sLI2, (List.forall_mem_cons.mpr ⟨sLI3, (List.forall_mem_cons.mpr ⟨sLI5, (List.forall_mem_cons.mpr ⟨lM_s318, (List.forall_mem_cons.mpr ⟨sDUP2, (List.forall_mem_cons.mpr ⟨sIALD, (List.forall_mem_cons.mpr ⟨sLI6, (List.forall_mem_cons.mpr ⟨sSUB, (List.forall_mem_cons.mpr ⟨sIAST, (List.forall_mem_cons.mpr ⟨sLA1, (List.forall_mem_cons.mpr ⟨sSP, (List.forall_mem_cons.mpr ⟨sDUP2, (List.forall_mem_cons.mpr ⟨sIALD, (List.forall_mem_cons.mpr ⟨sLI6, (List.forall_mem_cons.mpr ⟨sADD, (List.forall_mem_cons.mpr ⟨sIAST, (List.forall_mem_cons.mpr ⟨sLI4, (List.forall_mem_cons.mpr ⟨sLI6, (List.forall_mem_cons.mpr ⟨sSUB, (List.forall_mem_cons.mpr ⟨sSI4, (List.forall_mem_cons.mpr ⟨sINC5, (List.forall_mem_cons.mpr ⟨sGO, (fun _ h => absurd h List.not_mem_nil)⟩)⟩)⟩)⟩)⟩)⟩)⟩)⟩)⟩)⟩)⟩)⟩)⟩)⟩)⟩)⟩)⟩)⟩)⟩)⟩)⟩)⟩)⟩)⟩)⟩)⟩)⟩)⟩)⟩)⟩)⟩)⟩)⟩
theorem kM_strains_118 : Bok "HerbWatersModel" prog_14_method_55_code (118, bM_strains_118, 119) := ⟨by decide +kernel, (List.forall_mem_cons.mpr ⟨sRV, (fun _ h => absurd h List.not_mem_nil)⟩)⟩
theorem kM_strains : ∀ q ∈ tM_strains, Bok "HerbWatersModel" prog_14_method_55_code q := (List.forall_mem_cons.mpr ⟨kM_strains_0, (List.forall_mem_cons.mpr ⟨kM_strains_17, (List.forall_mem_cons.mpr ⟨kM_strains_26, (List.forall_mem_cons.mpr ⟨kM_strains_27, (List.forall_mem_cons.mpr ⟨kM_strains_36, (List.forall_mem_cons.mpr ⟨kM_strains_44, (List.forall_mem_cons.mpr ⟨kM_strains_51, (List.forall_mem_cons.mpr ⟨kM_strains_52, (List.forall_mem_cons.mpr ⟨kM_strains_58, (List.forall_mem_cons.mpr ⟨kM_strains_65, (List.forall_mem_cons.mpr ⟨kM_strains_118, (fun _ h => absurd h List.not_mem_nil)⟩)⟩)⟩)⟩)⟩)⟩)⟩)⟩)⟩)⟩)⟩)
def mM_knows : Mt := (⟨"HerbWatersModel", "knows", "([II)V"⟩, prog_14_method_56_code, 5, none)
theorem ok_M_knows : Mok mM_knows := ⟨gtb_mem 2119 (by decide +kernel) rfl, gtb_mem 107 (by decide +kernel) rfl, by decide +kernel, by decide⟩
theorem lM_s327 : Snd "HerbWatersModel" (iCS3 327 mM_herbsOf) := sCS3 ok_M_herbsOf (gtb_mem 2086 (by decide +kernel) rfl) (gtb_mem 2085 (by decide +kernel) rfl)
def bM_knows_0 : List Ir := [iLA0, (iGR 31 11 14), iLI2, iAALD107, iC3, iIALD, iSI3, iC0, iSI4]
def bM_knows_12 : List Ir := [iLI4, iC4, (iICge (64) 79)]
def bM_knows_18 : List Ir := [iLA0, (iGR 62 11 24), iLI4, iLI3, (iIFle (25) 50)]
def bM_knows_28 : List Ir := [iLA1, (iSP 252), (iBP 36), iLI3, iC1, iSUB, iMUL, iADD, iC4, iLI2, iMUL, iADD, iLI4, iADD, iIALD, (iGO (25) 72)]
def bM_knows_50 : List Ir := [iLI4, (iIFne (11) 63)]
def bM_knows_55 : List Ir := [iLA1, iC0, iLI2, iADD, iIALD, (iGO (12) 72)]
def bM_knows_63 : List Ir := [iLA1, iLI2, iLI4, iC1, iSUB, (iCS3 327 mM_herbsOf)]
def bM_knows_72 : List Ir := [iIAST, (iINC4 1), (iGO (-64) 12)]
def bM_knows_79 : List Ir := [iLA0, (iGR 62 11 24), iC4, iLA1, (iSP 501), iIALD, iIAST, iLA0, (iGR 62 11 24), iC5, iLA1, (iSP 432), iLI2, iADD, iIALD, iIAST, iLA0, (iGR 62 11 24), (iBP 6), iLA0, (iGR 31 11 14), iLI2, iAALD107, iC1, iIALD, iIAST, iRV]
def tM_knows : Tb := [(0, bM_knows_0, 12), (12, bM_knows_12, 18), (18, bM_knows_18, 28), (28, bM_knows_28, 50), (50, bM_knows_50, 55), (55, bM_knows_55, 63), (63, bM_knows_63, 72), (72, bM_knows_72, 79), (79, bM_knows_79, 119)]
theorem fM_knows_0 : tbf tM_knows 0 = some (bM_knows_0, 12) := rfl
theorem fM_knows_12 : tbf tM_knows 12 = some (bM_knows_12, 18) := rfl
theorem fM_knows_18 : tbf tM_knows 18 = some (bM_knows_18, 28) := rfl
theorem fM_knows_28 : tbf tM_knows 28 = some (bM_knows_28, 50) := rfl
theorem fM_knows_50 : tbf tM_knows 50 = some (bM_knows_50, 55) := rfl
theorem fM_knows_55 : tbf tM_knows 55 = some (bM_knows_55, 63) := rfl
theorem fM_knows_63 : tbf tM_knows 63 = some (bM_knows_63, 72) := rfl
theorem fM_knows_72 : tbf tM_knows 72 = some (bM_knows_72, 79) := rfl
theorem fM_knows_79 : tbf tM_knows 79 = some (bM_knows_79, 119) := rfl
theorem kM_knows_0 : Bok "HerbWatersModel" prog_14_method_56_code (0, bM_knows_0, 12) := ⟨by decide +kernel, (List.forall_mem_cons.mpr ⟨sLA0, (List.forall_mem_cons.mpr ⟨lM_g31, (List.forall_mem_cons.mpr ⟨sLI2, (List.forall_mem_cons.mpr ⟨sAALD107, (List.forall_mem_cons.mpr ⟨sC3, (List.forall_mem_cons.mpr ⟨sIALD, (List.forall_mem_cons.mpr ⟨sSI3, (List.forall_mem_cons.mpr ⟨sC0, (List.forall_mem_cons.mpr ⟨sSI4, (fun _ h => absurd h List.not_mem_nil)⟩)⟩)⟩)⟩)⟩)⟩)⟩)⟩)⟩)⟩
theorem kM_knows_12 : Bok "HerbWatersModel" prog_14_method_56_code (12, bM_knows_12, 18) := ⟨by decide +kernel, (List.forall_mem_cons.mpr ⟨sLI4, (List.forall_mem_cons.mpr ⟨sC4, (List.forall_mem_cons.mpr ⟨sICge, (fun _ h => absurd h List.not_mem_nil)⟩)⟩)⟩)⟩
theorem kM_knows_18 : Bok "HerbWatersModel" prog_14_method_56_code (18, bM_knows_18, 28) := ⟨by decide +kernel, (List.forall_mem_cons.mpr ⟨sLA0, (List.forall_mem_cons.mpr ⟨lM_g62, (List.forall_mem_cons.mpr ⟨sLI4, (List.forall_mem_cons.mpr ⟨sLI3, (List.forall_mem_cons.mpr ⟨sIFle, (fun _ h => absurd h List.not_mem_nil)⟩)⟩)⟩)⟩)⟩)⟩
theorem kM_knows_28 : Bok "HerbWatersModel" prog_14_method_56_code (28, bM_knows_28, 50) := ⟨by decide +kernel, (List.forall_mem_cons.mpr ⟨sLA1, (List.forall_mem_cons.mpr ⟨sSP, (List.forall_mem_cons.mpr ⟨sBP, (List.forall_mem_cons.mpr ⟨sLI3, (List.forall_mem_cons.mpr ⟨sC1, (List.forall_mem_cons.mpr ⟨sSUB, (List.forall_mem_cons.mpr ⟨sMUL, (List.forall_mem_cons.mpr ⟨sADD, (List.forall_mem_cons.mpr ⟨sC4, (List.forall_mem_cons.mpr ⟨sLI2, (List.forall_mem_cons.mpr ⟨sMUL, (List.forall_mem_cons.mpr ⟨sADD, (List.forall_mem_cons.mpr ⟨sLI4, (List.forall_mem_cons.mpr ⟨sADD, (List.forall_mem_cons.mpr ⟨sIALD, (List.forall_mem_cons.mpr ⟨sGO, (fun _ h => absurd h List.not_mem_nil)⟩)⟩)⟩)⟩)⟩)⟩)⟩)⟩)⟩)⟩)⟩)⟩)⟩)⟩)⟩)⟩)⟩
theorem kM_knows_50 : Bok "HerbWatersModel" prog_14_method_56_code (50, bM_knows_50, 55) := ⟨by decide +kernel, (List.forall_mem_cons.mpr ⟨sLI4, (List.forall_mem_cons.mpr ⟨sIFne, (fun _ h => absurd h List.not_mem_nil)⟩)⟩)⟩
theorem kM_knows_55 : Bok "HerbWatersModel" prog_14_method_56_code (55, bM_knows_55, 63) := ⟨by decide +kernel, (List.forall_mem_cons.mpr ⟨sLA1, (List.forall_mem_cons.mpr ⟨sC0, (List.forall_mem_cons.mpr ⟨sLI2, (List.forall_mem_cons.mpr ⟨sADD, (List.forall_mem_cons.mpr ⟨sIALD, (List.forall_mem_cons.mpr ⟨sGO, (fun _ h => absurd h List.not_mem_nil)⟩)⟩)⟩)⟩)⟩)⟩)⟩
theorem kM_knows_63 : Bok "HerbWatersModel" prog_14_method_56_code (63, bM_knows_63, 72) := ⟨by decide +kernel, (List.forall_mem_cons.mpr ⟨sLA1, (List.forall_mem_cons.mpr ⟨sLI2, (List.forall_mem_cons.mpr ⟨sLI4, (List.forall_mem_cons.mpr ⟨sC1, (List.forall_mem_cons.mpr ⟨sSUB, (List.forall_mem_cons.mpr ⟨lM_s327, (fun _ h => absurd h List.not_mem_nil)⟩)⟩)⟩)⟩)⟩)⟩)⟩
theorem kM_knows_72 : Bok "HerbWatersModel" prog_14_method_56_code (72, bM_knows_72, 79) := ⟨by decide +kernel, (List.forall_mem_cons.mpr ⟨sIAST, (List.forall_mem_cons.mpr ⟨sINC4, (List.forall_mem_cons.mpr ⟨sGO, (fun _ h => absurd h List.not_mem_nil)⟩)⟩)⟩)⟩
theorem kM_knows_79 : Bok "HerbWatersModel" prog_14_method_56_code (79, bM_knows_79, 119) := ⟨by decide +kernel, (List.forall_mem_cons.mpr ⟨sLA0, (List.forall_mem_cons.mpr ⟨lM_g62, (List.forall_mem_cons.mpr ⟨sC4, (List.forall_mem_cons.mpr ⟨sLA1, (List.forall_mem_cons.mpr ⟨sSP, (List.forall_mem_cons.mpr ⟨sIALD, (List.forall_mem_cons.mpr ⟨sIAST, (List.forall_mem_cons.mpr ⟨sLA0, (List.forall_mem_cons.mpr ⟨lM_g62, (List.forall_mem_cons.mpr ⟨sC5, (List.forall_mem_cons.mpr ⟨sLA1, (List.forall_mem_cons.mpr ⟨sSP, (List.forall_mem_cons.mpr ⟨sLI2, (List.forall_mem_cons.mpr ⟨sADD, (List.forall_mem_cons.mpr ⟨sIALD, (List.forall_mem_cons.mpr ⟨sIAST, (List.forall_mem_cons.mpr ⟨sLA0, (List.forall_mem_cons.mpr ⟨lM_g62, (List.forall_mem_cons.mpr ⟨sBP, (List.forall_mem_cons.mpr ⟨sLA0, (List.forall_mem_cons.mpr ⟨lM_g31, (List.forall_mem_cons.mpr ⟨sLI2, (List.forall_mem_cons.mpr ⟨sAALD107, (List.forall_mem_cons.mpr ⟨sC1, (List.forall_mem_cons.mpr ⟨sIALD, (List.forall_mem_cons.mpr ⟨sIAST, (List.forall_mem_cons.mpr ⟨sRV, (fun _ h => absurd h List.not_mem_nil)⟩)⟩)⟩)⟩)⟩)⟩)⟩)⟩)⟩)⟩)⟩)⟩)⟩)⟩)⟩)⟩)⟩)⟩)⟩)⟩)⟩)⟩)⟩)⟩)⟩)⟩)⟩)⟩
theorem kM_knows : ∀ q ∈ tM_knows, Bok "HerbWatersModel" prog_14_method_56_code q := (List.forall_mem_cons.mpr ⟨kM_knows_0, (List.forall_mem_cons.mpr ⟨kM_knows_12, (List.forall_mem_cons.mpr ⟨kM_knows_18, (List.forall_mem_cons.mpr ⟨kM_knows_28, (List.forall_mem_cons.mpr ⟨kM_knows_50, (List.forall_mem_cons.mpr ⟨kM_knows_55, (List.forall_mem_cons.mpr ⟨kM_knows_63, (List.forall_mem_cons.mpr ⟨kM_knows_72, (List.forall_mem_cons.mpr ⟨kM_knows_79, (fun _ h => absurd h List.not_mem_nil)⟩)⟩)⟩)⟩)⟩)⟩)⟩)⟩)⟩)
def mM_steps : Mt := (⟨"HerbWatersModel", "steps", "([I)V"⟩, prog_14_method_57_code, 6, none)
theorem ok_M_steps : Mok mM_steps := ⟨gtb_mem 2106 (by decide +kernel) rfl, gtb_mem 107 (by decide +kernel) rfl, by decide +kernel, by decide⟩
theorem lM_v331 : Snd "HerbWatersModel" (iCV4 331 11 mM_flows) := sCV4 _ rfl rfl ok_M_flows (gtb_mem 2109 (by decide +kernel) rfl) (gtb_mem 77 (by decide +kernel) rfl) (gtb_mem 2107 (by decide +kernel) rfl)
theorem lM_g315 : Snd "HerbWatersModel" (iGI 315 11 47) := sGI _ rfl (gtb_mem 1770 (by decide +kernel) rfl)
theorem lM_g335 : Snd "HerbWatersModel" (iGI 335 11 48) := sGI _ rfl (gtb_mem 1771 (by decide +kernel) rfl)
theorem lM_k338 : Snd "HerbWatersModel" (iLDCW 338 1103515245) := sLDCW (gtb_mem 2111 (by decide +kernel) rfl)
theorem lM_p335 : Snd "HerbWatersModel" (iPI 335 11 48) := sPI _ rfl rfl (gtb_mem 1771 (by decide +kernel) rfl)
theorem lM_v339 : Snd "HerbWatersModel" (iCV3 339 11 mM_strains) := sCV3 _ rfl rfl ok_M_strains (gtb_mem 2114 (by decide +kernel) rfl) (gtb_mem 78 (by decide +kernel) rfl) (gtb_mem 2112 (by decide +kernel) rfl)
theorem lM_g102 : Snd "HerbWatersModel" (iGR 102 11 51) := sGR _ rfl (gtb_mem 1774 (by decide +kernel) rfl)
theorem lM_g309 : Snd "HerbWatersModel" (iGI 309 11 41) := sGI _ rfl (gtb_mem 1764 (by decide +kernel) rfl)
theorem lM_g92 : Snd "HerbWatersModel" (iGI 92 11 46) := sGI _ rfl (gtb_mem 1769 (by decide +kernel) rfl)
theorem lM_v343 : Snd "HerbWatersModel" (iCV2 343 11 mM_knows) := sCV2 _ rfl rfl ok_M_knows (gtb_mem 2118 (by decide +kernel) rfl) (gtb_mem 79 (by decide +kernel) rfl) (gtb_mem 2116 (by decide +kernel) rfl)
theorem lM_g312 : Snd "HerbWatersModel" (iGI 312 11 42) := sGI _ rfl (gtb_mem 1765 (by decide +kernel) rfl)
def bM_steps_0 : List Ir := [iLA1, (iSP 501), iDUP2, iIALD, iC1, iADD, iIAST, iC0, iSI2]
def bM_steps_11 : List Ir := [iLI2, iC4, (iICge (17) 30)]
def bM_steps_16 : List Ir := [iLA1, (iSP 497), iLI2, iADD, iC0, iIAST, (iINC2 1), (iGO (-16) 11)]
def bM_steps_30 : List Ir := [iC0, iSI2]
def bM_steps_32 : List Ir := [iLI2, (iSP 252), (iICge (18) 54)]
def bM_steps_39 : List Ir := [iLA0, (iGR 99 11 50), iLI2, iLA1, iLI2, iIALD, iIAST, (iINC2 1), (iGO (-19) 32)]
def bM_steps_54 : List Ir := [iC0, iSI2]
def bM_steps_56 : List Ir := [iLI2, iLA0, (iGR 23 11 12), iC0, iIALD, (iICge (50) 113)]
def bM_steps_66 : List Ir := [iLA0, iLA1, iLI2, iC0, iLI2, iADD, iC1, (iCV4 331 11 mM_flows), iC0, iSI3]
def bM_steps_78 : List Ir := [iLI3, (iBP 27), (iICge (26) 107)]
def bM_steps_84 : List Ir := [iLA0, iLA1, iLI2, (iBP 9), (iBP 27), iLI2, iMUL, iADD, iLI3, iADD, (iBP 27), (iCV4 331 11 mM_flows), (iINC3 1), (iGO (-26) 78)]
def bM_steps_107 : List Ir := [(iINC2 1), (iGO (-54) 56)]
def bM_steps_113 : List Ir := [iC0, iSI2]
def bM_steps_115 : List Ir := [iLI2, iLA0, (iGR 23 11 12), iC0, iIALD, (iICge (81) 203)]
def bM_steps_125 : List Ir := [iC0, iSI3, iLA0, (iGI 315 11 47), (iIFle (42) 173)]
def bM_steps_134 : List Ir := [iLA0, iLA0, (iGI 335 11 48), (iLDCW 338 1103515245), iMUL, (iSP 12345), iADD, (iPI 335 11 48), iLA0, (iGI 335 11 48), (iBP 16), iSHR, (iBP 15), iAND, iLA0, (iGI 315 11 47), (iICge (7) 171)]
def bM_steps_167 : List Ir := [iC1, (iGO (4) 172)]
def bM_steps_171 : List Ir := [iC0]
def bM_steps_172 : List Ir := [iSI3]
def bM_steps_173 : List Ir := [iLA1, iC0, iLI2, iADD, iDUP2, iIALD, iLI3, (iIFeq (7) 187)]
def bM_steps_183 : List Ir := [iC0, (iGO (11) 195)]
def bM_steps_187 : List Ir := [iLA0, (iGR 31 11 14), iLI2, iAALD107, iC1, iIALD]
def bM_steps_195 : List Ir := [iADD, iIAST, (iINC2 1), (iGO (-85) 115)]
def bM_steps_203 : List Ir := [iC0, iSI2]
def bM_steps_205 : List Ir := [iLI2, iLA0, (iGR 23 11 12), iC0, iIALD, (iICge (29) 241)]
def bM_steps_215 : List Ir := [iC0, iSI3]
def bM_steps_217 : List Ir := [iLI3, iC3, (iICge (16) 235)]
def bM_steps_222 : List Ir := [iLA0, iLA1, iLI2, iLI3, (iCV3 339 11 mM_strains), (iINC3 1), (iGO (-15) 217)]
def bM_steps_235 : List Ir := [(iINC2 1), (iGO (-33) 205)]
def bM_steps_241 : List Ir := [iC0, iSI2]
def bM_steps_243 : List Ir := [iLI2, (iBP 27), (iICge (16) 262)]
def bM_steps_249 : List Ir := [iLA0, (iGR 102 11 51), iLI2, iC0, iIAST, (iINC2 1), (iGO (-16) 243)]
def bM_steps_262 : List Ir := [iC0, iSI2]
def bM_steps_264 : List Ir := [iLI2, iLA0, (iGR 23 11 12), iC0, iIALD, (iICge (135) 406)]
def bM_steps_274 : List Ir := [iLA0, (iGI 309 11 41), iLI2, iSHR, iC1, iAND, (iIFne (23) 305)]
def bM_steps_285 : List Ir := [iLA0, (iGI 92 11 46), iCm1, (iICeq (11) 301)]
def bM_steps_293 : List Ir := [iLA0, (iGI 92 11 46), iLI2, (iICne (7) 305)]
def bM_steps_301 : List Ir := [iC1, (iGO (4) 306)]
def bM_steps_305 : List Ir := [iC0]
def bM_steps_306 : List Ir := [iSI3, iLA0, iLA1, iLI2, (iCV2 343 11 mM_knows), iC0, iSI4]
def bM_steps_316 : List Ir := [iLI4, iLA0, (iGR 40 11 17), iLI2, iIALD, (iICge (76) 400)]
def bM_steps_327 : List Ir := [iLI3, (iIFeq (72) 400)]
def bM_steps_331 : List Ir := [iLA0, (iGR 47 11 19), iLI2, iAALD107, iC4, iLI4, iMUL, iIALD, iSI5, iLA0, (iGI 312 11 42), iLI2, iSHR, iC1, iAND, iC1, (iICne (16) 369)]
def bM_steps_356 : List Ir := [iLI5, iC2, (iICge (10) 369)]
def bM_steps_362 : List Ir := [iC1, iLI5, iSUB, (iGO (5) 371)]
def bM_steps_369 : List Ir := [iLI5]
def bM_steps_371 : List Ir := [iSI5, iLA0, (iGR 102 11 51), iC3, iLI2, iMUL, iLI5, iADD, iDUP2, iIALD, iLA0, iLI2, iLI4, (iCV2 306 11 mM_puts), iADD, iIAST, (iINC4 1), (iGO (-81) 316)]
def bM_steps_400 : List Ir := [(iINC2 1), (iGO (-139) 264)]
def bM_steps_406 : List Ir := [iC0, iSI2]
def bM_steps_408 : List Ir := [iLI2, iLA0, (iGR 23 11 12), iC0, iIALD, (iICge (83) 498)]
def bM_steps_418 : List Ir := [iLA1, (iSP 432), iLI2, iADD, iC0, iIAST, iC0, iSI3]
def bM_steps_428 : List Ir := [iLI3, iC3, (iICge (62) 492)]
def bM_steps_433 : List Ir := [iLA0, (iGR 102 11 51), iC3, iLI2, iMUL, iLI3, iADD, iIALD, iSI4, iLA1, iLI2, iLI3, iLI2, (iCS3 318 mM_herbAt), iDUP2, iIALD, iLI4, iADD, iIAST, iLA1, (iSP 441), iC3, iLI2, iMUL, iADD, iLI3, iADD, iDUP2, iIALD, iLI4, iADD, iIAST, iLA1, (iSP 432), iLI2, iADD, iDUP2, iIALD, iLI4, iADD, iIAST, (iINC3 1), (iGO (-61) 428)]
def bM_steps_492 : List Ir := [(iINC2 1), (iGO (-87) 408)]
def bM_steps_498 : List Ir := [(iSP 431), iSI2]
def bM_steps_502 : List Ir := [iLI2, (iSP 288), (iIClt (18) 524)]
def bM_steps_509 : List Ir := [iLA1, iLI2, iLA1, iLI2, (iBP 36), iSUB, iIALD, iIAST, (iDEC2 1), (iGO (-19) 502)]
def bM_steps_524 : List Ir := [iC0, iSI2]
def bM_steps_526 : List Ir := [iLI2, iLA0, (iGR 23 11 12), iC0, iIALD, (iICge (55) 588)]
def bM_steps_536 : List Ir := [iLA1, (iSP 252), iC4, iLI2, iMUL, iADD, iLA1, iC0, iLI2, iADD, iIALD, iIAST, iC0, iSI3]
def bM_steps_552 : List Ir := [iLI3, iC3, (iICge (28) 582)]
def bM_steps_557 : List Ir := [iLA1, (iSP 252), iC4, iLI2, iMUL, iADD, iC1, iADD, iLI3, iADD, iLA1, iLI2, iLI3, (iCS3 327 mM_herbsOf), iIAST, (iINC3 1), (iGO (-27) 552)]
def bM_steps_582 : List Ir := [(iINC2 1), (iGO (-59) 526)]
def bM_steps_588 : List Ir := [iRV]
def tM_steps : Tb := [(0, bM_steps_0, 11), (11, bM_steps_11, 16), (16, bM_steps_16, 30), (30, bM_steps_30, 32), (32, bM_steps_32, 39), (39, bM_steps_39, 54), (54, bM_steps_54, 56), (56, bM_steps_56, 66), (66, bM_steps_66, 78), (78, bM_steps_78, 84), (84, bM_steps_84, 107), (107, bM_steps_107, 113), (113, bM_steps_113, 115), (115, bM_steps_115, 125), (125, bM_steps_125, 134), (134, bM_steps_134, 167), (167, bM_steps_167, 171), (171, bM_steps_171, 172), (172, bM_steps_172, 173), (173, bM_steps_173, 183), (183, bM_steps_183, 187), (187, bM_steps_187, 195), (195, bM_steps_195, 203), (203, bM_steps_203, 205), (205, bM_steps_205, 215), (215, bM_steps_215, 217), (217, bM_steps_217, 222), (222, bM_steps_222, 235), (235, bM_steps_235, 241), (241, bM_steps_241, 243), (243, bM_steps_243, 249), (249, bM_steps_249, 262), (262, bM_steps_262, 264), (264, bM_steps_264, 274), (274, bM_steps_274, 285), (285, bM_steps_285, 293), (293, bM_steps_293, 301), (301, bM_steps_301, 305), (305, bM_steps_305, 306), (306, bM_steps_306, 316), (316, bM_steps_316, 327), (327, bM_steps_327, 331), (331, bM_steps_331, 356), (356, bM_steps_356, 362), (362, bM_steps_362, 369), (369, bM_steps_369, 371), (371, bM_steps_371, 400), (400, bM_steps_400, 406), (406, bM_steps_406, 408), (408, bM_steps_408, 418), (418, bM_steps_418, 428), (428, bM_steps_428, 433), (433, bM_steps_433, 492), (492, bM_steps_492, 498), (498, bM_steps_498, 502), (502, bM_steps_502, 509), (509, bM_steps_509, 524), (524, bM_steps_524, 526), (526, bM_steps_526, 536), (536, bM_steps_536, 552), (552, bM_steps_552, 557), (557, bM_steps_557, 582), (582, bM_steps_582, 588), (588, bM_steps_588, 589)]
theorem fM_steps_0 : tbf tM_steps 0 = some (bM_steps_0, 11) := rfl
theorem fM_steps_11 : tbf tM_steps 11 = some (bM_steps_11, 16) := rfl
theorem fM_steps_16 : tbf tM_steps 16 = some (bM_steps_16, 30) := rfl
theorem fM_steps_30 : tbf tM_steps 30 = some (bM_steps_30, 32) := rfl
theorem fM_steps_32 : tbf tM_steps 32 = some (bM_steps_32, 39) := rfl
theorem fM_steps_39 : tbf tM_steps 39 = some (bM_steps_39, 54) := rfl
theorem fM_steps_54 : tbf tM_steps 54 = some (bM_steps_54, 56) := rfl
theorem fM_steps_56 : tbf tM_steps 56 = some (bM_steps_56, 66) := rfl
theorem fM_steps_66 : tbf tM_steps 66 = some (bM_steps_66, 78) := rfl
theorem fM_steps_78 : tbf tM_steps 78 = some (bM_steps_78, 84) := rfl
theorem fM_steps_84 : tbf tM_steps 84 = some (bM_steps_84, 107) := rfl
theorem fM_steps_107 : tbf tM_steps 107 = some (bM_steps_107, 113) := rfl
theorem fM_steps_113 : tbf tM_steps 113 = some (bM_steps_113, 115) := rfl
theorem fM_steps_115 : tbf tM_steps 115 = some (bM_steps_115, 125) := rfl
theorem fM_steps_125 : tbf tM_steps 125 = some (bM_steps_125, 134) := rfl
theorem fM_steps_134 : tbf tM_steps 134 = some (bM_steps_134, 167) := rfl
theorem fM_steps_167 : tbf tM_steps 167 = some (bM_steps_167, 171) := rfl
theorem fM_steps_171 : tbf tM_steps 171 = some (bM_steps_171, 172) := rfl
theorem fM_steps_172 : tbf tM_steps 172 = some (bM_steps_172, 173) := rfl
theorem fM_steps_173 : tbf tM_steps 173 = some (bM_steps_173, 183) := rfl
theorem fM_steps_183 : tbf tM_steps 183 = some (bM_steps_183, 187) := rfl
theorem fM_steps_187 : tbf tM_steps 187 = some (bM_steps_187, 195) := rfl
theorem fM_steps_195 : tbf tM_steps 195 = some (bM_steps_195, 203) := rfl
theorem fM_steps_203 : tbf tM_steps 203 = some (bM_steps_203, 205) := rfl
theorem fM_steps_205 : tbf tM_steps 205 = some (bM_steps_205, 215) := rfl
theorem fM_steps_215 : tbf tM_steps 215 = some (bM_steps_215, 217) := rfl
theorem fM_steps_217 : tbf tM_steps 217 = some (bM_steps_217, 222) := rfl
theorem fM_steps_222 : tbf tM_steps 222 = some (bM_steps_222, 235) := rfl
theorem fM_steps_235 : tbf tM_steps 235 = some (bM_steps_235, 241) := rfl
theorem fM_steps_241 : tbf tM_steps 241 = some (bM_steps_241, 243) := rfl
theorem fM_steps_243 : tbf tM_steps 243 = some (bM_steps_243, 249) := rfl
theorem fM_steps_249 : tbf tM_steps 249 = some (bM_steps_249, 262) := rfl
theorem fM_steps_262 : tbf tM_steps 262 = some (bM_steps_262, 264) := rfl
theorem fM_steps_264 : tbf tM_steps 264 = some (bM_steps_264, 274) := rfl
theorem fM_steps_274 : tbf tM_steps 274 = some (bM_steps_274, 285) := rfl
theorem fM_steps_285 : tbf tM_steps 285 = some (bM_steps_285, 293) := rfl
theorem fM_steps_293 : tbf tM_steps 293 = some (bM_steps_293, 301) := rfl
theorem fM_steps_301 : tbf tM_steps 301 = some (bM_steps_301, 305) := rfl
theorem fM_steps_305 : tbf tM_steps 305 = some (bM_steps_305, 306) := rfl
theorem fM_steps_306 : tbf tM_steps 306 = some (bM_steps_306, 316) := rfl
theorem fM_steps_316 : tbf tM_steps 316 = some (bM_steps_316, 327) := rfl
theorem fM_steps_327 : tbf tM_steps 327 = some (bM_steps_327, 331) := rfl
theorem fM_steps_331 : tbf tM_steps 331 = some (bM_steps_331, 356) := rfl
theorem fM_steps_356 : tbf tM_steps 356 = some (bM_steps_356, 362) := rfl
theorem fM_steps_362 : tbf tM_steps 362 = some (bM_steps_362, 369) := rfl
theorem fM_steps_369 : tbf tM_steps 369 = some (bM_steps_369, 371) := rfl
theorem fM_steps_371 : tbf tM_steps 371 = some (bM_steps_371, 400) := rfl
theorem fM_steps_400 : tbf tM_steps 400 = some (bM_steps_400, 406) := rfl
theorem fM_steps_406 : tbf tM_steps 406 = some (bM_steps_406, 408) := rfl
theorem fM_steps_408 : tbf tM_steps 408 = some (bM_steps_408, 418) := rfl
theorem fM_steps_418 : tbf tM_steps 418 = some (bM_steps_418, 428) := rfl
theorem fM_steps_428 : tbf tM_steps 428 = some (bM_steps_428, 433) := rfl
theorem fM_steps_433 : tbf tM_steps 433 = some (bM_steps_433, 492) := rfl
theorem fM_steps_492 : tbf tM_steps 492 = some (bM_steps_492, 498) := rfl
theorem fM_steps_498 : tbf tM_steps 498 = some (bM_steps_498, 502) := rfl
theorem fM_steps_502 : tbf tM_steps 502 = some (bM_steps_502, 509) := rfl
theorem fM_steps_509 : tbf tM_steps 509 = some (bM_steps_509, 524) := rfl
theorem fM_steps_524 : tbf tM_steps 524 = some (bM_steps_524, 526) := rfl
theorem fM_steps_526 : tbf tM_steps 526 = some (bM_steps_526, 536) := rfl
theorem fM_steps_536 : tbf tM_steps 536 = some (bM_steps_536, 552) := rfl
theorem fM_steps_552 : tbf tM_steps 552 = some (bM_steps_552, 557) := rfl
theorem fM_steps_557 : tbf tM_steps 557 = some (bM_steps_557, 582) := rfl
theorem fM_steps_582 : tbf tM_steps 582 = some (bM_steps_582, 588) := rfl
theorem fM_steps_588 : tbf tM_steps 588 = some (bM_steps_588, 589) := rfl
theorem kM_steps_0 : Bok "HerbWatersModel" prog_14_method_57_code (0, bM_steps_0, 11) := ⟨by decide +kernel, (List.forall_mem_cons.mpr ⟨sLA1, (List.forall_mem_cons.mpr ⟨sSP, (List.forall_mem_cons.mpr ⟨sDUP2, (List.forall_mem_cons.mpr ⟨sIALD, (List.forall_mem_cons.mpr ⟨sC1, (List.forall_mem_cons.mpr ⟨sADD, (List.forall_mem_cons.mpr ⟨sIAST, (List.forall_mem_cons.mpr ⟨sC0, (List.forall_mem_cons.mpr ⟨sSI2, (fun _ h => absurd h List.not_mem_nil)⟩)⟩)⟩)⟩)⟩)⟩)⟩)⟩)⟩)⟩
theorem kM_steps_11 : Bok "HerbWatersModel" prog_14_method_57_code (11, bM_steps_11, 16) := ⟨by decide +kernel, (List.forall_mem_cons.mpr ⟨sLI2, (List.forall_mem_cons.mpr ⟨sC4, (List.forall_mem_cons.mpr ⟨sICge, (fun _ h => absurd h List.not_mem_nil)⟩)⟩)⟩)⟩
theorem kM_steps_16 : Bok "HerbWatersModel" prog_14_method_57_code (16, bM_steps_16, 30) := ⟨by decide +kernel, (List.forall_mem_cons.mpr ⟨sLA1, (List.forall_mem_cons.mpr ⟨sSP, (List.forall_mem_cons.mpr ⟨sLI2, (List.forall_mem_cons.mpr ⟨sADD, (List.forall_mem_cons.mpr ⟨sC0, (List.forall_mem_cons.mpr ⟨sIAST, (List.forall_mem_cons.mpr ⟨sINC2, (List.forall_mem_cons.mpr ⟨sGO, (fun _ h => absurd h List.not_mem_nil)⟩)⟩)⟩)⟩)⟩)⟩)⟩)⟩)⟩
theorem kM_steps_30 : Bok "HerbWatersModel" prog_14_method_57_code (30, bM_steps_30, 32) := ⟨by decide +kernel, (List.forall_mem_cons.mpr ⟨sC0, (List.forall_mem_cons.mpr ⟨sSI2, (fun _ h => absurd h List.not_mem_nil)⟩)⟩)⟩
theorem kM_steps_32 : Bok "HerbWatersModel" prog_14_method_57_code (32, bM_steps_32, 39) := ⟨by decide +kernel, (List.forall_mem_cons.mpr ⟨sLI2, (List.forall_mem_cons.mpr ⟨sSP, (List.forall_mem_cons.mpr ⟨sICge, (fun _ h => absurd h List.not_mem_nil)⟩)⟩)⟩)⟩
theorem kM_steps_39 : Bok "HerbWatersModel" prog_14_method_57_code (39, bM_steps_39, 54) := ⟨by decide +kernel, (List.forall_mem_cons.mpr ⟨sLA0, (List.forall_mem_cons.mpr ⟨lM_g99, (List.forall_mem_cons.mpr ⟨sLI2, (List.forall_mem_cons.mpr ⟨sLA1, (List.forall_mem_cons.mpr ⟨sLI2, (List.forall_mem_cons.mpr ⟨sIALD, (List.forall_mem_cons.mpr ⟨sIAST, (List.forall_mem_cons.mpr ⟨sINC2, (List.forall_mem_cons.mpr ⟨sGO, (fun _ h => absurd h List.not_mem_nil)⟩)⟩)⟩)⟩)⟩)⟩)⟩)⟩)⟩)⟩
theorem kM_steps_54 : Bok "HerbWatersModel" prog_14_method_57_code (54, bM_steps_54, 56) := ⟨by decide +kernel, (List.forall_mem_cons.mpr ⟨sC0, (List.forall_mem_cons.mpr ⟨sSI2, (fun _ h => absurd h List.not_mem_nil)⟩)⟩)⟩
theorem kM_steps_56 : Bok "HerbWatersModel" prog_14_method_57_code (56, bM_steps_56, 66) := ⟨by decide +kernel, (List.forall_mem_cons.mpr ⟨sLI2, (List.forall_mem_cons.mpr ⟨sLA0, (List.forall_mem_cons.mpr ⟨lM_g23, (List.forall_mem_cons.mpr ⟨sC0, (List.forall_mem_cons.mpr ⟨sIALD, (List.forall_mem_cons.mpr ⟨sICge, (fun _ h => absurd h List.not_mem_nil)⟩)⟩)⟩)⟩)⟩)⟩)⟩
theorem kM_steps_66 : Bok "HerbWatersModel" prog_14_method_57_code (66, bM_steps_66, 78) := ⟨by decide +kernel, (List.forall_mem_cons.mpr ⟨sLA0, (List.forall_mem_cons.mpr ⟨sLA1, (List.forall_mem_cons.mpr ⟨sLI2, (List.forall_mem_cons.mpr ⟨sC0, (List.forall_mem_cons.mpr ⟨sLI2, (List.forall_mem_cons.mpr ⟨sADD, (List.forall_mem_cons.mpr ⟨sC1, (List.forall_mem_cons.mpr ⟨lM_v331, (List.forall_mem_cons.mpr ⟨sC0, (List.forall_mem_cons.mpr ⟨sSI3, (fun _ h => absurd h List.not_mem_nil)⟩)⟩)⟩)⟩)⟩)⟩)⟩)⟩)⟩)⟩)⟩
theorem kM_steps_78 : Bok "HerbWatersModel" prog_14_method_57_code (78, bM_steps_78, 84) := ⟨by decide +kernel, (List.forall_mem_cons.mpr ⟨sLI3, (List.forall_mem_cons.mpr ⟨sBP, (List.forall_mem_cons.mpr ⟨sICge, (fun _ h => absurd h List.not_mem_nil)⟩)⟩)⟩)⟩
theorem kM_steps_84 : Bok "HerbWatersModel" prog_14_method_57_code (84, bM_steps_84, 107) := ⟨by decide +kernel, (List.forall_mem_cons.mpr ⟨sLA0, (List.forall_mem_cons.mpr ⟨sLA1, (List.forall_mem_cons.mpr ⟨sLI2, (List.forall_mem_cons.mpr ⟨sBP, (List.forall_mem_cons.mpr ⟨sBP, (List.forall_mem_cons.mpr ⟨sLI2, (List.forall_mem_cons.mpr ⟨sMUL, (List.forall_mem_cons.mpr ⟨sADD, (List.forall_mem_cons.mpr ⟨sLI3, (List.forall_mem_cons.mpr ⟨sADD, (List.forall_mem_cons.mpr ⟨sBP, (List.forall_mem_cons.mpr ⟨lM_v331, (List.forall_mem_cons.mpr ⟨sINC3, (List.forall_mem_cons.mpr ⟨sGO, (fun _ h => absurd h List.not_mem_nil)⟩)⟩)⟩)⟩)⟩)⟩)⟩)⟩)⟩)⟩)⟩)⟩)⟩)⟩)⟩
theorem kM_steps_107 : Bok "HerbWatersModel" prog_14_method_57_code (107, bM_steps_107, 113) := ⟨by decide +kernel, (List.forall_mem_cons.mpr ⟨sINC2, (List.forall_mem_cons.mpr ⟨sGO, (fun _ h => absurd h List.not_mem_nil)⟩)⟩)⟩
theorem kM_steps_113 : Bok "HerbWatersModel" prog_14_method_57_code (113, bM_steps_113, 115) := ⟨by decide +kernel, (List.forall_mem_cons.mpr ⟨sC0, (List.forall_mem_cons.mpr ⟨sSI2, (fun _ h => absurd h List.not_mem_nil)⟩)⟩)⟩
theorem kM_steps_115 : Bok "HerbWatersModel" prog_14_method_57_code (115, bM_steps_115, 125) := ⟨by decide +kernel, (List.forall_mem_cons.mpr ⟨sLI2, (List.forall_mem_cons.mpr ⟨sLA0, (List.forall_mem_cons.mpr ⟨lM_g23, (List.forall_mem_cons.mpr ⟨sC0, (List.forall_mem_cons.mpr ⟨sIALD, (List.forall_mem_cons.mpr ⟨sICge, (fun _ h => absurd h List.not_mem_nil)⟩)⟩)⟩)⟩)⟩)⟩)⟩
theorem kM_steps_125 : Bok "HerbWatersModel" prog_14_method_57_code (125, bM_steps_125, 134) := ⟨by decide +kernel, (List.forall_mem_cons.mpr ⟨sC0, (List.forall_mem_cons.mpr ⟨sSI3, (List.forall_mem_cons.mpr ⟨sLA0, (List.forall_mem_cons.mpr ⟨lM_g315, (List.forall_mem_cons.mpr ⟨sIFle, (fun _ h => absurd h List.not_mem_nil)⟩)⟩)⟩)⟩)⟩)⟩
theorem kM_steps_134 : Bok "HerbWatersModel" prog_14_method_57_code (134, bM_steps_134, 167) := ⟨by decide +kernel, (List.forall_mem_cons.mpr ⟨sLA0, (List.forall_mem_cons.mpr ⟨sLA0, (List.forall_mem_cons.mpr ⟨lM_g335, (List.forall_mem_cons.mpr ⟨lM_k338, (List.forall_mem_cons.mpr ⟨sMUL, (List.forall_mem_cons.mpr ⟨sSP, (List.forall_mem_cons.mpr ⟨sADD, (List.forall_mem_cons.mpr ⟨lM_p335, (List.forall_mem_cons.mpr ⟨sLA0, (List.forall_mem_cons.mpr ⟨lM_g335, (List.forall_mem_cons.mpr ⟨sBP, (List.forall_mem_cons.mpr ⟨sSHR, (List.forall_mem_cons.mpr ⟨sBP, (List.forall_mem_cons.mpr ⟨sAND, (List.forall_mem_cons.mpr ⟨sLA0, (List.forall_mem_cons.mpr ⟨lM_g315, (List.forall_mem_cons.mpr ⟨sICge, (fun _ h => absurd h List.not_mem_nil)⟩)⟩)⟩)⟩)⟩)⟩)⟩)⟩)⟩)⟩)⟩)⟩)⟩)⟩)⟩)⟩)⟩)⟩
theorem kM_steps_167 : Bok "HerbWatersModel" prog_14_method_57_code (167, bM_steps_167, 171) := ⟨by decide +kernel, (List.forall_mem_cons.mpr ⟨sC1, (List.forall_mem_cons.mpr ⟨sGO, (fun _ h => absurd h List.not_mem_nil)⟩)⟩)⟩
theorem kM_steps_171 : Bok "HerbWatersModel" prog_14_method_57_code (171, bM_steps_171, 172) := ⟨by decide +kernel, (List.forall_mem_cons.mpr ⟨sC0, (fun _ h => absurd h List.not_mem_nil)⟩)⟩
theorem kM_steps_172 : Bok "HerbWatersModel" prog_14_method_57_code (172, bM_steps_172, 173) := ⟨by decide +kernel, (List.forall_mem_cons.mpr ⟨sSI3, (fun _ h => absurd h List.not_mem_nil)⟩)⟩
theorem kM_steps_173 : Bok "HerbWatersModel" prog_14_method_57_code (173, bM_steps_173, 183) := ⟨by decide +kernel, (List.forall_mem_cons.mpr ⟨sLA1, (List.forall_mem_cons.mpr ⟨sC0, (List.forall_mem_cons.mpr ⟨sLI2, (List.forall_mem_cons.mpr ⟨sADD, (List.forall_mem_cons.mpr ⟨sDUP2, (List.forall_mem_cons.mpr ⟨sIALD, (List.forall_mem_cons.mpr ⟨sLI3, (List.forall_mem_cons.mpr ⟨sIFeq, (fun _ h => absurd h List.not_mem_nil)⟩)⟩)⟩)⟩)⟩)⟩)⟩)⟩)⟩
theorem kM_steps_183 : Bok "HerbWatersModel" prog_14_method_57_code (183, bM_steps_183, 187) := ⟨by decide +kernel, (List.forall_mem_cons.mpr ⟨sC0, (List.forall_mem_cons.mpr ⟨sGO, (fun _ h => absurd h List.not_mem_nil)⟩)⟩)⟩
theorem kM_steps_187 : Bok "HerbWatersModel" prog_14_method_57_code (187, bM_steps_187, 195) := ⟨by decide +kernel, (List.forall_mem_cons.mpr ⟨sLA0, (List.forall_mem_cons.mpr ⟨lM_g31, (List.forall_mem_cons.mpr ⟨sLI2, (List.forall_mem_cons.mpr ⟨sAALD107, (List.forall_mem_cons.mpr ⟨sC1, (List.forall_mem_cons.mpr ⟨sIALD, (fun _ h => absurd h List.not_mem_nil)⟩)⟩)⟩)⟩)⟩)⟩)⟩
theorem kM_steps_195 : Bok "HerbWatersModel" prog_14_method_57_code (195, bM_steps_195, 203) := ⟨by decide +kernel, (List.forall_mem_cons.mpr ⟨sADD, (List.forall_mem_cons.mpr ⟨sIAST, (List.forall_mem_cons.mpr ⟨sINC2, (List.forall_mem_cons.mpr ⟨sGO, (fun _ h => absurd h List.not_mem_nil)⟩)⟩)⟩)⟩)⟩
theorem kM_steps_203 : Bok "HerbWatersModel" prog_14_method_57_code (203, bM_steps_203, 205) := ⟨by decide +kernel, (List.forall_mem_cons.mpr ⟨sC0, (List.forall_mem_cons.mpr ⟨sSI2, (fun _ h => absurd h List.not_mem_nil)⟩)⟩)⟩
theorem kM_steps_205 : Bok "HerbWatersModel" prog_14_method_57_code (205, bM_steps_205, 215) := ⟨by decide +kernel, (List.forall_mem_cons.mpr ⟨sLI2, (List.forall_mem_cons.mpr ⟨sLA0, (List.forall_mem_cons.mpr ⟨lM_g23, (List.forall_mem_cons.mpr ⟨sC0, (List.forall_mem_cons.mpr ⟨sIALD, (List.forall_mem_cons.mpr ⟨sICge, (fun _ h => absurd h List.not_mem_nil)⟩)⟩)⟩)⟩)⟩)⟩)⟩
theorem kM_steps_215 : Bok "HerbWatersModel" prog_14_method_57_code (215, bM_steps_215, 217) := ⟨by decide +kernel, (List.forall_mem_cons.mpr ⟨sC0, (List.forall_mem_cons.mpr ⟨sSI3, (fun _ h => absurd h List.not_mem_nil)⟩)⟩)⟩
theorem kM_steps_217 : Bok "HerbWatersModel" prog_14_method_57_code (217, bM_steps_217, 222) := ⟨by decide +kernel, (List.forall_mem_cons.mpr ⟨sLI3, (List.forall_mem_cons.mpr ⟨sC3, (List.forall_mem_cons.mpr ⟨sICge, (fun _ h => absurd h List.not_mem_nil)⟩)⟩)⟩)⟩
theorem kM_steps_222 : Bok "HerbWatersModel" prog_14_method_57_code (222, bM_steps_222, 235) := ⟨by decide +kernel, (List.forall_mem_cons.mpr ⟨sLA0, (List.forall_mem_cons.mpr ⟨sLA1, (List.forall_mem_cons.mpr ⟨sLI2, (List.forall_mem_cons.mpr ⟨sLI3, (List.forall_mem_cons.mpr ⟨lM_v339, (List.forall_mem_cons.mpr ⟨sINC3, (List.forall_mem_cons.mpr ⟨sGO, (fun _ h => absurd h List.not_mem_nil)⟩)⟩)⟩)⟩)⟩)⟩)⟩)⟩
theorem kM_steps_235 : Bok "HerbWatersModel" prog_14_method_57_code (235, bM_steps_235, 241) := ⟨by decide +kernel, (List.forall_mem_cons.mpr ⟨sINC2, (List.forall_mem_cons.mpr ⟨sGO, (fun _ h => absurd h List.not_mem_nil)⟩)⟩)⟩
theorem kM_steps_241 : Bok "HerbWatersModel" prog_14_method_57_code (241, bM_steps_241, 243) := ⟨by decide +kernel, (List.forall_mem_cons.mpr ⟨sC0, (List.forall_mem_cons.mpr ⟨sSI2, (fun _ h => absurd h List.not_mem_nil)⟩)⟩)⟩
theorem kM_steps_243 : Bok "HerbWatersModel" prog_14_method_57_code (243, bM_steps_243, 249) := ⟨by decide +kernel, (List.forall_mem_cons.mpr ⟨sLI2, (List.forall_mem_cons.mpr ⟨sBP, (List.forall_mem_cons.mpr ⟨sICge, (fun _ h => absurd h List.not_mem_nil)⟩)⟩)⟩)⟩
theorem kM_steps_249 : Bok "HerbWatersModel" prog_14_method_57_code (249, bM_steps_249, 262) := ⟨by decide +kernel, (List.forall_mem_cons.mpr ⟨sLA0, (List.forall_mem_cons.mpr ⟨lM_g102, (List.forall_mem_cons.mpr ⟨sLI2, (List.forall_mem_cons.mpr ⟨sC0, (List.forall_mem_cons.mpr ⟨sIAST, (List.forall_mem_cons.mpr ⟨sINC2, (List.forall_mem_cons.mpr ⟨sGO, (fun _ h => absurd h List.not_mem_nil)⟩)⟩)⟩)⟩)⟩)⟩)⟩)⟩
theorem kM_steps_262 : Bok "HerbWatersModel" prog_14_method_57_code (262, bM_steps_262, 264) := ⟨by decide +kernel, (List.forall_mem_cons.mpr ⟨sC0, (List.forall_mem_cons.mpr ⟨sSI2, (fun _ h => absurd h List.not_mem_nil)⟩)⟩)⟩
theorem kM_steps_264 : Bok "HerbWatersModel" prog_14_method_57_code (264, bM_steps_264, 274) := ⟨by decide +kernel, (List.forall_mem_cons.mpr ⟨sLI2, (List.forall_mem_cons.mpr ⟨sLA0, (List.forall_mem_cons.mpr ⟨lM_g23, (List.forall_mem_cons.mpr ⟨sC0, (List.forall_mem_cons.mpr ⟨sIALD, (List.forall_mem_cons.mpr ⟨sICge, (fun _ h => absurd h List.not_mem_nil)⟩)⟩)⟩)⟩)⟩)⟩)⟩
theorem kM_steps_274 : Bok "HerbWatersModel" prog_14_method_57_code (274, bM_steps_274, 285) := ⟨by decide +kernel, (List.forall_mem_cons.mpr ⟨sLA0, (List.forall_mem_cons.mpr ⟨lM_g309, (List.forall_mem_cons.mpr ⟨sLI2, (List.forall_mem_cons.mpr ⟨sSHR, (List.forall_mem_cons.mpr ⟨sC1, (List.forall_mem_cons.mpr ⟨sAND, (List.forall_mem_cons.mpr ⟨sIFne, (fun _ h => absurd h List.not_mem_nil)⟩)⟩)⟩)⟩)⟩)⟩)⟩)⟩
theorem kM_steps_285 : Bok "HerbWatersModel" prog_14_method_57_code (285, bM_steps_285, 293) := ⟨by decide +kernel, (List.forall_mem_cons.mpr ⟨sLA0, (List.forall_mem_cons.mpr ⟨lM_g92, (List.forall_mem_cons.mpr ⟨sCm1, (List.forall_mem_cons.mpr ⟨sICeq, (fun _ h => absurd h List.not_mem_nil)⟩)⟩)⟩)⟩)⟩
theorem kM_steps_293 : Bok "HerbWatersModel" prog_14_method_57_code (293, bM_steps_293, 301) := ⟨by decide +kernel, (List.forall_mem_cons.mpr ⟨sLA0, (List.forall_mem_cons.mpr ⟨lM_g92, (List.forall_mem_cons.mpr ⟨sLI2, (List.forall_mem_cons.mpr ⟨sICne, (fun _ h => absurd h List.not_mem_nil)⟩)⟩)⟩)⟩)⟩
theorem kM_steps_301 : Bok "HerbWatersModel" prog_14_method_57_code (301, bM_steps_301, 305) := ⟨by decide +kernel, (List.forall_mem_cons.mpr ⟨sC1, (List.forall_mem_cons.mpr ⟨sGO, (fun _ h => absurd h List.not_mem_nil)⟩)⟩)⟩
theorem kM_steps_305 : Bok "HerbWatersModel" prog_14_method_57_code (305, bM_steps_305, 306) := ⟨by decide +kernel, (List.forall_mem_cons.mpr ⟨sC0, (fun _ h => absurd h List.not_mem_nil)⟩)⟩
theorem kM_steps_306 : Bok "HerbWatersModel" prog_14_method_57_code (306, bM_steps_306, 316) := ⟨by decide +kernel, (List.forall_mem_cons.mpr ⟨sSI3, (List.forall_mem_cons.mpr ⟨sLA0, (List.forall_mem_cons.mpr ⟨sLA1, (List.forall_mem_cons.mpr ⟨sLI2, (List.forall_mem_cons.mpr ⟨lM_v343, (List.forall_mem_cons.mpr ⟨sC0, (List.forall_mem_cons.mpr ⟨sSI4, (fun _ h => absurd h List.not_mem_nil)⟩)⟩)⟩)⟩)⟩)⟩)⟩)⟩
theorem kM_steps_316 : Bok "HerbWatersModel" prog_14_method_57_code (316, bM_steps_316, 327) := ⟨by decide +kernel, (List.forall_mem_cons.mpr ⟨sLI4, (List.forall_mem_cons.mpr ⟨sLA0, (List.forall_mem_cons.mpr ⟨lM_g40, (List.forall_mem_cons.mpr ⟨sLI2, (List.forall_mem_cons.mpr ⟨sIALD, (List.forall_mem_cons.mpr ⟨sICge, (fun _ h => absurd h List.not_mem_nil)⟩)⟩)⟩)⟩)⟩)⟩)⟩
theorem kM_steps_327 : Bok "HerbWatersModel" prog_14_method_57_code (327, bM_steps_327, 331) := ⟨by decide +kernel, (List.forall_mem_cons.mpr ⟨sLI3, (List.forall_mem_cons.mpr ⟨sIFeq, (fun _ h => absurd h List.not_mem_nil)⟩)⟩)⟩
theorem kM_steps_331 : Bok "HerbWatersModel" prog_14_method_57_code (331, bM_steps_331, 356) := ⟨by decide +kernel, (List.forall_mem_cons.mpr ⟨sLA0, (List.forall_mem_cons.mpr ⟨lM_g47, (List.forall_mem_cons.mpr ⟨sLI2, (List.forall_mem_cons.mpr ⟨sAALD107, (List.forall_mem_cons.mpr ⟨sC4, (List.forall_mem_cons.mpr ⟨sLI4, (List.forall_mem_cons.mpr ⟨sMUL, (List.forall_mem_cons.mpr ⟨sIALD, (List.forall_mem_cons.mpr ⟨sSI5, (List.forall_mem_cons.mpr ⟨sLA0, (List.forall_mem_cons.mpr ⟨lM_g312, (List.forall_mem_cons.mpr ⟨sLI2, (List.forall_mem_cons.mpr ⟨sSHR, (List.forall_mem_cons.mpr ⟨sC1, (List.forall_mem_cons.mpr ⟨sAND, (List.forall_mem_cons.mpr ⟨sC1, (List.forall_mem_cons.mpr ⟨sICne, (fun _ h => absurd h List.not_mem_nil)⟩)⟩)⟩)⟩)⟩)⟩)⟩)⟩)⟩)⟩)⟩)⟩)⟩)⟩)⟩)⟩)⟩)⟩
theorem kM_steps_356 : Bok "HerbWatersModel" prog_14_method_57_code (356, bM_steps_356, 362) := ⟨by decide +kernel, (List.forall_mem_cons.mpr ⟨sLI5, (List.forall_mem_cons.mpr ⟨sC2, (List.forall_mem_cons.mpr ⟨sICge, (fun _ h => absurd h List.not_mem_nil)⟩)⟩)⟩)⟩
theorem kM_steps_362 : Bok "HerbWatersModel" prog_14_method_57_code (362, bM_steps_362, 369) := ⟨by decide +kernel, (List.forall_mem_cons.mpr ⟨sC1, (List.forall_mem_cons.mpr ⟨sLI5, (List.forall_mem_cons.mpr ⟨sSUB, (List.forall_mem_cons.mpr ⟨sGO, (fun _ h => absurd h List.not_mem_nil)⟩)⟩)⟩)⟩)⟩
theorem kM_steps_369 : Bok "HerbWatersModel" prog_14_method_57_code (369, bM_steps_369, 371) := ⟨by decide +kernel, (List.forall_mem_cons.mpr ⟨sLI5, (fun _ h => absurd h List.not_mem_nil)⟩)⟩
theorem kM_steps_371 : Bok "HerbWatersModel" prog_14_method_57_code (371, bM_steps_371, 400) := ⟨by decide +kernel, (List.forall_mem_cons.mpr ⟨sSI5, (List.forall_mem_cons.mpr ⟨sLA0, (List.forall_mem_cons.mpr ⟨lM_g102, (List.forall_mem_cons.mpr ⟨sC3, (List.forall_mem_cons.mpr ⟨sLI2, (List.forall_mem_cons.mpr ⟨sMUL, (List.forall_mem_cons.mpr ⟨sLI5, (List.forall_mem_cons.mpr ⟨sADD, (List.forall_mem_cons.mpr ⟨sDUP2, (List.forall_mem_cons.mpr ⟨sIALD, (List.forall_mem_cons.mpr ⟨sLA0, (List.forall_mem_cons.mpr ⟨sLI2, (List.forall_mem_cons.mpr ⟨sLI4, (List.forall_mem_cons.mpr ⟨lM_v306, (List.forall_mem_cons.mpr ⟨sADD, (List.forall_mem_cons.mpr ⟨sIAST, (List.forall_mem_cons.mpr ⟨sINC4, (List.forall_mem_cons.mpr ⟨sGO, (fun _ h => absurd h List.not_mem_nil)⟩)⟩)⟩)⟩)⟩)⟩)⟩)⟩)⟩)⟩)⟩)⟩)⟩)⟩)⟩)⟩)⟩)⟩)⟩
theorem kM_steps_400 : Bok "HerbWatersModel" prog_14_method_57_code (400, bM_steps_400, 406) := ⟨by decide +kernel, (List.forall_mem_cons.mpr ⟨sINC2, (List.forall_mem_cons.mpr ⟨sGO, (fun _ h => absurd h List.not_mem_nil)⟩)⟩)⟩
theorem kM_steps_406 : Bok "HerbWatersModel" prog_14_method_57_code (406, bM_steps_406, 408) := ⟨by decide +kernel, (List.forall_mem_cons.mpr ⟨sC0, (List.forall_mem_cons.mpr ⟨sSI2, (fun _ h => absurd h List.not_mem_nil)⟩)⟩)⟩
theorem kM_steps_408 : Bok "HerbWatersModel" prog_14_method_57_code (408, bM_steps_408, 418) := ⟨by decide +kernel, (List.forall_mem_cons.mpr ⟨sLI2, (List.forall_mem_cons.mpr ⟨sLA0, (List.forall_mem_cons.mpr ⟨lM_g23, (List.forall_mem_cons.mpr ⟨sC0, (List.forall_mem_cons.mpr ⟨sIALD, (List.forall_mem_cons.mpr ⟨sICge, (fun _ h => absurd h List.not_mem_nil)⟩)⟩)⟩)⟩)⟩)⟩)⟩
theorem kM_steps_418 : Bok "HerbWatersModel" prog_14_method_57_code (418, bM_steps_418, 428) := ⟨by decide +kernel, (List.forall_mem_cons.mpr ⟨sLA1, (List.forall_mem_cons.mpr ⟨sSP, (List.forall_mem_cons.mpr ⟨sLI2, (List.forall_mem_cons.mpr ⟨sADD, (List.forall_mem_cons.mpr ⟨sC0, (List.forall_mem_cons.mpr ⟨sIAST, (List.forall_mem_cons.mpr ⟨sC0, (List.forall_mem_cons.mpr ⟨sSI3, (fun _ h => absurd h List.not_mem_nil)⟩)⟩)⟩)⟩)⟩)⟩)⟩)⟩)⟩
theorem kM_steps_428 : Bok "HerbWatersModel" prog_14_method_57_code (428, bM_steps_428, 433) := ⟨by decide +kernel, (List.forall_mem_cons.mpr ⟨sLI3, (List.forall_mem_cons.mpr ⟨sC3, (List.forall_mem_cons.mpr ⟨sICge, (fun _ h => absurd h List.not_mem_nil)⟩)⟩)⟩)⟩
theorem kM_steps_433 : Bok "HerbWatersModel" prog_14_method_57_code (433, bM_steps_433, 492) := ⟨by decide +kernel, (List.forall_mem_cons.mpr ⟨sLA0, (List.forall_mem_cons.mpr ⟨lM_g102, (List.forall_mem_cons.mpr ⟨sC3, (List.forall_mem_cons.mpr ⟨sLI2, (List.forall_mem_cons.mpr ⟨sMUL, (List.forall_mem_cons.mpr ⟨sLI3, (List.forall_mem_cons.mpr ⟨sADD, (List.forall_mem_cons.mpr ⟨sIALD, (List.forall_mem_cons.mpr ⟨sSI4, (List.forall_mem_cons.mpr ⟨sLA1, (List.forall_mem_cons.mpr ⟨sLI2, (List.forall_mem_cons.mpr ⟨sLI3, (List.forall_mem_cons.mpr ⟨sLI2, (List.forall_mem_cons.mpr ⟨lM_s318, (List.forall_mem_cons.mpr ⟨sDUP2, (List.forall_mem_cons.mpr ⟨sIALD, (List.forall_mem_cons.mpr ⟨sLI4, (List.forall_mem_cons.mpr ⟨sADD, (List.forall_mem_cons.mpr ⟨sIAST, (List.forall_mem_cons.mpr ⟨sLA1, (List.forall_mem_cons.mpr ⟨sSP, (List.forall_mem_cons.mpr ⟨sC3, (List.forall_mem_cons.mpr ⟨sLI2, (List.forall_mem_cons.mpr ⟨sMUL, (List.forall_mem_cons.mpr ⟨sADD, (List.forall_mem_cons.mpr ⟨sLI3, (List.forall_mem_cons.mpr ⟨sADD, (List.forall_mem_cons.mpr ⟨sDUP2, (List.forall_mem_cons.mpr ⟨sIALD, (List.forall_mem_cons.mpr ⟨sLI4, (List.forall_mem_cons.mpr ⟨sADD, (List.forall_mem_cons.mpr ⟨sIAST, (List.forall_mem_cons.mpr ⟨sLA1, (List.forall_mem_cons.mpr ⟨sSP, (List.forall_mem_cons.mpr ⟨sLI2, (List.forall_mem_cons.mpr ⟨sADD, (List.forall_mem_cons.mpr ⟨sDUP2, (List.forall_mem_cons.mpr ⟨sIALD, (List.forall_mem_cons.mpr ⟨sLI4, (List.forall_mem_cons.mpr ⟨sADD, (List.forall_mem_cons.mpr ⟨sIAST, (List.forall_mem_cons.mpr ⟨sINC3, (List.forall_mem_cons.mpr ⟨sGO, (fun _ h => absurd h List.not_mem_nil)⟩)⟩)⟩)⟩)⟩)⟩)⟩)⟩)⟩)⟩)⟩)⟩)⟩)⟩)⟩)⟩)⟩)⟩)⟩)⟩)⟩)⟩)⟩)⟩)⟩)⟩)⟩)⟩)⟩)⟩)⟩)⟩)⟩)⟩)⟩)⟩)⟩)⟩)⟩)⟩)⟩)⟩)⟩)⟩
theorem kM_steps_492 : Bok "HerbWatersModel" prog_14_method_57_code (492, bM_steps_492, 498) := ⟨by decide +kernel, (List.forall_mem_cons.mpr ⟨sINC2, (List.forall_mem_cons.mpr ⟨sGO, (fun _ h => absurd h List.not_mem_nil)⟩)⟩)⟩
theorem kM_steps_498 : Bok "HerbWatersModel" prog_14_method_57_code (498, bM_steps_498, 502) := ⟨by decide +kernel, (List.forall_mem_cons.mpr ⟨sSP, (List.forall_mem_cons.mpr ⟨sSI2, (fun _ h => absurd h List.not_mem_nil)⟩)⟩)⟩
theorem kM_steps_502 : Bok "HerbWatersModel" prog_14_method_57_code (502, bM_steps_502, 509) := ⟨by decide +kernel, (List.forall_mem_cons.mpr ⟨sLI2, (List.forall_mem_cons.mpr ⟨sSP, (List.forall_mem_cons.mpr ⟨sIClt, (fun _ h => absurd h List.not_mem_nil)⟩)⟩)⟩)⟩
theorem kM_steps_509 : Bok "HerbWatersModel" prog_14_method_57_code (509, bM_steps_509, 524) := ⟨by decide +kernel, (List.forall_mem_cons.mpr ⟨sLA1, (List.forall_mem_cons.mpr ⟨sLI2, (List.forall_mem_cons.mpr ⟨sLA1, (List.forall_mem_cons.mpr ⟨sLI2, (List.forall_mem_cons.mpr ⟨sBP, (List.forall_mem_cons.mpr ⟨sSUB, (List.forall_mem_cons.mpr ⟨sIALD, (List.forall_mem_cons.mpr ⟨sIAST, (List.forall_mem_cons.mpr ⟨sDEC2, (List.forall_mem_cons.mpr ⟨sGO, (fun _ h => absurd h List.not_mem_nil)⟩)⟩)⟩)⟩)⟩)⟩)⟩)⟩)⟩)⟩)⟩
theorem kM_steps_524 : Bok "HerbWatersModel" prog_14_method_57_code (524, bM_steps_524, 526) := ⟨by decide +kernel, (List.forall_mem_cons.mpr ⟨sC0, (List.forall_mem_cons.mpr ⟨sSI2, (fun _ h => absurd h List.not_mem_nil)⟩)⟩)⟩
theorem kM_steps_526 : Bok "HerbWatersModel" prog_14_method_57_code (526, bM_steps_526, 536) := ⟨by decide +kernel, (List.forall_mem_cons.mpr ⟨sLI2, (List.forall_mem_cons.mpr ⟨sLA0, (List.forall_mem_cons.mpr ⟨lM_g23, (List.forall_mem_cons.mpr ⟨sC0, (List.forall_mem_cons.mpr ⟨sIALD, (List.forall_mem_cons.mpr ⟨sICge, (fun _ h => absurd h List.not_mem_nil)⟩)⟩)⟩)⟩)⟩)⟩)⟩
theorem kM_steps_536 : Bok "HerbWatersModel" prog_14_method_57_code (536, bM_steps_536, 552) := ⟨by decide +kernel, (List.forall_mem_cons.mpr ⟨sLA1, (List.forall_mem_cons.mpr ⟨sSP, (List.forall_mem_cons.mpr ⟨sC4, (List.forall_mem_cons.mpr ⟨sLI2, (List.forall_mem_cons.mpr ⟨sMUL, (List.forall_mem_cons.mpr ⟨sADD, (List.forall_mem_cons.mpr ⟨sLA1, (List.forall_mem_cons.mpr ⟨sC0, (List.forall_mem_cons.mpr ⟨sLI2, (List.forall_mem_cons.mpr ⟨sADD, (List.forall_mem_cons.mpr ⟨sIALD, (List.forall_mem_cons.mpr ⟨sIAST, (List.forall_mem_cons.mpr ⟨sC0, (List.forall_mem_cons.mpr ⟨sSI3, (fun _ h => absurd h List.not_mem_nil)⟩)⟩)⟩)⟩)⟩)⟩)⟩)⟩)⟩)⟩)⟩)⟩)⟩)⟩)⟩
theorem kM_steps_552 : Bok "HerbWatersModel" prog_14_method_57_code (552, bM_steps_552, 557) := ⟨by decide +kernel, (List.forall_mem_cons.mpr ⟨sLI3, (List.forall_mem_cons.mpr ⟨sC3, (List.forall_mem_cons.mpr ⟨sICge, (fun _ h => absurd h List.not_mem_nil)⟩)⟩)⟩)⟩
theorem kM_steps_557 : Bok "HerbWatersModel" prog_14_method_57_code (557, bM_steps_557, 582) := ⟨by decide +kernel, (List.forall_mem_cons.mpr ⟨sLA1, (List.forall_mem_cons.mpr ⟨sSP, (List.forall_mem_cons.mpr ⟨sC4, (List.forall_mem_cons.mpr ⟨sLI2, (List.forall_mem_cons.mpr ⟨sMUL, (List.forall_mem_cons.mpr ⟨sADD, (List.forall_mem_cons.mpr ⟨sC1, (List.forall_mem_cons.mpr ⟨sADD, (List.forall_mem_cons.mpr ⟨sLI3, (List.forall_mem_cons.mpr ⟨sADD, (List.forall_mem_cons.mpr ⟨sLA1, (List.forall_mem_cons.mpr ⟨sLI2, (List.forall_mem_cons.mpr ⟨sLI3, (List.forall_mem_cons.mpr ⟨lM_s327, (List.forall_mem_cons.mpr ⟨sIAST, (List.forall_mem_cons.mpr ⟨sINC3, (List.forall_mem_cons.mpr ⟨sGO, (fun _ h => absurd h List.not_mem_nil)⟩)⟩)⟩)⟩)⟩)⟩)⟩)⟩)⟩)⟩)⟩)⟩)⟩)⟩)⟩)⟩)⟩)⟩
theorem kM_steps_582 : Bok "HerbWatersModel" prog_14_method_57_code (582, bM_steps_582, 588) := ⟨by decide +kernel, (List.forall_mem_cons.mpr ⟨sINC2, (List.forall_mem_cons.mpr ⟨sGO, (fun _ h => absurd h List.not_mem_nil)⟩)⟩)⟩
theorem kM_steps_588 : Bok "HerbWatersModel" prog_14_method_57_code (588, bM_steps_588, 589) := ⟨by decide +kernel, (List.forall_mem_cons.mpr ⟨sRV, (fun _ h => absurd h List.not_mem_nil)⟩)⟩
theorem kM_steps : ∀ q ∈ tM_steps, Bok "HerbWatersModel" prog_14_method_57_code q := (List.forall_mem_cons.mpr ⟨kM_steps_0, (List.forall_mem_cons.mpr ⟨kM_steps_11, (List.forall_mem_cons.mpr ⟨kM_steps_16, (List.forall_mem_cons.mpr ⟨kM_steps_30, (List.forall_mem_cons.mpr ⟨kM_steps_32, (List.forall_mem_cons.mpr ⟨kM_steps_39, (List.forall_mem_cons.mpr ⟨kM_steps_54, (List.forall_mem_cons.mpr ⟨kM_steps_56, (List.forall_mem_cons.mpr ⟨kM_steps_66, (List.forall_mem_cons.mpr ⟨kM_steps_78, (List.forall_mem_cons.mpr ⟨kM_steps_84, (List.forall_mem_cons.mpr ⟨kM_steps_107, (List.forall_mem_cons.mpr ⟨kM_steps_113, (List.forall_mem_cons.mpr ⟨kM_steps_115, (List.forall_mem_cons.mpr ⟨kM_steps_125, (List.forall_mem_cons.mpr ⟨kM_steps_134, (List.forall_mem_cons.mpr ⟨kM_steps_167, (List.forall_mem_cons.mpr ⟨kM_steps_171, (List.forall_mem_cons.mpr ⟨kM_steps_172, (List.forall_mem_cons.mpr ⟨kM_steps_173, (List.forall_mem_cons.mpr ⟨kM_steps_183, (List.forall_mem_cons.mpr ⟨kM_steps_187, (List.forall_mem_cons.mpr ⟨kM_steps_195, (List.forall_mem_cons.mpr ⟨kM_steps_203, (List.forall_mem_cons.mpr ⟨kM_steps_205, (List.forall_mem_cons.mpr ⟨kM_steps_215, (List.forall_mem_cons.mpr ⟨kM_steps_217, (List.forall_mem_cons.mpr ⟨kM_steps_222, (List.forall_mem_cons.mpr ⟨kM_steps_235, (List.forall_mem_cons.mpr ⟨kM_steps_241, (List.forall_mem_cons.mpr ⟨kM_steps_243, (List.forall_mem_cons.mpr ⟨kM_steps_249, (List.forall_mem_cons.mpr ⟨kM_steps_262, (List.forall_mem_cons.mpr ⟨kM_steps_264, (List.forall_mem_cons.mpr ⟨kM_steps_274, (List.forall_mem_cons.mpr ⟨kM_steps_285, (List.forall_mem_cons.mpr ⟨kM_steps_293, (List.forall_mem_cons.mpr ⟨kM_steps_301, (List.forall_mem_cons.mpr ⟨kM_steps_305, (List.forall_mem_cons.mpr ⟨kM_steps_306, (List.forall_mem_cons.mpr ⟨kM_steps_316, (List.forall_mem_cons.mpr ⟨kM_steps_327, (List.forall_mem_cons.mpr ⟨kM_steps_331, (List.forall_mem_cons.mpr ⟨kM_steps_356, (List.forall_mem_cons.mpr ⟨kM_steps_362, (List.forall_mem_cons.mpr ⟨kM_steps_369, (List.forall_mem_cons.mpr ⟨kM_steps_371, (List.forall_mem_cons.mpr ⟨kM_steps_400, (List.forall_mem_cons.mpr ⟨kM_steps_406, (List.forall_mem_cons.mpr ⟨kM_steps_408, (List.forall_mem_cons.mpr ⟨kM_steps_418, (List.forall_mem_cons.mpr ⟨kM_steps_428, (List.forall_mem_cons.mpr ⟨kM_steps_433, (List.forall_mem_cons.mpr ⟨kM_steps_492, (List.forall_mem_cons.mpr ⟨kM_steps_498, (List.forall_mem_cons.mpr ⟨kM_steps_502, (List.forall_mem_cons.mpr ⟨kM_steps_509, (List.forall_mem_cons.mpr ⟨kM_steps_524, (List.forall_mem_cons.mpr ⟨kM_steps_526, (List.forall_mem_cons.mpr ⟨kM_steps_536, (List.forall_mem_cons.mpr ⟨kM_steps_552, (List.forall_mem_cons.mpr ⟨kM_steps_557, (List.forall_mem_cons.mpr ⟨kM_steps_582, (List.forall_mem_cons.mpr ⟨kM_steps_588, (fun _ h => absurd h List.not_mem_nil)⟩)⟩)⟩)⟩)⟩)⟩)⟩)⟩)⟩)⟩)⟩)⟩)⟩)⟩)⟩)⟩)⟩)⟩)⟩)⟩)⟩)⟩)⟩)⟩)⟩)⟩)⟩)⟩)⟩)⟩)⟩)⟩)⟩)⟩)⟩)⟩)⟩)⟩)⟩)⟩)⟩)⟩)⟩)⟩)⟩)⟩)⟩)⟩)⟩)⟩)⟩)⟩)⟩)⟩)⟩)⟩)⟩)⟩)⟩)⟩)⟩)⟩)⟩)⟩)
