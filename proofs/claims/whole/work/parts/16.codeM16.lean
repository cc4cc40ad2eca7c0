/-! code of HerbWatersModel; by program (wip/whole/gen_M.py) -/
def mM_isAs : Mt := (⟨"HerbWatersModel", "isAs", "([I[I)Z"⟩, prog_14_method_87_code, 6, some .boolean)
theorem ok_M_isAs : Mok mM_isAs := ⟨gtb_mem 2221 (by decide +kernel) rfl, gtb_mem 107 (by decide +kernel) rfl, by decide +kernel, by decide⟩
def bM_isAs_0 : List Ir := [iC0, iSI3]
def bM_isAs_2 : List Ir := [iLI3, (iSP 252), (iICge (20) 26)]
def bM_isAs_9 : List Ir := [iLA1, iLI3, iIALD, iLA2, iLI3, iIALD, (iICeq (5) 20)]
def bM_isAs_18 : List Ir := [iC0, iRI]
def bM_isAs_20 : List Ir := [(iINC3 1), (iGO (-21) 2)]
def bM_isAs_26 : List Ir := [iC0, iSI3]
def bM_isAs_28 : List Ir := [iLI3, iLA0, (iGR 23 11 12), iC0, iIALD, (iICge (106) 141)]
def bM_isAs_38 : List Ir := [iLA1, (iSP 432), iLI3, iADD, iIALD, iLA2, (iSP 432), iLI3, iADD, iIALD, (iICeq (5) 57)]
def bM_isAs_55 : List Ir := [iC0, iRI]
def bM_isAs_57 : List Ir := [iC1, iSI4]
def bM_isAs_60 : List Ir := [iLI4, iLA0, (iGR 31 11 14), iLI3, iAALD107, iC3, iIALD, (iICge (65) 135)]
def bM_isAs_73 : List Ir := [iC0, iSI5]
def bM_isAs_76 : List Ir := [iLI5, iC4, (iICge (50) 129)]
def bM_isAs_82 : List Ir := [iLA1, (iSP 252), (iBP 36), iLI4, iMUL, iADD, iC4, iLI3, iMUL, iADD, iLI5, iADD, iIALD, iLA2, (iSP 252), (iBP 36), iLI4, iMUL, iADD, iC4, iLI3, iMUL, iADD, iLI5, iADD, iIALD, (iICeq (5) 123)]
def bM_isAs_121 : List Ir := [iC0, iRI]
def bM_isAs_123 : List Ir := [(iINC5 1), (iGO (-50) 76)]
def bM_isAs_129 : List Ir := [(iINC4 1), (iGO (-72) 60)]
def bM_isAs_135 : List Ir := [(iINC3 1), (iGO (-110) 28)]
def bM_isAs_141 : List Ir := [iC1, iRI]
def tM_isAs : Tb := [(0, bM_isAs_0, 2), (2, bM_isAs_2, 9), (9, bM_isAs_9, 18), (18, bM_isAs_18, 20), (20, bM_isAs_20, 26), (26, bM_isAs_26, 28), (28, bM_isAs_28, 38), (38, bM_isAs_38, 55), (55, bM_isAs_55, 57), (57, bM_isAs_57, 60), (60, bM_isAs_60, 73), (73, bM_isAs_73, 76), (76, bM_isAs_76, 82), (82, bM_isAs_82, 121), (121, bM_isAs_121, 123), (123, bM_isAs_123, 129), (129, bM_isAs_129, 135), (135, bM_isAs_135, 141), (141, bM_isAs_141, 143)]
theorem fM_isAs_0 : tbf tM_isAs 0 = some (bM_isAs_0, 2) := rfl
theorem fM_isAs_2 : tbf tM_isAs 2 = some (bM_isAs_2, 9) := rfl
theorem fM_isAs_9 : tbf tM_isAs 9 = some (bM_isAs_9, 18) := rfl
theorem fM_isAs_18 : tbf tM_isAs 18 = some (bM_isAs_18, 20) := rfl
theorem fM_isAs_20 : tbf tM_isAs 20 = some (bM_isAs_20, 26) := rfl
theorem fM_isAs_26 : tbf tM_isAs 26 = some (bM_isAs_26, 28) := rfl
theorem fM_isAs_28 : tbf tM_isAs 28 = some (bM_isAs_28, 38) := rfl
theorem fM_isAs_38 : tbf tM_isAs 38 = some (bM_isAs_38, 55) := rfl
theorem fM_isAs_55 : tbf tM_isAs 55 = some (bM_isAs_55, 57) := rfl
theorem fM_isAs_57 : tbf tM_isAs 57 = some (bM_isAs_57, 60) := rfl
theorem fM_isAs_60 : tbf tM_isAs 60 = some (bM_isAs_60, 73) := rfl
theorem fM_isAs_73 : tbf tM_isAs 73 = some (bM_isAs_73, 76) := rfl
theorem fM_isAs_76 : tbf tM_isAs 76 = some (bM_isAs_76, 82) := rfl
theorem fM_isAs_82 : tbf tM_isAs 82 = some (bM_isAs_82, 121) := rfl
theorem fM_isAs_121 : tbf tM_isAs 121 = some (bM_isAs_121, 123) := rfl
theorem fM_isAs_123 : tbf tM_isAs 123 = some (bM_isAs_123, 129) := rfl
theorem fM_isAs_129 : tbf tM_isAs 129 = some (bM_isAs_129, 135) := rfl
theorem fM_isAs_135 : tbf tM_isAs 135 = some (bM_isAs_135, 141) := rfl
theorem fM_isAs_141 : tbf tM_isAs 141 = some (bM_isAs_141, 143) := rfl
theorem kM_isAs_0 : Bok "HerbWatersModel" prog_14_method_87_code (0, bM_isAs_0, 2) := ⟨by decide +kernel, (List.forall_mem_cons.mpr ⟨sC0, (List.forall_mem_cons.mpr ⟨sSI3, (fun _ h => absurd h List.not_mem_nil)⟩)⟩)⟩
theorem kM_isAs_2 : Bok "HerbWatersModel" prog_14_method_87_code (2, bM_isAs_2, 9) := ⟨by decide +kernel, (List.forall_mem_cons.mpr ⟨sLI3, (List.forall_mem_cons.mpr ⟨sSP, (List.forall_mem_cons.mpr ⟨sICge, (fun _ h => absurd h List.not_mem_nil)⟩)⟩)⟩)⟩
theorem kM_isAs_9 : Bok "HerbWatersModel" prog_14_method_87_code (9, bM_isAs_9, 18) := ⟨by decide +kernel, (List.forall_mem_cons.mpr ⟨sLA1, (List.forall_mem_cons.mpr ⟨sLI3, (List.forall_mem_cons.mpr ⟨sIALD, (List.forall_mem_cons.mpr ⟨sLA2, (List.forall_mem_cons.mpr ⟨sLI3, (List.forall_mem_cons.mpr ⟨sIALD, (List.forall_mem_cons.mpr ⟨sICeq, (fun _ h => absurd h List.not_mem_nil)⟩)⟩)⟩)⟩)⟩)⟩)⟩)⟩
theorem kM_isAs_18 : Bok "HerbWatersModel" prog_14_method_87_code (18, bM_isAs_18, 20) := ⟨by decide +kernel, (List.forall_mem_cons.mpr ⟨sC0, (List.forall_mem_cons.mpr ⟨sRI, (fun _ h => absurd h List.not_mem_nil)⟩)⟩)⟩
theorem kM_isAs_20 : Bok "HerbWatersModel" prog_14_method_87_code (20, bM_isAs_20, 26) := ⟨by decide +kernel, (List.forall_mem_cons.mpr ⟨sINC3, (List.forall_mem_cons.mpr ⟨sGO, (fun _ h => absurd h List.not_mem_nil)⟩)⟩)⟩
theorem kM_isAs_26 : Bok "HerbWatersModel" prog_14_method_87_code (26, bM_isAs_26, 28) := ⟨by decide +kernel, (List.forall_mem_cons.mpr ⟨sC0, (List.forall_mem_cons.mpr ⟨sSI3, (fun _ h => absurd h List.not_mem_nil)⟩)⟩)⟩
theorem kM_isAs_28 : Bok "HerbWatersModel" prog_14_method_87_code (28, bM_isAs_28, 38) := ⟨by decide +kernel, (List.forall_mem_cons.mpr ⟨sLI3, (List.forall_mem_cons.mpr ⟨sLA0, (List.forall_mem_cons.mpr ⟨lM_g23, (List.forall_mem_cons.mpr ⟨sC0, (List.forall_mem_cons.mpr ⟨sIALD, (List.forall_mem_cons.mpr ⟨sICge, (fun _ h => absurd h List.not_mem_nil)⟩)⟩)⟩)⟩)⟩)⟩)⟩
theorem kM_isAs_38 : Bok "HerbWatersModel" prog_14_method_87_code (38, bM_isAs_38, 55) := ⟨by decide +kernel, (List.forall_mem_cons.mpr ⟨sLA1, (List.forall_mem_cons.mpr ⟨sSP, (List.forall_mem_cons.mpr ⟨sLI3, (List.forall_mem_cons.mpr ⟨sADD, (List.forall_mem_cons.mpr ⟨sIALD, (List.forall_mem_cons.mpr ⟨sLA2, (List.forall_mem_cons.mpr ⟨sSP, (List.forall_mem_cons.mpr ⟨sLI3, (List.forall_mem_cons.mpr ⟨sADD, (List.forall_mem_cons.mpr ⟨sIALD, (List.forall_mem_cons.mpr ⟨sICeq, (fun _ h => absurd h List.not_mem_nil)⟩)⟩)⟩)⟩)⟩)⟩)⟩)⟩)⟩)⟩)⟩)⟩
theorem kM_isAs_55 : Bok "HerbWatersModel" prog_14_method_87_code (55, bM_isAs_55, 57) := ⟨by decide +kernel, (List.forall_mem_cons.mpr ⟨sC0, (List.forall_mem_cons.mpr ⟨sRI, (fun _ h => absurd h List.not_mem_nil)⟩)⟩)⟩
theorem kM_isAs_57 : Bok "HerbWatersModel" prog_14_method_87_code (57, bM_isAs_57, 60) := ⟨by decide +kernel, (List.forall_mem_cons.mpr ⟨sC1, (List.forall_mem_cons.mpr ⟨sSI4, (fun _ h => absurd h List.not_mem_nil)⟩)⟩)⟩
theorem kM_isAs_60 : Bok "HerbWatersModel" prog_14_method_87_code (60, bM_isAs_60, 73) := ⟨by decide +kernel, (List.forall_mem_cons.mpr ⟨sLI4, (List.forall_mem_cons.mpr ⟨sLA0, (List.forall_mem_cons.mpr ⟨lM_g31, (List.forall_mem_cons.mpr ⟨sLI3, (List.forall_mem_cons.mpr ⟨sAALD107, (List.forall_mem_cons.mpr ⟨sC3, (List.forall_mem_cons.mpr ⟨sIALD, (List.forall_mem_cons.mpr ⟨sICge, (fun _ h => absurd h List.not_mem_nil)⟩)⟩)⟩)⟩)⟩)⟩)⟩)⟩)⟩
theorem kM_isAs_73 : Bok "HerbWatersModel" prog_14_method_87_code (73, bM_isAs_73, 76) := ⟨by decide +kernel, (List.forall_mem_cons.mpr ⟨sC0, (List.forall_mem_cons.mpr ⟨sSI5, (fun _ h => absurd h List.not_mem_nil)⟩)⟩)⟩
theorem kM_isAs_76 : Bok "HerbWatersModel" prog_14_method_87_code (76, bM_isAs_76, 82) := ⟨by decide +kernel, (List.forall_mem_cons.mpr ⟨sLI5, (List.forall_mem_cons.mpr ⟨sC4, (List.forall_mem_cons.mpr ⟨sICge, (fun _ h => absurd h List.not_mem_nil)⟩)⟩)⟩)⟩
theorem kM_isAs_82 : Bok "HerbWatersModel" prog_14_method_87_code (82, bM_isAs_82, 121) := ⟨by decide +kernel, (List.forall_mem_cons.mpr ⟨sLA1, (List.forall_mem_cons.mpr ⟨sSP, (List.forall_mem_cons.mpr ⟨sBP, (List.forall_mem_cons.mpr ⟨sLI4, (List.forall_mem_cons.mpr ⟨sMUL, (List.forall_mem_cons.mpr ⟨sADD, (List.forall_mem_cons.mpr ⟨sC4, (List.forall_mem_cons.mpr ⟨sLI3, (List.forall_mem_cons.mpr ⟨sMUL, (List.forall_mem_cons.mpr ⟨sADD, (List.forall_mem_cons.mpr ⟨sLI5, (List.forall_mem_cons.mpr ⟨sADD, (List.forall_mem_cons.mpr ⟨sIALD, (List.forall_mem_cons.mpr ⟨sLA2, (List.forall_mem_cons.mpr ⟨sSP, (List.forall_mem_cons.mpr ⟨sBP, (List.forall_mem_cons.mpr ⟨sLI4, (List.forall_mem_cons.mpr ⟨sMUL, (List.forall_mem_cons.mpr ⟨sADD, (List.forall_mem_cons.mpr ⟨sC4, (List.forall_mem_cons.mpr ⟨sLI3, (List.forall_mem_cons.mpr ⟨sMUL, (List.forall_mem_cons.mpr ⟨sADD, (List.forall_mem_cons.mpr ⟨sLI5, (List.forall_mem_cons.mpr ⟨sADD, (List.forall_mem_cons.mpr ⟨sIALD, (List.forall_mem_cons.mpr ⟨sICeq, (fun _ h => absurd h List.not_mem_nil)⟩)⟩)⟩)⟩)⟩)⟩)⟩)⟩)⟩)⟩)⟩)⟩)⟩)⟩)⟩)⟩)⟩)⟩)⟩)⟩)⟩)⟩)⟩)⟩)⟩)⟩)⟩)⟩
theorem kM_isAs_121 : Bok "HerbWatersModel" prog_14_method_87_code (121, bM_isAs_121, 123) := ⟨by decide +kernel, (List.forall_mem_cons.mpr ⟨sC0, (List.forall_mem_cons.mpr ⟨sRI, (fun _ h => absurd h List.not_mem_nil)⟩)⟩)⟩
theorem kM_isAs_123 : Bok "HerbWatersModel" prog_14_method_87_code (123, bM_isAs_123, 129) := ⟨by decide +kernel, (List.forall_mem_cons.mpr ⟨sINC5, (List.forall_mem_cons.mpr ⟨sGO, (fun _ h => absurd h List.not_mem_nil)⟩)⟩)⟩
theorem kM_isAs_129 : Bok "HerbWatersModel" prog_14_method_87_code (129, bM_isAs_129, 135) := ⟨by decide +kernel, (List.forall_mem_cons.mpr ⟨sINC4, (List.forall_mem_cons.mpr ⟨sGO, (fun _ h => absurd h List.not_mem_nil)⟩)⟩)⟩
theorem kM_isAs_135 : Bok "HerbWatersModel" prog_14_method_87_code (135, bM_isAs_135, 141) := ⟨by decide +kernel, (List.forall_mem_cons.mpr ⟨sINC3, (List.forall_mem_cons.mpr ⟨sGO, (fun _ h => absurd h List.not_mem_nil)⟩)⟩)⟩
theorem kM_isAs_141 : Bok "HerbWatersModel" prog_14_method_87_code (141, bM_isAs_141, 143) := ⟨by decide +kernel, (List.forall_mem_cons.mpr ⟨sC1, (List.forall_mem_cons.mpr ⟨sRI, (fun _ h => absurd h List.not_mem_nil)⟩)⟩)⟩
theorem kM_isAs : ∀ q ∈ tM_isAs, Bok "HerbWatersModel" prog_14_method_87_code q := (List.forall_mem_cons.mpr ⟨kM_isAs_0, (List.forall_mem_cons.mpr ⟨kM_isAs_2, (List.forall_mem_cons.mpr ⟨kM_isAs_9, (List.forall_mem_cons.mpr ⟨kM_isAs_18, (List.forall_mem_cons.mpr ⟨kM_isAs_20, (List.forall_mem_cons.mpr ⟨kM_isAs_26, (List.forall_mem_cons.mpr ⟨kM_isAs_28, (List.forall_mem_cons.mpr ⟨kM_isAs_38, (List.forall_mem_cons.mpr ⟨kM_isAs_55, (List.forall_mem_cons.mpr ⟨kM_isAs_57, (List.forall_mem_cons.mpr ⟨kM_isAs_60, (List.forall_mem_cons.mpr ⟨kM_isAs_73, (List.forall_mem_cons.mpr ⟨kM_isAs_76, (List.forall_mem_cons.mpr ⟨kM_isAs_82, (List.forall_mem_cons.mpr ⟨kM_isAs_121, (List.forall_mem_cons.mpr ⟨kM_isAs_123, (List.forall_mem_cons.mpr ⟨kM_isAs_129, (List.forall_mem_cons.mpr ⟨kM_isAs_135, (List.forall_mem_cons.mpr ⟨kM_isAs_141, (fun _ h => absurd h List.not_mem_nil)⟩)⟩)⟩)⟩)⟩)⟩)⟩)⟩)⟩)⟩)⟩)⟩)⟩)⟩)⟩)⟩)⟩)⟩)⟩)
def mM_round : Mt := (⟨"HerbWatersModel", "round", "(I)I"⟩, prog_14_method_88_code, 4, some .int)
theorem ok_M_round : Mok mM_round := ⟨gtb_mem 2217 (by decide +kernel) rfl, gtb_mem 107 (by decide +kernel) rfl, by decide +kernel, by decide⟩
theorem lM_g111 : Snd "HerbWatersModel" (iGR 111 11 54) := sGR _ rfl (gtb_mem 1777 (by decide +kernel) rfl)
theorem lM_v385 : Snd "HerbWatersModel" (iCV2 385 11 mM_isAs) := sCV2 _ rfl rfl ok_M_isAs (gtb_mem 2220 (by decide +kernel) rfl) (gtb_mem 86 (by decide +kernel) rfl) (gtb_mem 2218 (by decide +kernel) rfl)
def bM_round_0 : List Ir := [iLA0, iC0, (iPI 123 11 0), iLA0, iLI1, iC0, iC1, (iCS3 157 mM_in), (iIFne (7) 19)]
def bM_round_15 : List Ir := [iC1, (iGO (4) 20)]
def bM_round_19 : List Ir := [iC0]
def bM_round_20 : List Ir := [iC1, iC1, (iCV3 221 11 mM_bad), (iIFeq (5) 30)]
def bM_round_28 : List Ir := [iC0, iRI]
def bM_round_30 : List Ir := [iC0, iSI2]
def bM_round_32 : List Ir := [iLI2, iLA0, (iGR 23 11 12), iC0, iIALD, (iICge (20) 59)]
def bM_round_42 : List Ir := [iLA0, (iGR 43 11 18), iLI2, iZALD, (iIFeq (5) 53)]
def bM_round_51 : List Ir := [iCm1, iRI]
def bM_round_53 : List Ir := [(iINC2 1), (iGO (-24) 32)]
def bM_round_59 : List Ir := [iLA0, (iCV0 353 11 mM_asNow), iLA0, (iGR 77 11 32), iLA0, (iGR 83 11 34), (iCS2 231 mM_copies), iC0, iSI2]
def bM_round_76 : List Ir := [iLI2, (iSP 200), (iICgt (92) 172)]
def bM_round_83 : List Ir := [iLI2, (iIFle (11) 95)]
def bM_round_87 : List Ir := [iLA0, iLA0, (iGR 83 11 34), (iCV1 356 11 mM_steps)]
def bM_round_95 : List Ir := [iC0, iSI3]
def bM_round_97 : List Ir := [iLI3, iLI2, (iICge (38) 137)]
def bM_round_102 : List Ir := [iLA0, iLA0, (iGR 83 11 34), iLA0, (iGR 111 11 54), iLI3, iAALD107, (iCV2 385 11 mM_isAs), (iIFeq (15) 131)]
def bM_round_119 : List Ir := [iLI1, (iIFne (7) 127)]
def bM_round_123 : List Ir := [iLI2, (iGO (6) 130)]
def bM_round_127 : List Ir := [iLI2, iLI3, iSUB]
def bM_round_130 : List Ir := [iRI]
def bM_round_131 : List Ir := [(iINC3 1), (iGO (-37) 97)]
def bM_round_137 : List Ir := [iC0, iSI3]
def bM_round_139 : List Ir := [iLI3, (iSP 441), (iICge (23) 166)]
def bM_round_146 : List Ir := [iLA0, (iGR 111 11 54), iLI2, iAALD107, iLI3, iLA0, (iGR 83 11 34), iLI3, iIALD, iIAST, (iINC3 1), (iGO (-24) 139)]
def bM_round_166 : List Ir := [(iINC2 1), (iGO (-93) 76)]
def bM_round_172 : List Ir := [iCm1, iRI]
def tM_round : Tb := [(0, bM_round_0, 15), (15, bM_round_15, 19), (19, bM_round_19, 20), (20, bM_round_20, 28), (28, bM_round_28, 30), (30, bM_round_30, 32), (32, bM_round_32, 42), (42, bM_round_42, 51), (51, bM_round_51, 53), (53, bM_round_53, 59), (59, bM_round_59, 76), (76, bM_round_76, 83), (83, bM_round_83, 87), (87, bM_round_87, 95), (95, bM_round_95, 97), (97, bM_round_97, 102), (102, bM_round_102, 119), (119, bM_round_119, 123), (123, bM_round_123, 127), (127, bM_round_127, 130), (130, bM_round_130, 131), (131, bM_round_131, 137), (137, bM_round_137, 139), (139, bM_round_139, 146), (146, bM_round_146, 166), (166, bM_round_166, 172), (172, bM_round_172, 174)]
theorem fM_round_0 : tbf tM_round 0 = some (bM_round_0, 15) := rfl
theorem fM_round_15 : tbf tM_round 15 = some (bM_round_15, 19) := rfl
theorem fM_round_19 : tbf tM_round 19 = some (bM_round_19, 20) := rfl
theorem fM_round_20 : tbf tM_round 20 = some (bM_round_20, 28) := rfl
theorem fM_round_28 : tbf tM_round 28 = some (bM_round_28, 30) := rfl
theorem fM_round_30 : tbf tM_round 30 = some (bM_round_30, 32) := rfl
theorem fM_round_32 : tbf tM_round 32 = some (bM_round_32, 42) := rfl
theorem fM_round_42 : tbf tM_round 42 = some (bM_round_42, 51) := rfl
theorem fM_round_51 : tbf tM_round 51 = some (bM_round_51, 53) := rfl
theorem fM_round_53 : tbf tM_round 53 = some (bM_round_53, 59) := rfl
theorem fM_round_59 : tbf tM_round 59 = some (bM_round_59, 76) := rfl
theorem fM_round_76 : tbf tM_round 76 = some (bM_round_76, 83) := rfl
theorem fM_round_83 : tbf tM_round 83 = some (bM_round_83, 87) := rfl
theorem fM_round_87 : tbf tM_round 87 = some (bM_round_87, 95) := rfl
theorem fM_round_95 : tbf tM_round 95 = some (bM_round_95, 97) := rfl
theorem fM_round_97 : tbf tM_round 97 = some (bM_round_97, 102) := rfl
theorem fM_round_102 : tbf tM_round 102 = some (bM_round_102, 119) := rfl
theorem fM_round_119 : tbf tM_round 119 = some (bM_round_119, 123) := rfl
theorem fM_round_123 : tbf tM_round 123 = some (bM_round_123, 127) := rfl
theorem fM_round_127 : tbf tM_round 127 = some (bM_round_127, 130) := rfl
theorem fM_round_130 : tbf tM_round 130 = some (bM_round_130, 131) := rfl
theorem fM_round_131 : tbf tM_round 131 = some (bM_round_131, 137) := rfl
theorem fM_round_137 : tbf tM_round 137 = some (bM_round_137, 139) := rfl
theorem fM_round_139 : tbf tM_round 139 = some (bM_round_139, 146) := rfl
theorem fM_round_146 : tbf tM_round 146 = some (bM_round_146, 166) := rfl
theorem fM_round_166 : tbf tM_round 166 = some (bM_round_166, 172) := rfl
theorem fM_round_172 : tbf tM_round 172 = some (bM_round_172, 174) := rfl
theorem kM_round_0 : Bok "HerbWatersModel" prog_14_method_88_code (0, bM_round_0, 15) := ⟨by decide +kernel, (List.forall_mem_cons.mpr ⟨sLA0, (List.forall_mem_cons.mpr ⟨sC0, (List.forall_mem_cons.mpr ⟨lM_p123, (List.forall_mem_cons.mpr ⟨sLA0, (List.forall_mem_cons.mpr ⟨sLI1, (List.forall_mem_cons.mpr ⟨sC0, (List.forall_mem_cons.mpr ⟨sC1, (List.forall_mem_cons.mpr ⟨lM_s157, (List.forall_mem_cons.mpr ⟨sIFne, (fun _ h => absurd h List.not_mem_nil)⟩)⟩)⟩)⟩)⟩)⟩)⟩)⟩)⟩)⟩
theorem kM_round_15 : Bok "HerbWatersModel" prog_14_method_88_code (15, bM_round_15, 19) := ⟨by decide +kernel, (List.forall_mem_cons.mpr ⟨sC1, (List.forall_mem_cons.mpr ⟨sGO, (fun _ h => absurd h List.not_mem_nil)⟩)⟩)⟩
theorem kM_round_19 : Bok "HerbWatersModel" prog_14_method_88_code (19, bM_round_19, 20) := ⟨by decide +kernel, (List.forall_mem_cons.mpr ⟨sC0, (fun _ h => absurd h List.not_mem_nil)⟩)⟩
theorem kM_round_20 : Bok "HerbWatersModel" prog_14_method_88_code (20, bM_round_20, 28) := ⟨by decide +kernel, (List.forall_mem_cons.mpr ⟨sC1, (List.forall_mem_cons.mpr ⟨sC1, (List.forall_mem_cons.mpr ⟨lM_v221, (List.forall_mem_cons.mpr ⟨sIFeq, (fun _ h => absurd h List.not_mem_nil)⟩)⟩)⟩)⟩)⟩
theorem kM_round_28 : Bok "HerbWatersModel" prog_14_method_88_code (28, bM_round_28, 30) := ⟨by decide +kernel, (List.forall_mem_cons.mpr ⟨sC0, (List.forall_mem_cons.mpr ⟨sRI, (fun _ h => absurd h List.not_mem_nil)⟩)⟩)⟩
theorem kM_round_30 : Bok "HerbWatersModel" prog_14_method_88_code (30, bM_round_30, 32) := ⟨by decide +kernel, (List.forall_mem_cons.mpr ⟨sC0, (List.forall_mem_cons.mpr ⟨sSI2, (fun _ h => absurd h List.not_mem_nil)⟩)⟩)⟩
theorem kM_round_32 : Bok "HerbWatersModel" prog_14_method_88_code (32, bM_round_32, 42) := ⟨by decide +kernel, (List.forall_mem_cons.mpr ⟨sLI2, (List.forall_mem_cons.mpr ⟨sLA0, (List.forall_mem_cons.mpr ⟨lM_g23, (List.forall_mem_cons.mpr ⟨sC0, (List.forall_mem_cons.mpr ⟨sIALD, (List.forall_mem_cons.mpr ⟨sICge, (fun _ h => absurd h List.not_mem_nil)⟩)⟩)⟩)⟩)⟩)⟩)⟩
theorem kM_round_42 : Bok "HerbWatersModel" prog_14_method_88_code (42, bM_round_42, 51) := ⟨by decide +kernel, (List.forall_mem_cons.mpr ⟨sLA0, (List.forall_mem_cons.mpr ⟨lM_g43, (List.forall_mem_cons.mpr ⟨sLI2, (List.forall_mem_cons.mpr ⟨sZALD, (List.forall_mem_cons.mpr ⟨sIFeq, (fun _ h => absurd h List.not_mem_nil)⟩)⟩)⟩)⟩)⟩)⟩
theorem kM_round_51 : Bok "HerbWatersModel" prog_14_method_88_code (51, bM_round_51, 53) := ⟨by decide +kernel, (List.forall_mem_cons.mpr ⟨sCm1, (List.forall_mem_cons.mpr ⟨sRI, (fun _ h => absurd h List.not_mem_nil)⟩)⟩)⟩
theorem kM_round_53 : Bok "HerbWatersModel" prog_14_method_88_code (53, bM_round_53, 59) := ⟨by decide +kernel, (List.forall_mem_cons.mpr ⟨sINC2, (List.forall_mem_cons.mpr ⟨sGO, (fun _ h => absurd h List.not_mem_nil)⟩)⟩)⟩
theorem kM_round_59 : Bok "HerbWatersModel" prog_14_method_88_code (59, bM_round_59, 76) := ⟨by decide +kernel, (List.forall_mem_cons.mpr ⟨sLA0, (List.forall_mem_cons.mpr ⟨lM_v353, (List.forall_mem_cons.mpr ⟨sLA0, (List.forall_mem_cons.mpr ⟨lM_g77, (List.forall_mem_cons.mpr ⟨sLA0, (List.forall_mem_cons.mpr ⟨lM_g83, (List.forall_mem_cons.mpr ⟨lM_s231, (List.forall_mem_cons.mpr ⟨sC0, (List.forall_mem_cons.mpr ⟨sSI2, (fun _ h => absurd h List.not_mem_nil)⟩)⟩)⟩)⟩)⟩)⟩)⟩)⟩)⟩)⟩
theorem kM_round_76 : Bok "HerbWatersModel" prog_14_method_88_code (76, bM_round_76, 83) := ⟨by decide +kernel, (List.forall_mem_cons.mpr ⟨sLI2, (List.forall_mem_cons.mpr ⟨sSP, (List.forall_mem_cons.mpr ⟨sICgt, (fun _ h => absurd h List.not_mem_nil)⟩)⟩)⟩)⟩
theorem kM_round_83 : Bok "HerbWatersModel" prog_14_method_88_code (83, bM_round_83, 87) := ⟨by decide +kernel, (List.forall_mem_cons.mpr ⟨sLI2, (List.forall_mem_cons.mpr ⟨sIFle, (fun _ h => absurd h List.not_mem_nil)⟩)⟩)⟩
theorem kM_round_87 : Bok "HerbWatersModel" prog_14_method_88_code (87, bM_round_87, 95) := ⟨by decide +kernel, (List.forall_mem_cons.mpr ⟨sLA0, (List.forall_mem_cons.mpr ⟨sLA0, (List.forall_mem_cons.mpr ⟨lM_g83, (List.forall_mem_cons.mpr ⟨lM_v356, (fun _ h => absurd h List.not_mem_nil)⟩)⟩)⟩)⟩)⟩
theorem kM_round_95 : Bok "HerbWatersModel" prog_14_method_88_code (95, bM_round_95, 97) := ⟨by decide +kernel, (List.forall_mem_cons.mpr ⟨sC0, (List.forall_mem_cons.mpr ⟨sSI3, (fun _ h => absurd h List.not_mem_nil)⟩)⟩)⟩
theorem kM_round_97 : Bok "HerbWatersModel" prog_14_method_88_code (97, bM_round_97, 102) := ⟨by decide +kernel, (List.forall_mem_cons.mpr ⟨sLI3, (List.forall_mem_cons.mpr ⟨sLI2, (List.forall_mem_cons.mpr ⟨sICge, (fun _ h => absurd h List.not_mem_nil)⟩)⟩)⟩)⟩
theorem kM_round_102 : Bok "HerbWatersModel" prog_14_method_88_code (102, bM_round_102, 119) := ⟨by decide +kernel, (List.forall_mem_cons.mpr ⟨sLA0, (List.forall_mem_cons.mpr ⟨sLA0, (List.forall_mem_cons.mpr ⟨lM_g83, (List.forall_mem_cons.mpr ⟨sLA0, (List.forall_mem_cons.mpr ⟨lM_g111, (List.forall_mem_cons.mpr ⟨sLI3, (List.forall_mem_cons.mpr ⟨sAALD107, (List.forall_mem_cons.mpr ⟨lM_v385, (List.forall_mem_cons.mpr ⟨sIFeq, (fun _ h => absurd h List.not_mem_nil)⟩)⟩)⟩)⟩)⟩)⟩)⟩)⟩)⟩)⟩
theorem kM_round_119 : Bok "HerbWatersModel" prog_14_method_88_code (119, bM_round_119, 123) := ⟨by decide +kernel, (List.forall_mem_cons.mpr ⟨sLI1, (List.forall_mem_cons.mpr ⟨sIFne, (fun _ h => absurd h List.not_mem_nil)⟩)⟩)⟩
theorem kM_round_123 : Bok "HerbWatersModel" prog_14_method_88_code (123, bM_round_123, 127) := ⟨by decide +kernel, (List.forall_mem_cons.mpr ⟨sLI2, (List.forall_mem_cons.mpr ⟨sGO, (fun _ h => absurd h List.not_mem_nil)⟩)⟩)⟩
theorem kM_round_127 : Bok "HerbWatersModel" prog_14_method_88_code (127, bM_round_127, 130) := ⟨by decide +kernel, (List.forall_mem_cons.mpr ⟨sLI2, (List.forall_mem_cons.mpr ⟨sLI3, (List.forall_mem_cons.mpr ⟨sSUB, (fun _ h => absurd h List.not_mem_nil)⟩)⟩)⟩)⟩
theorem kM_round_130 : Bok "HerbWatersModel" prog_14_method_88_code (130, bM_round_130, 131) := ⟨by decide +kernel, (List.forall_mem_cons.mpr ⟨sRI, (fun _ h => absurd h List.not_mem_nil)⟩)⟩
theorem kM_round_131 : Bok "HerbWatersModel" prog_14_method_88_code (131, bM_round_131, 137) := ⟨by decide +kernel, (List.forall_mem_cons.mpr ⟨sINC3, (List.forall_mem_cons.mpr ⟨sGO, (fun _ h => absurd h List.not_mem_nil)⟩)⟩)⟩
theorem kM_round_137 : Bok "HerbWatersModel" prog_14_method_88_code (137, bM_round_137, 139) := ⟨by decide +kernel, (List.forall_mem_cons.mpr ⟨sC0, (List.forall_mem_cons.mpr ⟨sSI3, (fun _ h => absurd h List.not_mem_nil)⟩)⟩)⟩
theorem kM_round_139 : Bok "HerbWatersModel" prog_14_method_88_code (139, bM_round_139, 146) := ⟨by decide +kernel, (List.forall_mem_cons.mpr ⟨sLI3, (List.forall_mem_cons.mpr ⟨sSP, (List.forall_mem_cons.mpr ⟨sICge, (fun _ h => absurd h List.not_mem_nil)⟩)⟩)⟩)⟩
theorem kM_round_146 : Bok "HerbWatersModel" prog_14_method_88_code (146, bM_round_146, 166) := ⟨by decide +kernel, (List.forall_mem_cons.mpr ⟨sLA0, (List.forall_mem_cons.mpr ⟨lM_g111, (List.forall_mem_cons.mpr ⟨sLI2, (List.forall_mem_cons.mpr ⟨sAALD107, (List.forall_mem_cons.mpr ⟨sLI3, (List.forall_mem_cons.mpr ⟨sLA0, (List.forall_mem_cons.mpr ⟨lM_g83, (List.forall_mem_cons.mpr ⟨sLI3, (List.forall_mem_cons.mpr ⟨sIALD, (List.forall_mem_cons.mpr ⟨sIAST, (List.forall_mem_cons.mpr ⟨sINC3, (List.forall_mem_cons.mpr ⟨sGO, (fun _ h => absurd h List.not_mem_nil)⟩)⟩)⟩)⟩)⟩)⟩)⟩)⟩)⟩)⟩)⟩)⟩)⟩
theorem kM_round_166 : Bok "HerbWatersModel" prog_14_method_88_code (166, bM_round_166, 172) := ⟨by decide +kernel, (List.forall_mem_cons.mpr ⟨sINC2, (List.forall_mem_cons.mpr ⟨sGO, (fun _ h => absurd h List.not_mem_nil)⟩)⟩)⟩
theorem kM_round_172 : Bok "HerbWatersModel" prog_14_method_88_code (172, bM_round_172, 174) := ⟨by decide +kernel, (List.forall_mem_cons.mpr ⟨sCm1, (List.forall_mem_cons.mpr ⟨sRI, (fun _ h => absurd h List.not_mem_nil)⟩)⟩)⟩
theorem kM_round : ∀ q ∈ tM_round, Bok "HerbWatersModel" prog_14_method_88_code q := (List.forall_mem_cons.mpr ⟨kM_round_0, (List.forall_mem_cons.mpr ⟨kM_round_15, (List.forall_mem_cons.mpr ⟨kM_round_19, (List.forall_mem_cons.mpr ⟨kM_round_20, (List.forall_mem_cons.mpr ⟨kM_round_28, (List.forall_mem_cons.mpr ⟨kM_round_30, (List.forall_mem_cons.mpr ⟨kM_round_32, (List.forall_mem_cons.mpr ⟨kM_round_42, (List.forall_mem_cons.mpr ⟨kM_round_51, (List.forall_mem_cons.mpr ⟨kM_round_53, (List.forall_mem_cons.mpr ⟨kM_round_59, (List.forall_mem_cons.mpr ⟨kM_round_76, (List.forall_mem_cons.mpr ⟨kM_round_83, (List.forall_mem_cons.mpr ⟨kM_round_87, (List.forall_mem_cons.mpr ⟨kM_round_95, (List.forall_mem_cons.mpr ⟨kM_round_97, (List.forall_mem_cons.mpr ⟨kM_round_102, (List.forall_mem_cons.mpr ⟨kM_round_119, (List.forall_mem_cons.mpr ⟨kM_round_123, (List.forall_mem_cons.mpr ⟨kM_round_127, (List.forall_mem_cons.mpr ⟨kM_round_130, (List.forall_mem_cons.mpr ⟨kM_round_131, (List.forall_mem_cons.mpr ⟨kM_round_137, (List.forall_mem_cons.mpr ⟨kM_round_139, (List.forall_mem_cons.mpr ⟨kM_round_146, (List.forall_mem_cons.mpr ⟨kM_round_166, (List.forall_mem_cons.mpr ⟨kM_round_172, (fun _ h => absurd h List.not_mem_nil)⟩)⟩)⟩)⟩)⟩)⟩)⟩)⟩)⟩)⟩)⟩)⟩)⟩)⟩)⟩)⟩)⟩)⟩)⟩)⟩)⟩)⟩)⟩)⟩)⟩)⟩)⟩)
def mM_grade : Mt := (⟨"HerbWatersModel", "grade", "(II)I"⟩, prog_14_method_89_code, 4, some .int)
theorem ok_M_grade : Mok mM_grade := ⟨gtb_mem 2225 (by decide +kernel) rfl, gtb_mem 107 (by decide +kernel) rfl, by decide +kernel, by decide⟩
def bM_grade_0 : List Ir := [iLA0, iC0, (iPI 123 11 0), iLA0, iLA0, iLI1, (iCV1 290 11 mM_isVillage), (iIFne (7) 18)]
def bM_grade_14 : List Ir := [iC1, (iGO (4) 19)]
def bM_grade_18 : List Ir := [iC0]
def bM_grade_19 : List Ir := [iC1, iC0, (iCV3 221 11 mM_bad), (iIFne (26) 50)]
def bM_grade_27 : List Ir := [iLA0, iLI2, iC0, iC3, (iCS3 157 mM_in), (iIFne (7) 41)]
def bM_grade_37 : List Ir := [iC1, (iGO (4) 42)]
def bM_grade_41 : List Ir := [iC0]
def bM_grade_42 : List Ir := [iC2, iC1, (iCV3 221 11 mM_bad), (iIFeq (5) 52)]
def bM_grade_50 : List Ir := [iC0, iRI]
def bM_grade_52 : List Ir := [iLA0, (iGR 74 11 31), iLI1, iIALD, iSI3, iLA0, (iGR 74 11 31), iLI1, iLI2, iIAST, iLA0, (iCV0 247 11 mM_settles), iLI3, iRI]
def tM_grade : Tb := [(0, bM_grade_0, 14), (14, bM_grade_14, 18), (18, bM_grade_18, 19), (19, bM_grade_19, 27), (27, bM_grade_27, 37), (37, bM_grade_37, 41), (41, bM_grade_41, 42), (42, bM_grade_42, 50), (50, bM_grade_50, 52), (52, bM_grade_52, 72)]
theorem fM_grade_0 : tbf tM_grade 0 = some (bM_grade_0, 14) := rfl
theorem fM_grade_14 : tbf tM_grade 14 = some (bM_grade_14, 18) := rfl
theorem fM_grade_18 : tbf tM_grade 18 = some (bM_grade_18, 19) := rfl
theorem fM_grade_19 : tbf tM_grade 19 = some (bM_grade_19, 27) := rfl
theorem fM_grade_27 : tbf tM_grade 27 = some (bM_grade_27, 37) := rfl
theorem fM_grade_37 : tbf tM_grade 37 = some (bM_grade_37, 41) := rfl
theorem fM_grade_41 : tbf tM_grade 41 = some (bM_grade_41, 42) := rfl
theorem fM_grade_42 : tbf tM_grade 42 = some (bM_grade_42, 50) := rfl
theorem fM_grade_50 : tbf tM_grade 50 = some (bM_grade_50, 52) := rfl
theorem fM_grade_52 : tbf tM_grade 52 = some (bM_grade_52, 72) := rfl
theorem kM_grade_0 : Bok "HerbWatersModel" prog_14_method_89_code (0, bM_grade_0, 14) := ⟨by decide +kernel, (List.forall_mem_cons.mpr ⟨sLA0, (List.forall_mem_cons.mpr ⟨sC0, (List.forall_mem_cons.mpr ⟨lM_p123, (List.forall_mem_cons.mpr ⟨sLA0, (List.forall_mem_cons.mpr ⟨sLA0, (List.forall_mem_cons.mpr ⟨sLI1, (List.forall_mem_cons.mpr ⟨lM_v290, (List.forall_mem_cons.mpr ⟨sIFne, (fun _ h => absurd h List.not_mem_nil)⟩)⟩)⟩)⟩)⟩)⟩)⟩)⟩)⟩
theorem kM_grade_14 : Bok "HerbWatersModel" prog_14_method_89_code (14, bM_grade_14, 18) := ⟨by decide +kernel, (List.forall_mem_cons.mpr ⟨sC1, (List.forall_mem_cons.mpr ⟨sGO, (fun _ h => absurd h List.not_mem_nil)⟩)⟩)⟩
theorem kM_grade_18 : Bok "HerbWatersModel" prog_14_method_89_code (18, bM_grade_18, 19) := ⟨by decide +kernel, (List.forall_mem_cons.mpr ⟨sC0, (fun _ h => absurd h List.not_mem_nil)⟩)⟩
theorem kM_grade_19 : Bok "HerbWatersModel" prog_14_method_89_code (19, bM_grade_19, 27) := ⟨by decide +kernel, (List.forall_mem_cons.mpr ⟨sC1, (List.forall_mem_cons.mpr ⟨sC0, (List.forall_mem_cons.mpr ⟨lM_v221, (List.forall_mem_cons.mpr ⟨sIFne, (fun _ h => absurd h List.not_mem_nil)⟩)⟩)⟩)⟩)⟩
theorem kM_grade_27 : Bok "HerbWatersModel" prog_14_method_89_code (27, bM_grade_27, 37) := ⟨by decide +kernel, (List.forall_mem_cons.mpr ⟨sLA0, (List.forall_mem_cons.mpr ⟨sLI2, (List.forall_mem_cons.mpr ⟨sC0, (List.forall_mem_cons.mpr ⟨sC3, (List.forall_mem_cons.mpr ⟨lM_s157, (List.forall_mem_cons.mpr ⟨sIFne, (fun _ h => absurd h List.not_mem_nil)⟩)⟩)⟩)⟩)⟩)⟩)⟩
theorem kM_grade_37 : Bok "HerbWatersModel" prog_14_method_89_code (37, bM_grade_37, 41) := ⟨by decide +kernel, (List.forall_mem_cons.mpr ⟨sC1, (List.forall_mem_cons.mpr ⟨sGO, (fun _ h => absurd h List.not_mem_nil)⟩)⟩)⟩
theorem kM_grade_41 : Bok "HerbWatersModel" prog_14_method_89_code (41, bM_grade_41, 42) := ⟨by decide +kernel, (List.forall_mem_cons.mpr ⟨sC0, (fun _ h => absurd h List.not_mem_nil)⟩)⟩
theorem kM_grade_42 : Bok "HerbWatersModel" prog_14_method_89_code (42, bM_grade_42, 50) := ⟨by decide +kernel, (List.forall_mem_cons.mpr ⟨sC2, (List.forall_mem_cons.mpr ⟨sC1, (List.forall_mem_cons.mpr ⟨lM_v221, (List.forall_mem_cons.mpr ⟨sIFeq, (fun _ h => absurd h List.not_mem_nil)⟩)⟩)⟩)⟩)⟩
theorem kM_grade_50 : Bok "HerbWatersModel" prog_14_method_89_code (50, bM_grade_50, 52) := ⟨by decide +kernel, (List.forall_mem_cons.mpr ⟨sC0, (List.forall_mem_cons.mpr ⟨sRI, (fun _ h => absurd h List.not_mem_nil)⟩)⟩)⟩
theorem kM_grade_52 : Bok "HerbWatersModel" prog_14_method_89_code (52, bM_grade_52, 72) := ⟨by decide +kernel, (List.forall_mem_cons.mpr ⟨sLA0, (List.forall_mem_cons.mpr ⟨lM_g74, (List.forall_mem_cons.mpr ⟨sLI1, (List.forall_mem_cons.mpr ⟨sIALD, (List.forall_mem_cons.mpr ⟨sSI3, (List.forall_mem_cons.mpr ⟨sLA0, (List.forall_mem_cons.mpr ⟨lM_g74, (List.forall_mem_cons.mpr ⟨sLI1, (List.forall_mem_cons.mpr ⟨sLI2, (List.forall_mem_cons.mpr ⟨sIAST, (List.forall_mem_cons.mpr ⟨sLA0, (List.forall_mem_cons.mpr ⟨lM_v247, (List.forall_mem_cons.mpr ⟨sLI3, (List.forall_mem_cons.mpr ⟨sRI, (fun _ h => absurd h List.not_mem_nil)⟩)⟩)⟩)⟩)⟩)⟩)⟩)⟩)⟩)⟩)⟩)⟩)⟩)⟩)⟩
theorem kM_grade : ∀ q ∈ tM_grade, Bok "HerbWatersModel" prog_14_method_89_code q := (List.forall_mem_cons.mpr ⟨kM_grade_0, (List.forall_mem_cons.mpr ⟨kM_grade_14, (List.forall_mem_cons.mpr ⟨kM_grade_18, (List.forall_mem_cons.mpr ⟨kM_grade_19, (List.forall_mem_cons.mpr ⟨kM_grade_27, (List.forall_mem_cons.mpr ⟨kM_grade_37, (List.forall_mem_cons.mpr ⟨kM_grade_41, (List.forall_mem_cons.mpr ⟨kM_grade_42, (List.forall_mem_cons.mpr ⟨kM_grade_50, (List.forall_mem_cons.mpr ⟨kM_grade_52, (fun _ h => absurd h List.not_mem_nil)⟩)⟩)⟩)⟩)⟩)⟩)⟩)⟩)⟩)⟩)
def mM_lossBy : Mt := (⟨"HerbWatersModel", "lossBy", "(III)I"⟩, prog_14_method_90_code, 6, some .int)
theorem ok_M_lossBy : Mok mM_lossBy := ⟨gtb_mem 2233 (by decide +kernel) rfl, gtb_mem 107 (by decide +kernel) rfl, by decide +kernel, by decide⟩
def bM_lossBy_0 : List Ir := [iLA0, (iCV0 353 11 mM_asNow), iLA0, (iGR 77 11 32), iLA0, (iGR 83 11 34), (iCS2 231 mM_copies), iLI3, iLA0, (iGR 74 11 31), iLI1, iIALD, iMUL, iLI2, iMUL, iSI4, iC0, iSI5]
def bM_lossBy_30 : List Ir := [iLI5, iLI2, (iICge (51) 84)]
def bM_lossBy_36 : List Ir := [iLA0, iLA0, (iGR 83 11 34), (iCV1 356 11 mM_steps), iLI4, iLA0, (iGR 83 11 34), iLI1, iC1, (iCS3 350 mM_basin), iLA0, (iGR 83 11 34), iLI1, iC2, (iCS3 350 mM_basin), iADD, iLA0, (iGR 83 11 34), iLI1, iC3, (iCS3 350 mM_basin), iADD, iADD, iSI4, (iINC5 1), (iGO (-51) 30)]
def bM_lossBy_84 : List Ir := [iLI4, iRI]
def tM_lossBy : Tb := [(0, bM_lossBy_0, 30), (30, bM_lossBy_30, 36), (36, bM_lossBy_36, 84), (84, bM_lossBy_84, 87)]
theorem fM_lossBy_0 : tbf tM_lossBy 0 = some (bM_lossBy_0, 30) := rfl
theorem fM_lossBy_30 : tbf tM_lossBy 30 = some (bM_lossBy_30, 36) := rfl
theorem fM_lossBy_36 : tbf tM_lossBy 36 = some (bM_lossBy_36, 84) := rfl
theorem fM_lossBy_84 : tbf tM_lossBy 84 = some (bM_lossBy_84, 87) := rfl
theorem kM_lossBy_0 : Bok "HerbWatersModel" prog_14_method_90_code (0, bM_lossBy_0, 30) := ⟨by decide +kernel, (List.forall_mem_cons.mpr ⟨sLA0, (List.forall_mem_cons.mpr ⟨lM_v353, (List.forall_mem_cons.mpr ⟨sLA0, (List.forall_mem_cons.mpr ⟨lM_g77, (List.forall_mem_cons.mpr ⟨sLA0, (List.forall_mem_cons.mpr ⟨lM_g83, (List.forall_mem_cons.mpr ⟨lM_s231, (List.forall_mem_cons.mpr ⟨sLI3, (List.forall_mem_cons.mpr ⟨sLA0, (List.forall_mem_cons.mpr ⟨lM_g74, (List.forall_mem_cons.mpr ⟨sLI1, (List.forall_mem_cons.mpr ⟨sIALD, (List.forall_mem_cons.mpr ⟨sMUL, (List.forall_mem_cons.mpr ⟨sLI2, (List.forall_mem_cons.mpr ⟨sMUL, (List.forall_mem_cons.mpr ⟨sSI4, (List.forall_mem_cons.mpr ⟨sC0, (List.forall_mem_cons.mpr ⟨sSI5, (fun _ h => absurd h List.not_mem_nil)⟩)⟩)⟩)⟩)⟩)⟩)⟩)⟩)⟩)⟩)⟩)⟩)⟩)⟩)⟩)⟩)⟩)⟩)⟩
theorem kM_lossBy_30 : Bok "HerbWatersModel" prog_14_method_90_code (30, bM_lossBy_30, 36) := ⟨by decide +kernel, (List.forall_mem_cons.mpr ⟨sLI5, (List.forall_mem_cons.mpr ⟨sLI2, (List.forall_mem_cons.mpr ⟨sICge, (fun _ h => absurd h List.not_mem_nil)⟩)⟩)⟩)⟩
theorem kM_lossBy_36 : Bok "HerbWatersModel" prog_14_method_90_code (36, bM_lossBy_36, 84) := ⟨by decide +kernel, (List.forall_mem_cons.mpr ⟨sLA0, (List.forall_mem_cons.mpr ⟨sLA0, (List.forall_mem_cons.mpr ⟨lM_g83, (List.forall_mem_cons.mpr ⟨lM_v356, (List.forall_mem_cons.mpr ⟨sLI4, (List.forall_mem_cons.mpr ⟨sLA0, (List.forall_mem_cons.mpr ⟨lM_g83, (List.forall_mem_cons.mpr ⟨sLI1, (List.forall_mem_cons.mpr ⟨sC1, (List.forall_mem_cons.mpr ⟨lM_s350, (List.forall_mem_cons.mpr ⟨sLA0, (List.forall_mem_cons.mpr ⟨lM_g83, (List.forall_mem_cons.mpr ⟨sLI1, (List.forall_mem_cons.mpr ⟨sC2, (List.forall_mem_cons.mpr ⟨lM_s350, (List.forall_mem_cons.mpr ⟨sADD, (List.forall_mem_cons.mpr ⟨sLA0, (List.forall_mem_cons.mpr ⟨lM_g83, (List.forall_mem_cons.mpr ⟨sLI1, (List.forall_mem_cons.mpr ⟨sC3, (List.forall_mem_cons.mpr ⟨lM_s350, (List.forall_mem_cons.mpr ⟨sADD, (List.forall_mem_cons.mpr ⟨sADD, (List.forall_mem_cons.mpr ⟨sSI4, (List.forall_mem_cons.mpr ⟨sINC5, (List.forall_mem_cons.mpr ⟨sGO, (fun _ h => absurd h List.not_mem_nil)⟩)⟩)⟩)⟩)⟩)⟩)⟩)⟩)⟩)⟩)⟩)⟩)⟩)⟩)⟩)⟩)⟩)⟩)⟩)⟩)⟩)⟩)⟩)⟩)⟩)⟩)⟩
theorem kM_lossBy_84 : Bok "HerbWatersModel" prog_14_method_90_code (84, bM_lossBy_84, 87) := ⟨by decide +kernel, (List.forall_mem_cons.mpr ⟨sLI4, (List.forall_mem_cons.mpr ⟨sRI, (fun _ h => absurd h List.not_mem_nil)⟩)⟩)⟩
theorem kM_lossBy : ∀ q ∈ tM_lossBy, Bok "HerbWatersModel" prog_14_method_90_code q := (List.forall_mem_cons.mpr ⟨kM_lossBy_0, (List.forall_mem_cons.mpr ⟨kM_lossBy_30, (List.forall_mem_cons.mpr ⟨kM_lossBy_36, (List.forall_mem_cons.mpr ⟨kM_lossBy_84, (fun _ h => absurd h List.not_mem_nil)⟩)⟩)⟩)⟩)
def mM_wishOf : Mt := (⟨"HerbWatersModel", "wishOf", "(III)I"⟩, prog_14_method_91_code, 9, some .int)
theorem ok_M_wishOf : Mok mM_wishOf := ⟨gtb_mem 2237 (by decide +kernel) rfl, gtb_mem 107 (by decide +kernel) rfl, by decide +kernel, by decide⟩
theorem lM_v389 : Snd "HerbWatersModel" (iCV3 389 11 mM_lossBy) := sCV3 _ rfl rfl ok_M_lossBy (gtb_mem 2232 (by decide +kernel) rfl) (gtb_mem 87 (by decide +kernel) rfl) (gtb_mem 2230 (by decide +kernel) rfl)
def bM_wishOf_0 : List Ir := [iLA0, (iGR 74 11 31), iLI1, iIALD, iSI4, iC0, iSI5, iC0, iSI6, iC0, iSI7]
def bM_wishOf_17 : List Ir := [iLI7, iC4, (iICge (49) 69)]
def bM_wishOf_23 : List Ir := [iLA0, (iGR 74 11 31), iLI1, iLI7, iIAST, iLA0, iLI1, iLI2, iLI3, (iCV3 389 11 mM_lossBy), iSI8, iLI7, (iIFle (13) 55)]
def bM_wishOf_45 : List Ir := [iLI8, iLI6, (iIClt (6) 55)]
def bM_wishOf_52 : List Ir := [(iGO (11) 63)]
def bM_wishOf_55 : List Ir := [iLI7, iSI5, iLI8, iSI6]
def bM_wishOf_63 : List Ir := [(iINC7 1), (iGO (-49) 17)]
def bM_wishOf_69 : List Ir := [iLA0, (iGR 74 11 31), iLI1, iLI4, iIAST, iLI5, iRI]
def tM_wishOf : Tb := [(0, bM_wishOf_0, 17), (17, bM_wishOf_17, 23), (23, bM_wishOf_23, 45), (45, bM_wishOf_45, 52), (52, bM_wishOf_52, 55), (55, bM_wishOf_55, 63), (63, bM_wishOf_63, 69), (69, bM_wishOf_69, 80)]
theorem fM_wishOf_0 : tbf tM_wishOf 0 = some (bM_wishOf_0, 17) := rfl
theorem fM_wishOf_17 : tbf tM_wishOf 17 = some (bM_wishOf_17, 23) := rfl
theorem fM_wishOf_23 : tbf tM_wishOf 23 = some (bM_wishOf_23, 45) := rfl
theorem fM_wishOf_45 : tbf tM_wishOf 45 = some (bM_wishOf_45, 52) := rfl
theorem fM_wishOf_52 : tbf tM_wishOf 52 = some (bM_wishOf_52, 55) := rfl
theorem fM_wishOf_55 : tbf tM_wishOf 55 = some (bM_wishOf_55, 63) := rfl
theorem fM_wishOf_63 : tbf tM_wishOf 63 = some (bM_wishOf_63, 69) := rfl
theorem fM_wishOf_69 : tbf tM_wishOf 69 = some (bM_wishOf_69, 80) := rfl
theorem kM_wishOf_0 : Bok "HerbWatersModel" prog_14_method_91_code (0, bM_wishOf_0, 17) := ⟨by decide +kernel, (List.forall_mem_cons.mpr ⟨sLA0, (List.forall_mem_cons.mpr ⟨lM_g74, (List.forall_mem_cons.mpr ⟨sLI1, (List.forall_mem_cons.mpr ⟨sIALD, (List.forall_mem_cons.mpr ⟨sSI4, (List.forall_mem_cons.mpr ⟨sC0, (List.forall_mem_cons.mpr ⟨sSI5, (List.forall_mem_cons.mpr ⟨sC0, (List.forall_mem_cons.mpr ⟨sSI6, (List.forall_mem_cons.mpr ⟨sC0, (List.forall_mem_cons.mpr ⟨sSI7, (fun _ h => absurd h List.not_mem_nil)⟩)⟩)⟩)⟩)⟩)⟩)⟩)⟩)⟩)⟩)⟩)⟩
theorem kM_wishOf_17 : Bok "HerbWatersModel" prog_14_method_91_code (17, bM_wishOf_17, 23) := ⟨by decide +kernel, (List.forall_mem_cons.mpr ⟨sLI7, (List.forall_mem_cons.mpr ⟨sC4, (List.forall_mem_cons.mpr ⟨sICge, (fun _ h => absurd h List.not_mem_nil)⟩)⟩)⟩)⟩
theorem kM_wishOf_23 : Bok "HerbWatersModel" prog_14_method_91_code (23, bM_wishOf_23, 45) := ⟨by decide +kernel, (List.forall_mem_cons.mpr ⟨sLA0, (List.forall_mem_cons.mpr ⟨lM_g74, (List.forall_mem_cons.mpr ⟨sLI1, (List.forall_mem_cons.mpr ⟨sLI7, (List.forall_mem_cons.mpr ⟨sIAST, (List.forall_mem_cons.mpr ⟨sLA0, (List.forall_mem_cons.mpr ⟨sLI1, (List.forall_mem_cons.mpr ⟨sLI2, (List.forall_mem_cons.mpr ⟨sLI3, (List.forall_mem_cons.mpr ⟨lM_v389, (List.forall_mem_cons.mpr ⟨sSI8, (List.forall_mem_cons.mpr ⟨sLI7, (List.forall_mem_cons.mpr ⟨sIFle, (fun _ h => absurd h List.not_mem_nil)⟩)⟩)⟩)⟩)⟩)⟩)⟩)⟩)⟩)⟩)⟩)⟩)⟩)⟩
theorem kM_wishOf_45 : Bok "HerbWatersModel" prog_14_method_91_code (45, bM_wishOf_45, 52) := ⟨by decide +kernel, (List.forall_mem_cons.mpr ⟨sLI8, (List.forall_mem_cons.mpr ⟨sLI6, (List.forall_mem_cons.mpr ⟨sIClt, (fun _ h => absurd h List.not_mem_nil)⟩)⟩)⟩)⟩
theorem kM_wishOf_52 : Bok "HerbWatersModel" prog_14_method_91_code (52, bM_wishOf_52, 55) := ⟨by decide +kernel, (List.forall_mem_cons.mpr ⟨sGO, (fun _ h => absurd h List.not_mem_nil)⟩)⟩
theorem kM_wishOf_55 : Bok "HerbWatersModel" prog_14_method_91_code (55, bM_wishOf_55, 63) := ⟨by decide +kernel, (List.forall_mem_cons.mpr ⟨sLI7, (List.forall_mem_cons.mpr ⟨sSI5, (List.forall_mem_cons.mpr ⟨sLI8, (List.forall_mem_cons.mpr ⟨sSI6, (fun _ h => absurd h List.not_mem_nil)⟩)⟩)⟩)⟩)⟩
theorem kM_wishOf_63 : Bok "HerbWatersModel" prog_14_method_91_code (63, bM_wishOf_63, 69) := ⟨by decide +kernel, (List.forall_mem_cons.mpr ⟨sINC7, (List.forall_mem_cons.mpr ⟨sGO, (fun _ h => absurd h List.not_mem_nil)⟩)⟩)⟩
theorem kM_wishOf_69 : Bok "HerbWatersModel" prog_14_method_91_code (69, bM_wishOf_69, 80) := ⟨by decide +kernel, (List.forall_mem_cons.mpr ⟨sLA0, (List.forall_mem_cons.mpr ⟨lM_g74, (List.forall_mem_cons.mpr ⟨sLI1, (List.forall_mem_cons.mpr ⟨sLI4, (List.forall_mem_cons.mpr ⟨sIAST, (List.forall_mem_cons.mpr ⟨sLI5, (List.forall_mem_cons.mpr ⟨sRI, (fun _ h => absurd h List.not_mem_nil)⟩)⟩)⟩)⟩)⟩)⟩)⟩)⟩
theorem kM_wishOf : ∀ q ∈ tM_wishOf, Bok "HerbWatersModel" prog_14_method_91_code q := (List.forall_mem_cons.mpr ⟨kM_wishOf_0, (List.forall_mem_cons.mpr ⟨kM_wishOf_17, (List.forall_mem_cons.mpr ⟨kM_wishOf_23, (List.forall_mem_cons.mpr ⟨kM_wishOf_45, (List.forall_mem_cons.mpr ⟨kM_wishOf_52, (List.forall_mem_cons.mpr ⟨kM_wishOf_55, (List.forall_mem_cons.mpr ⟨kM_wishOf_63, (List.forall_mem_cons.mpr ⟨kM_wishOf_69, (fun _ h => absurd h List.not_mem_nil)⟩)⟩)⟩)⟩)⟩)⟩)⟩)⟩)
def mM_loss : Mt := (⟨"HerbWatersModel", "loss", "(IIII)I"⟩, prog_14_method_92_code, 5, some .int)
theorem ok_M_loss : Mok mM_loss := ⟨gtb_mem 2229 (by decide +kernel) rfl, gtb_mem 107 (by decide +kernel) rfl, by decide +kernel, by decide⟩
theorem lM_v392 : Snd "HerbWatersModel" (iCV3 392 11 mM_wishOf) := sCV3 _ rfl rfl ok_M_wishOf (gtb_mem 2236 (by decide +kernel) rfl) (gtb_mem 88 (by decide +kernel) rfl) (gtb_mem 2234 (by decide +kernel) rfl)
def bM_loss_0 : List Ir := [iLA0, iC0, (iPI 123 11 0), iLA0, iLA0, iLI1, (iCV1 290 11 mM_isVillage), (iIFne (7) 18)]
def bM_loss_14 : List Ir := [iC1, (iGO (4) 19)]
def bM_loss_18 : List Ir := [iC0]
def bM_loss_19 : List Ir := [iC1, iC0, (iCV3 221 11 mM_bad), (iIFne (47) 71)]
def bM_loss_27 : List Ir := [iLA0, iLI2, iC1, (iBP 30), (iCS3 157 mM_in), (iIFeq (23) 58)]
def bM_loss_38 : List Ir := [iLI3, iC0, (iBP 99), (iCS3 157 mM_in), (iIFeq (13) 58)]
def bM_loss_48 : List Ir := [iLI4, iC0, iC1, (iCS3 157 mM_in), (iIFne (7) 62)]
def bM_loss_58 : List Ir := [iC1, (iGO (4) 63)]
def bM_loss_62 : List Ir := [iC0]
def bM_loss_63 : List Ir := [iC2, iC1, (iCV3 221 11 mM_bad), (iIFeq (5) 73)]
def bM_loss_71 : List Ir := [iC0, iRI]
def bM_loss_73 : List Ir := [iLI4, (iIFne (13) 88)]
def bM_loss_78 : List Ir := [iLA0, iLI1, iLI2, iLI3, (iCV3 389 11 mM_lossBy), (iGO (10) 95)]
def bM_loss_88 : List Ir := [iLA0, iLI1, iLI2, iLI3, (iCV3 392 11 mM_wishOf)]
def bM_loss_95 : List Ir := [iRI]
def tM_loss : Tb := [(0, bM_loss_0, 14), (14, bM_loss_14, 18), (18, bM_loss_18, 19), (19, bM_loss_19, 27), (27, bM_loss_27, 38), (38, bM_loss_38, 48), (48, bM_loss_48, 58), (58, bM_loss_58, 62), (62, bM_loss_62, 63), (63, bM_loss_63, 71), (71, bM_loss_71, 73), (73, bM_loss_73, 78), (78, bM_loss_78, 88), (88, bM_loss_88, 95), (95, bM_loss_95, 96)]
theorem fM_loss_0 : tbf tM_loss 0 = some (bM_loss_0, 14) := rfl
theorem fM_loss_14 : tbf tM_loss 14 = some (bM_loss_14, 18) := rfl
theorem fM_loss_18 : tbf tM_loss 18 = some (bM_loss_18, 19) := rfl
theorem fM_loss_19 : tbf tM_loss 19 = some (bM_loss_19, 27) := rfl
theorem fM_loss_27 : tbf tM_loss 27 = some (bM_loss_27, 38) := rfl
theorem fM_loss_38 : tbf tM_loss 38 = some (bM_loss_38, 48) := rfl
theorem fM_loss_48 : tbf tM_loss 48 = some (bM_loss_48, 58) := rfl
theorem fM_loss_58 : tbf tM_loss 58 = some (bM_loss_58, 62) := rfl
theorem fM_loss_62 : tbf tM_loss 62 = some (bM_loss_62, 63) := rfl
theorem fM_loss_63 : tbf tM_loss 63 = some (bM_loss_63, 71) := rfl
theorem fM_loss_71 : tbf tM_loss 71 = some (bM_loss_71, 73) := rfl
theorem fM_loss_73 : tbf tM_loss 73 = some (bM_loss_73, 78) := rfl
theorem fM_loss_78 : tbf tM_loss 78 = some (bM_loss_78, 88) := rfl
theorem fM_loss_88 : tbf tM_loss 88 = some (bM_loss_88, 95) := rfl
theorem fM_loss_95 : tbf tM_loss 95 = some (bM_loss_95, 96) := rfl
theorem kM_loss_0 : Bok "HerbWatersModel" prog_14_method_92_code (0, bM_loss_0, 14) := ⟨by decide +kernel, (List.forall_mem_cons.mpr ⟨sLA0, (List.forall_mem_cons.mpr ⟨sC0, (List.forall_mem_cons.mpr ⟨lM_p123, (List.forall_mem_cons.mpr ⟨sLA0, (List.forall_mem_cons.mpr ⟨sLA0, (List.forall_mem_cons.mpr ⟨sLI1, (List.forall_mem_cons.mpr ⟨lM_v290, (List.forall_mem_cons.mpr ⟨sIFne, (fun _ h => absurd h List.not_mem_nil)⟩)⟩)⟩)⟩)⟩)⟩)⟩)⟩)⟩
theorem kM_loss_14 : Bok "HerbWatersModel" prog_14_method_92_code (14, bM_loss_14, 18) := ⟨by decide +kernel, (List.forall_mem_cons.mpr ⟨sC1, (List.forall_mem_cons.mpr ⟨sGO, (fun _ h => absurd h List.not_mem_nil)⟩)⟩)⟩
theorem kM_loss_18 : Bok "HerbWatersModel" prog_14_method_92_code (18, bM_loss_18, 19) := ⟨by decide +kernel, (List.forall_mem_cons.mpr ⟨sC0, (fun _ h => absurd h List.not_mem_nil)⟩)⟩
theorem kM_loss_19 : Bok "HerbWatersModel" prog_14_method_92_code (19, bM_loss_19, 27) := ⟨by decide +kernel, (List.forall_mem_cons.mpr ⟨sC1, (List.forall_mem_cons.mpr ⟨sC0, (List.forall_mem_cons.mpr ⟨lM_v221, (List.forall_mem_cons.mpr ⟨sIFne, (fun _ h => absurd h List.not_mem_nil)⟩)⟩)⟩)⟩)⟩
theorem kM_loss_27 : Bok "HerbWatersModel" prog_14_method_92_code (27, bM_loss_27, 38) := ⟨by decide +kernel, (List.forall_mem_cons.mpr ⟨sLA0, (List.forall_mem_cons.mpr ⟨sLI2, (List.forall_mem_cons.mpr ⟨sC1, (List.forall_mem_cons.mpr ⟨sBP, (List.forall_mem_cons.mpr ⟨lM_s157, (List.forall_mem_cons.mpr ⟨sIFeq, (fun _ h => absurd h List.not_mem_nil)⟩)⟩)⟩)⟩)⟩)⟩)⟩
theorem kM_loss_38 : Bok "HerbWatersModel" prog_14_method_92_code (38, bM_loss_38, 48) := ⟨by decide +kernel, (List.forall_mem_cons.mpr ⟨sLI3, (List.forall_mem_cons.mpr ⟨sC0, (List.forall_mem_cons.mpr ⟨sBP, (List.forall_mem_cons.mpr ⟨lM_s157, (List.forall_mem_cons.mpr ⟨sIFeq, (fun _ h => absurd h List.not_mem_nil)⟩)⟩)⟩)⟩)⟩)⟩
theorem kM_loss_48 : Bok "HerbWatersModel" prog_14_method_92_code (48, bM_loss_48, 58) := ⟨by decide +kernel, (List.forall_mem_cons.mpr ⟨sLI4, (List.forall_mem_cons.mpr ⟨sC0, (List.forall_mem_cons.mpr ⟨sC1, (List.forall_mem_cons.mpr ⟨lM_s157, (List.forall_mem_cons.mpr ⟨sIFne, (fun _ h => absurd h List.not_mem_nil)⟩)⟩)⟩)⟩)⟩)⟩
theorem kM_loss_58 : Bok "HerbWatersModel" prog_14_method_92_code (58, bM_loss_58, 62) := ⟨by decide +kernel, (List.forall_mem_cons.mpr ⟨sC1, (List.forall_mem_cons.mpr ⟨sGO, (fun _ h => absurd h List.not_mem_nil)⟩)⟩)⟩
theorem kM_loss_62 : Bok "HerbWatersModel" prog_14_method_92_code (62, bM_loss_62, 63) := ⟨by decide +kernel, (List.forall_mem_cons.mpr ⟨sC0, (fun _ h => absurd h List.not_mem_nil)⟩)⟩
theorem kM_loss_63 : Bok "HerbWatersModel" prog_14_method_92_code (63, bM_loss_63, 71) := ⟨by decide +kernel, (List.forall_mem_cons.mpr ⟨sC2, (List.forall_mem_cons.mpr ⟨sC1, (List.forall_mem_cons.mpr ⟨lM_v221, (List.forall_mem_cons.mpr ⟨sIFeq, (fun _ h => absurd h List.not_mem_nil)⟩)⟩)⟩)⟩)⟩
theorem kM_loss_71 : Bok "HerbWatersModel" prog_14_method_92_code (71, bM_loss_71, 73) := ⟨by decide +kernel, (List.forall_mem_cons.mpr ⟨sC0, (List.forall_mem_cons.mpr ⟨sRI, (fun _ h => absurd h List.not_mem_nil)⟩)⟩)⟩
theorem kM_loss_73 : Bok "HerbWatersModel" prog_14_method_92_code (73, bM_loss_73, 78) := ⟨by decide +kernel, (List.forall_mem_cons.mpr ⟨sLI4, (List.forall_mem_cons.mpr ⟨sIFne, (fun _ h => absurd h List.not_mem_nil)⟩)⟩)⟩
theorem kM_loss_78 : Bok "HerbWatersModel" prog_14_method_92_code (78, bM_loss_78, 88) := ⟨by decide +kernel, (List.forall_mem_cons.mpr ⟨sLA0, (List.forall_mem_cons.mpr ⟨sLI1, (List.forall_mem_cons.mpr ⟨sLI2, (List.forall_mem_cons.mpr ⟨sLI3, (List.forall_mem_cons.mpr ⟨lM_v389, (List.forall_mem_cons.mpr ⟨sGO, (fun _ h => absurd h List.not_mem_nil)⟩)⟩)⟩)⟩)⟩)⟩)⟩
theorem kM_loss_88 : Bok "HerbWatersModel" prog_14_method_92_code (88, bM_loss_88, 95) := ⟨by decide +kernel, (List.forall_mem_cons.mpr ⟨sLA0, (List.forall_mem_cons.mpr ⟨sLI1, (List.forall_mem_cons.mpr ⟨sLI2, (List.forall_mem_cons.mpr ⟨sLI3, (List.forall_mem_cons.mpr ⟨lM_v392, (fun _ h => absurd h List.not_mem_nil)⟩)⟩)⟩)⟩)⟩)⟩
theorem kM_loss_95 : Bok "HerbWatersModel" prog_14_method_92_code (95, bM_loss_95, 96) := ⟨by decide +kernel, (List.forall_mem_cons.mpr ⟨sRI, (fun _ h => absurd h List.not_mem_nil)⟩)⟩
theorem kM_loss : ∀ q ∈ tM_loss, Bok "HerbWatersModel" prog_14_method_92_code q := (List.forall_mem_cons.mpr ⟨kM_loss_0, (List.forall_mem_cons.mpr ⟨kM_loss_14, (List.forall_mem_cons.mpr ⟨kM_loss_18, (List.forall_mem_cons.mpr ⟨kM_loss_19, (List.forall_mem_cons.mpr ⟨kM_loss_27, (List.forall_mem_cons.mpr ⟨kM_loss_38, (List.forall_mem_cons.mpr ⟨kM_loss_48, (List.forall_mem_cons.mpr ⟨kM_loss_58, (List.forall_mem_cons.mpr ⟨kM_loss_62, (List.forall_mem_cons.mpr ⟨kM_loss_63, (List.forall_mem_cons.mpr ⟨kM_loss_71, (List.forall_mem_cons.mpr ⟨kM_loss_73, (List.forall_mem_cons.mpr ⟨kM_loss_78, (List.forall_mem_cons.mpr ⟨kM_loss_88, (List.forall_mem_cons.mpr ⟨kM_loss_95, (fun _ h => absurd h List.not_mem_nil)⟩)⟩)⟩)⟩)⟩)⟩)⟩)⟩)⟩)⟩)⟩)⟩)⟩)⟩)⟩)
def mM_areGrades : Mt := (⟨"HerbWatersModel", "areGrades", "([I)Z"⟩, prog_14_method_93_code, 3, some .boolean)
theorem ok_M_areGrades : Mok mM_areGrades := ⟨gtb_mem 2249 (by decide +kernel) rfl, gtb_mem 107 (by decide +kernel) rfl, by decide +kernel, by decide⟩
def bM_areGrades_0 : List Ir := [iC0, iSI2]
def bM_areGrades_2 : List Ir := [iLI2, iLA0, (iGR 23 11 12), iC0, iIALD, (iICge (23) 32)]
def bM_areGrades_12 : List Ir := [iLA0, (iGR 74 11 31), iLI2, iIALD, iLA1, iLI2, iIALD, (iICeq (5) 26)]
def bM_areGrades_24 : List Ir := [iC0, iRI]
def bM_areGrades_26 : List Ir := [(iINC2 1), (iGO (-27) 2)]
def bM_areGrades_32 : List Ir := [iC1, iRI]
def tM_areGrades : Tb := [(0, bM_areGrades_0, 2), (2, bM_areGrades_2, 12), (12, bM_areGrades_12, 24), (24, bM_areGrades_24, 26), (26, bM_areGrades_26, 32), (32, bM_areGrades_32, 34)]
theorem fM_areGrades_0 : tbf tM_areGrades 0 = some (bM_areGrades_0, 2) := rfl
theorem fM_areGrades_2 : tbf tM_areGrades 2 = some (bM_areGrades_2, 12) := rfl
theorem fM_areGrades_12 : tbf tM_areGrades 12 = some (bM_areGrades_12, 24) := rfl
theorem fM_areGrades_24 : tbf tM_areGrades 24 = some (bM_areGrades_24, 26) := rfl
theorem fM_areGrades_26 : tbf tM_areGrades 26 = some (bM_areGrades_26, 32) := rfl
theorem fM_areGrades_32 : tbf tM_areGrades 32 = some (bM_areGrades_32, 34) := rfl
theorem kM_areGrades_0 : Bok "HerbWatersModel" prog_14_method_93_code (0, bM_areGrades_0, 2) := ⟨by decide +kernel, (List.forall_mem_cons.mpr ⟨sC0, (List.forall_mem_cons.mpr ⟨sSI2, (fun _ h => absurd h List.not_mem_nil)⟩)⟩)⟩
theorem kM_areGrades_2 : Bok "HerbWatersModel" prog_14_method_93_code (2, bM_areGrades_2, 12) := ⟨by decide +kernel, (List.forall_mem_cons.mpr ⟨sLI2, (List.forall_mem_cons.mpr ⟨sLA0, (List.forall_mem_cons.mpr ⟨lM_g23, (List.forall_mem_cons.mpr ⟨sC0, (List.forall_mem_cons.mpr ⟨sIALD, (List.forall_mem_cons.mpr ⟨sICge, (fun _ h => absurd h List.not_mem_nil)⟩)⟩)⟩)⟩)⟩)⟩)⟩
theorem kM_areGrades_12 : Bok "HerbWatersModel" prog_14_method_93_code (12, bM_areGrades_12, 24) := ⟨by decide +kernel, (List.forall_mem_cons.mpr ⟨sLA0, (List.forall_mem_cons.mpr ⟨lM_g74, (List.forall_mem_cons.mpr ⟨sLI2, (List.forall_mem_cons.mpr ⟨sIALD, (List.forall_mem_cons.mpr ⟨sLA1, (List.forall_mem_cons.mpr ⟨sLI2, (List.forall_mem_cons.mpr ⟨sIALD, (List.forall_mem_cons.mpr ⟨sICeq, (fun _ h => absurd h List.not_mem_nil)⟩)⟩)⟩)⟩)⟩)⟩)⟩)⟩)⟩
theorem kM_areGrades_24 : Bok "HerbWatersModel" prog_14_method_93_code (24, bM_areGrades_24, 26) := ⟨by decide +kernel, (List.forall_mem_cons.mpr ⟨sC0, (List.forall_mem_cons.mpr ⟨sRI, (fun _ h => absurd h List.not_mem_nil)⟩)⟩)⟩
theorem kM_areGrades_26 : Bok "HerbWatersModel" prog_14_method_93_code (26, bM_areGrades_26, 32) := ⟨by decide +kernel, (List.forall_mem_cons.mpr ⟨sINC2, (List.forall_mem_cons.mpr ⟨sGO, (fun _ h => absurd h List.not_mem_nil)⟩)⟩)⟩
theorem kM_areGrades_32 : Bok "HerbWatersModel" prog_14_method_93_code (32, bM_areGrades_32, 34) := ⟨by decide +kernel, (List.forall_mem_cons.mpr ⟨sC1, (List.forall_mem_cons.mpr ⟨sRI, (fun _ h => absurd h List.not_mem_nil)⟩)⟩)⟩
theorem kM_areGrades : ∀ q ∈ tM_areGrades, Bok "HerbWatersModel" prog_14_method_93_code q := (List.forall_mem_cons.mpr ⟨kM_areGrades_0, (List.forall_mem_cons.mpr ⟨kM_areGrades_2, (List.forall_mem_cons.mpr ⟨kM_areGrades_12, (List.forall_mem_cons.mpr ⟨kM_areGrades_24, (List.forall_mem_cons.mpr ⟨kM_areGrades_26, (List.forall_mem_cons.mpr ⟨kM_areGrades_32, (fun _ h => absurd h List.not_mem_nil)⟩)⟩)⟩)⟩)⟩)⟩)
def mM_restBy : Mt := (⟨"HerbWatersModel", "restBy", "(II)I"⟩, prog_14_method_94_code, 5, some .int)
theorem ok_M_restBy : Mok mM_restBy := ⟨gtb_mem 2245 (by decide +kernel) rfl, gtb_mem 107 (by decide +kernel) rfl, by decide +kernel, by decide⟩
theorem lM_g114 : Snd "HerbWatersModel" (iGR 114 11 55) := sGR _ rfl (gtb_mem 1778 (by decide +kernel) rfl)
theorem lM_v395 : Snd "HerbWatersModel" (iCV1 395 11 mM_areGrades) := sCV1 _ rfl rfl ok_M_areGrades (gtb_mem 2248 (by decide +kernel) rfl) (gtb_mem 90 (by decide +kernel) rfl) (gtb_mem 2246 (by decide +kernel) rfl)
def bM_restBy_0 : List Ir := [iC1, iSI3]
def bM_restBy_2 : List Ir := [iLI3, (iBP 20), (iICgt (130) 135)]
def bM_restBy_8 : List Ir := [iC0, iSI4]
def bM_restBy_11 : List Ir := [iLI4, iLA0, (iGR 23 11 12), iC0, iIALD, (iICge (27) 46)]
def bM_restBy_22 : List Ir := [iLA0, (iGR 114 11 55), iLI3, iC1, iSUB, iAALD107, iLI4, iLA0, (iGR 74 11 31), iLI4, iIALD, iIAST, (iINC4 1), (iGO (-32) 11)]
def bM_restBy_46 : List Ir := [iC0, iSI4]
def bM_restBy_49 : List Ir := [iLI4, iLA0, (iGR 23 11 12), iC0, iIALD, (iICge (24) 81)]
def bM_restBy_60 : List Ir := [iLA0, (iGR 74 11 31), iLI4, iLA0, iLI4, iLI1, iLI2, (iCV3 392 11 mM_wishOf), iIAST, (iINC4 1), (iGO (-29) 49)]
def bM_restBy_81 : List Ir := [iLA0, iLA0, (iGR 114 11 55), iLI3, iC1, iSUB, iAALD107, (iCV1 395 11 mM_areGrades), (iIFeq (5) 98)]
def bM_restBy_96 : List Ir := [iC1, iRI]
def bM_restBy_98 : List Ir := [iC0, iSI4]
def bM_restBy_101 : List Ir := [iLI4, iLI3, (iICge (25) 129)]
def bM_restBy_107 : List Ir := [iLA0, iLA0, (iGR 114 11 55), iLI4, iAALD107, (iCV1 395 11 mM_areGrades), (iIFeq (5) 123)]
def bM_restBy_121 : List Ir := [iC0, iRI]
def bM_restBy_123 : List Ir := [(iINC4 1), (iGO (-25) 101)]
def bM_restBy_129 : List Ir := [(iINC3 1), (iGO (-130) 2)]
def bM_restBy_135 : List Ir := [iC0, iRI]
def tM_restBy : Tb := [(0, bM_restBy_0, 2), (2, bM_restBy_2, 8), (8, bM_restBy_8, 11), (11, bM_restBy_11, 22), (22, bM_restBy_22, 46), (46, bM_restBy_46, 49), (49, bM_restBy_49, 60), (60, bM_restBy_60, 81), (81, bM_restBy_81, 96), (96, bM_restBy_96, 98), (98, bM_restBy_98, 101), (101, bM_restBy_101, 107), (107, bM_restBy_107, 121), (121, bM_restBy_121, 123), (123, bM_restBy_123, 129), (129, bM_restBy_129, 135), (135, bM_restBy_135, 137)]
theorem fM_restBy_0 : tbf tM_restBy 0 = some (bM_restBy_0, 2) := rfl
theorem fM_restBy_2 : tbf tM_restBy 2 = some (bM_restBy_2, 8) := rfl
theorem fM_restBy_8 : tbf tM_restBy 8 = some (bM_restBy_8, 11) := rfl
theorem fM_restBy_11 : tbf tM_restBy 11 = some (bM_restBy_11, 22) := rfl
theorem fM_restBy_22 : tbf tM_restBy 22 = some (bM_restBy_22, 46) := rfl
theorem fM_restBy_46 : tbf tM_restBy 46 = some (bM_restBy_46, 49) := rfl
theorem fM_restBy_49 : tbf tM_restBy 49 = some (bM_restBy_49, 60) := rfl
theorem fM_restBy_60 : tbf tM_restBy 60 = some (bM_restBy_60, 81) := rfl
theorem fM_restBy_81 : tbf tM_restBy 81 = some (bM_restBy_81, 96) := rfl
theorem fM_restBy_96 : tbf tM_restBy 96 = some (bM_restBy_96, 98) := rfl
theorem fM_restBy_98 : tbf tM_restBy 98 = some (bM_restBy_98, 101) := rfl
theorem fM_restBy_101 : tbf tM_restBy 101 = some (bM_restBy_101, 107) := rfl
theorem fM_restBy_107 : tbf tM_restBy 107 = some (bM_restBy_107, 121) := rfl
theorem fM_restBy_121 : tbf tM_restBy 121 = some (bM_restBy_121, 123) := rfl
theorem fM_restBy_123 : tbf tM_restBy 123 = some (bM_restBy_123, 129) := rfl
theorem fM_restBy_129 : tbf tM_restBy 129 = some (bM_restBy_129, 135) := rfl
theorem fM_restBy_135 : tbf tM_restBy 135 = some (bM_restBy_135, 137) := rfl
theorem kM_restBy_0 : Bok "HerbWatersModel" prog_14_method_94_code (0, bM_restBy_0, 2) := ⟨by decide +kernel, (List.forall_mem_cons.mpr ⟨sC1, (List.forall_mem_cons.mpr ⟨sSI3, (fun _ h => absurd h List.not_mem_nil)⟩)⟩)⟩
theorem kM_restBy_2 : Bok "HerbWatersModel" prog_14_method_94_code (2, bM_restBy_2, 8) := ⟨by decide +kernel, (List.forall_mem_cons.mpr ⟨sLI3, (List.forall_mem_cons.mpr ⟨sBP, (List.forall_mem_cons.mpr ⟨sICgt, (fun _ h => absurd h List.not_mem_nil)⟩)⟩)⟩)⟩
theorem kM_restBy_8 : Bok "HerbWatersModel" prog_14_method_94_code (8, bM_restBy_8, 11) := ⟨by decide +kernel, (List.forall_mem_cons.mpr ⟨sC0, (List.forall_mem_cons.mpr ⟨sSI4, (fun _ h => absurd h List.not_mem_nil)⟩)⟩)⟩
theorem kM_restBy_11 : Bok "HerbWatersModel" prog_14_method_94_code (11, bM_restBy_11, 22) := ⟨by decide +kernel, (List.forall_mem_cons.mpr ⟨sLI4, (List.forall_mem_cons.mpr ⟨sLA0, (List.forall_mem_cons.mpr ⟨lM_g23, (List.forall_mem_cons.mpr ⟨sC0, (List.forall_mem_cons.mpr ⟨sIALD, (List.forall_mem_cons.mpr ⟨sICge, (fun _ h => absurd h List.not_mem_nil)⟩)⟩)⟩)⟩)⟩)⟩)⟩
theorem kM_restBy_22 : Bok "HerbWatersModel" prog_14_method_94_code (22, bM_restBy_22, 46) := ⟨by decide +kernel, (List.forall_mem_cons.mpr ⟨sLA0, (List.forall_mem_cons.mpr ⟨lM_g114, (List.forall_mem_cons.mpr ⟨sLI3, (List.forall_mem_cons.mpr ⟨sC1, (List.forall_mem_cons.mpr ⟨sSUB, (List.forall_mem_cons.mpr ⟨sAALD107, (List.forall_mem_cons.mpr ⟨sLI4, (List.forall_mem_cons.mpr ⟨sLA0, (List.forall_mem_cons.mpr ⟨lM_g74, (List.forall_mem_cons.mpr ⟨sLI4, (List.forall_mem_cons.mpr ⟨sIALD, (List.forall_mem_cons.mpr ⟨sIAST, (List.forall_mem_cons.mpr ⟨sINC4, (List.forall_mem_cons.mpr ⟨sGO, (fun _ h => absurd h List.not_mem_nil)⟩)⟩)⟩)⟩)⟩)⟩)⟩)⟩)⟩)⟩)⟩)⟩)⟩)⟩)⟩
theorem kM_restBy_46 : Bok "HerbWatersModel" prog_14_method_94_code (46, bM_restBy_46, 49) := ⟨by decide +kernel, (List.forall_mem_cons.mpr ⟨sC0, (List.forall_mem_cons.mpr ⟨sSI4, (fun _ h => absurd h List.not_mem_nil)⟩)⟩)⟩
theorem kM_restBy_49 : Bok "HerbWatersModel" prog_14_method_94_code (49, bM_restBy_49, 60) := ⟨by decide +kernel, (List.forall_mem_cons.mpr ⟨sLI4, (List.forall_mem_cons.mpr ⟨sLA0, (List.forall_mem_cons.mpr ⟨lM_g23, (List.forall_mem_cons.mpr ⟨sC0, (List.forall_mem_cons.mpr ⟨sIALD, (List.forall_mem_cons.mpr ⟨sICge, (fun _ h => absurd h List.not_mem_nil)⟩)⟩)⟩)⟩)⟩)⟩)⟩
theorem kM_restBy_60 : Bok "HerbWatersModel" prog_14_method_94_code (60, bM_restBy_60, 81) := ⟨by decide +kernel, (List.forall_mem_cons.mpr ⟨sLA0, (List.forall_mem_cons.mpr ⟨lM_g74, (List.forall_mem_cons.mpr ⟨sLI4, (List.forall_mem_cons.mpr ⟨sLA0, (List.forall_mem_cons.mpr ⟨sLI4, (List.forall_mem_cons.mpr ⟨sLI1, (List.forall_mem_cons.mpr ⟨sLI2, (List.forall_mem_cons.mpr ⟨lM_v392, (List.forall_mem_cons.mpr ⟨sIAST, (List.forall_mem_cons.mpr ⟨sINC4, (List.forall_mem_cons.mpr ⟨sGO, (fun _ h => absurd h List.not_mem_nil)⟩)⟩)⟩)⟩)⟩)⟩)⟩)⟩)⟩)⟩)⟩)⟩
theorem kM_restBy_81 : Bok "HerbWatersModel" prog_14_method_94_code (81, bM_restBy_81, 96) := ⟨by decide +kernel, (List.forall_mem_cons.mpr ⟨sLA0, (List.forall_mem_cons.mpr ⟨sLA0, (List.forall_mem_cons.mpr ⟨lM_g114, (List.forall_mem_cons.mpr ⟨sLI3, (List.forall_mem_cons.mpr ⟨sC1, (List.forall_mem_cons.mpr ⟨sSUB, (List.forall_mem_cons.mpr ⟨sAALD107, (List.forall_mem_cons.mpr ⟨lM_v395, (List.forall_mem_cons.mpr ⟨sIFeq, (fun _ h => absurd h List.not_mem_nil)⟩)⟩)⟩)⟩)⟩)⟩)⟩)⟩)⟩)⟩
theorem kM_restBy_96 : Bok "HerbWatersModel" prog_14_method_94_code (96, bM_restBy_96, 98) := ⟨by decide +kernel, (List.forall_mem_cons.mpr ⟨sC1, (List.forall_mem_cons.mpr ⟨sRI, (fun _ h => absurd h List.not_mem_nil)⟩)⟩)⟩
theorem kM_restBy_98 : Bok "HerbWatersModel" prog_14_method_94_code (98, bM_restBy_98, 101) := ⟨by decide +kernel, (List.forall_mem_cons.mpr ⟨sC0, (List.forall_mem_cons.mpr ⟨sSI4, (fun _ h => absurd h List.not_mem_nil)⟩)⟩)⟩
theorem kM_restBy_101 : Bok "HerbWatersModel" prog_14_method_94_code (101, bM_restBy_101, 107) := ⟨by decide +kernel, (List.forall_mem_cons.mpr ⟨sLI4, (List.forall_mem_cons.mpr ⟨sLI3, (List.forall_mem_cons.mpr ⟨sICge, (fun _ h => absurd h List.not_mem_nil)⟩)⟩)⟩)⟩
theorem kM_restBy_107 : Bok "HerbWatersModel" prog_14_method_94_code (107, bM_restBy_107, 121) := ⟨by decide +kernel, (List.forall_mem_cons.mpr ⟨sLA0, (List.forall_mem_cons.mpr ⟨sLA0, (List.forall_mem_cons.mpr ⟨lM_g114, (List.forall_mem_cons.mpr ⟨sLI4, (List.forall_mem_cons.mpr ⟨sAALD107, (List.forall_mem_cons.mpr ⟨lM_v395, (List.forall_mem_cons.mpr ⟨sIFeq, (fun _ h => absurd h List.not_mem_nil)⟩)⟩)⟩)⟩)⟩)⟩)⟩)⟩
theorem kM_restBy_121 : Bok "HerbWatersModel" prog_14_method_94_code (121, bM_restBy_121, 123) := ⟨by decide +kernel, (List.forall_mem_cons.mpr ⟨sC0, (List.forall_mem_cons.mpr ⟨sRI, (fun _ h => absurd h List.not_mem_nil)⟩)⟩)⟩
theorem kM_restBy_123 : Bok "HerbWatersModel" prog_14_method_94_code (123, bM_restBy_123, 129) := ⟨by decide +kernel, (List.forall_mem_cons.mpr ⟨sINC4, (List.forall_mem_cons.mpr ⟨sGO, (fun _ h => absurd h List.not_mem_nil)⟩)⟩)⟩
theorem kM_restBy_129 : Bok "HerbWatersModel" prog_14_method_94_code (129, bM_restBy_129, 135) := ⟨by decide +kernel, (List.forall_mem_cons.mpr ⟨sINC3, (List.forall_mem_cons.mpr ⟨sGO, (fun _ h => absurd h List.not_mem_nil)⟩)⟩)⟩
theorem kM_restBy_135 : Bok "HerbWatersModel" prog_14_method_94_code (135, bM_restBy_135, 137) := ⟨by decide +kernel, (List.forall_mem_cons.mpr ⟨sC0, (List.forall_mem_cons.mpr ⟨sRI, (fun _ h => absurd h List.not_mem_nil)⟩)⟩)⟩
theorem kM_restBy : ∀ q ∈ tM_restBy, Bok "HerbWatersModel" prog_14_method_94_code q := (List.forall_mem_cons.mpr ⟨kM_restBy_0, (List.forall_mem_cons.mpr ⟨kM_restBy_2, (List.forall_mem_cons.mpr ⟨kM_restBy_8, (List.forall_mem_cons.mpr ⟨kM_restBy_11, (List.forall_mem_cons.mpr ⟨kM_restBy_22, (List.forall_mem_cons.mpr ⟨kM_restBy_46, (List.forall_mem_cons.mpr ⟨kM_restBy_49, (List.forall_mem_cons.mpr ⟨kM_restBy_60, (List.forall_mem_cons.mpr ⟨kM_restBy_81, (List.forall_mem_cons.mpr ⟨kM_restBy_96, (List.forall_mem_cons.mpr ⟨kM_restBy_98, (List.forall_mem_cons.mpr ⟨kM_restBy_101, (List.forall_mem_cons.mpr ⟨kM_restBy_107, (List.forall_mem_cons.mpr ⟨kM_restBy_121, (List.forall_mem_cons.mpr ⟨kM_restBy_123, (List.forall_mem_cons.mpr ⟨kM_restBy_129, (List.forall_mem_cons.mpr ⟨kM_restBy_135, (fun _ h => absurd h List.not_mem_nil)⟩)⟩)⟩)⟩)⟩)⟩)⟩)⟩)⟩)⟩)⟩)⟩)⟩)⟩)⟩)⟩)⟩)
def mM_rest : Mt := (⟨"HerbWatersModel", "rest", "(II)I"⟩, prog_14_method_95_code, 4, some .int)
theorem ok_M_rest : Mok mM_rest := ⟨gtb_mem 2241 (by decide +kernel) rfl, gtb_mem 107 (by decide +kernel) rfl, by decide +kernel, by decide⟩
theorem lM_v399 : Snd "HerbWatersModel" (iCV2 399 11 mM_restBy) := sCV2 _ rfl rfl ok_M_restBy (gtb_mem 2244 (by decide +kernel) rfl) (gtb_mem 89 (by decide +kernel) rfl) (gtb_mem 2242 (by decide +kernel) rfl)
def bM_rest_0 : List Ir := [iLA0, iC0, (iPI 123 11 0), iLA0, iLI1, iC1, (iBP 30), (iCS3 157 mM_in), (iIFeq (13) 26)]
def bM_rest_16 : List Ir := [iLI2, iC0, (iBP 99), (iCS3 157 mM_in), (iIFne (7) 30)]
def bM_rest_26 : List Ir := [iC1, (iGO (4) 31)]
def bM_rest_30 : List Ir := [iC0]
def bM_rest_31 : List Ir := [iC1, iC1, (iCV3 221 11 mM_bad), (iIFeq (5) 41)]
def bM_rest_39 : List Ir := [iC0, iRI]
def bM_rest_41 : List Ir := [iLA0, iLI1, iLI2, (iCV2 399 11 mM_restBy), iSI3, iLA0, (iCV0 247 11 mM_settles), iLI3, iRI]
def tM_rest : Tb := [(0, bM_rest_0, 16), (16, bM_rest_16, 26), (26, bM_rest_26, 30), (30, bM_rest_30, 31), (31, bM_rest_31, 39), (39, bM_rest_39, 41), (41, bM_rest_41, 54)]
theorem fM_rest_0 : tbf tM_rest 0 = some (bM_rest_0, 16) := rfl
theorem fM_rest_16 : tbf tM_rest 16 = some (bM_rest_16, 26) := rfl
theorem fM_rest_26 : tbf tM_rest 26 = some (bM_rest_26, 30) := rfl
theorem fM_rest_30 : tbf tM_rest 30 = some (bM_rest_30, 31) := rfl
theorem fM_rest_31 : tbf tM_rest 31 = some (bM_rest_31, 39) := rfl
theorem fM_rest_39 : tbf tM_rest 39 = some (bM_rest_39, 41) := rfl
theorem fM_rest_41 : tbf tM_rest 41 = some (bM_rest_41, 54) := rfl
theorem kM_rest_0 : Bok "HerbWatersModel" prog_14_method_95_code (0, bM_rest_0, 16) := ⟨by decide +kernel, (List.forall_mem_cons.mpr ⟨sLA0, (List.forall_mem_cons.mpr ⟨sC0, (List.forall_mem_cons.mpr ⟨lM_p123, (List.forall_mem_cons.mpr ⟨sLA0, (List.forall_mem_cons.mpr ⟨sLI1, (List.forall_mem_cons.mpr ⟨sC1, (List.forall_mem_cons.mpr ⟨sBP, (List.forall_mem_cons.mpr ⟨lM_s157, (List.forall_mem_cons.mpr ⟨sIFeq, (fun _ h => absurd h List.not_mem_nil)⟩)⟩)⟩)⟩)⟩)⟩)⟩)⟩)⟩)⟩
theorem kM_rest_16 : Bok "HerbWatersModel" prog_14_method_95_code (16, bM_rest_16, 26) := ⟨by decide +kernel, (List.forall_mem_cons.mpr ⟨sLI2, (List.forall_mem_cons.mpr ⟨sC0, (List.forall_mem_cons.mpr ⟨sBP, (List.forall_mem_cons.mpr ⟨lM_s157, (List.forall_mem_cons.mpr ⟨sIFne, (fun _ h => absurd h List.not_mem_nil)⟩)⟩)⟩)⟩)⟩)⟩
theorem kM_rest_26 : Bok "HerbWatersModel" prog_14_method_95_code (26, bM_rest_26, 30) := ⟨by decide +kernel, (List.forall_mem_cons.mpr ⟨sC1, (List.forall_mem_cons.mpr ⟨sGO, (fun _ h => absurd h List.not_mem_nil)⟩)⟩)⟩
theorem kM_rest_30 : Bok "HerbWatersModel" prog_14_method_95_code (30, bM_rest_30, 31) := ⟨by decide +kernel, (List.forall_mem_cons.mpr ⟨sC0, (fun _ h => absurd h List.not_mem_nil)⟩)⟩
theorem kM_rest_31 : Bok "HerbWatersModel" prog_14_method_95_code (31, bM_rest_31, 39) := ⟨by decide +kernel, (List.forall_mem_cons.mpr ⟨sC1, (List.forall_mem_cons.mpr ⟨sC1, (List.forall_mem_cons.mpr ⟨lM_v221, (List.forall_mem_cons.mpr ⟨sIFeq, (fun _ h => absurd h List.not_mem_nil)⟩)⟩)⟩)⟩)⟩
theorem kM_rest_39 : Bok "HerbWatersModel" prog_14_method_95_code (39, bM_rest_39, 41) := ⟨by decide +kernel, (List.forall_mem_cons.mpr ⟨sC0, (List.forall_mem_cons.mpr ⟨sRI, (fun _ h => absurd h List.not_mem_nil)⟩)⟩)⟩
theorem kM_rest_41 : Bok "HerbWatersModel" prog_14_method_95_code (41, bM_rest_41, 54) := ⟨by decide +kernel, (List.forall_mem_cons.mpr ⟨sLA0, (List.forall_mem_cons.mpr ⟨sLI1, (List.forall_mem_cons.mpr ⟨sLI2, (List.forall_mem_cons.mpr ⟨lM_v399, (List.forall_mem_cons.mpr ⟨sSI3, (List.forall_mem_cons.mpr ⟨sLA0, (List.forall_mem_cons.mpr ⟨lM_v247, (List.forall_mem_cons.mpr ⟨sLI3, (List.forall_mem_cons.mpr ⟨sRI, (fun _ h => absurd h List.not_mem_nil)⟩)⟩)⟩)⟩)⟩)⟩)⟩)⟩)⟩)⟩
theorem kM_rest : ∀ q ∈ tM_rest, Bok "HerbWatersModel" prog_14_method_95_code q := (List.forall_mem_cons.mpr ⟨kM_rest_0, (List.forall_mem_cons.mpr ⟨kM_rest_16, (List.forall_mem_cons.mpr ⟨kM_rest_26, (List.forall_mem_cons.mpr ⟨kM_rest_30, (List.forall_mem_cons.mpr ⟨kM_rest_31, (List.forall_mem_cons.mpr ⟨kM_rest_39, (List.forall_mem_cons.mpr ⟨kM_rest_41, (fun _ h => absurd h List.not_mem_nil)⟩)⟩)⟩)⟩)⟩)⟩)⟩)
def mM_droughtBy : Mt := (⟨"HerbWatersModel", "droughtBy", "(III)I"⟩, prog_14_method_96_code, 5, some .int)
theorem ok_M_droughtBy : Mok mM_droughtBy := ⟨gtb_mem 2257 (by decide +kernel) rfl, gtb_mem 107 (by decide +kernel) rfl, by decide +kernel, by decide⟩
theorem lM_p402 : Snd "HerbWatersModel" (iPI 402 11 56) := sPI _ rfl rfl (gtb_mem 1779 (by decide +kernel) rfl)
theorem lM_g402 : Snd "HerbWatersModel" (iGI 402 11 56) := sGI _ rfl (gtb_mem 1779 (by decide +kernel) rfl)
def bM_droughtBy_0 : List Ir := [iLA0, (iCV0 353 11 mM_asNow), iLA0, iLI2, (iPI 315 11 47), iLA0, iLI1, (iPI 335 11 48), iLA0, iC0, (iPI 402 11 56), iLA0, (iGR 77 11 32), iLA0, (iGR 83 11 34), (iCS2 231 mM_copies), iC0, iSI4]
def bM_droughtBy_33 : List Ir := [iLI4, iLI3, (iICge (34) 70)]
def bM_droughtBy_39 : List Ir := [iLA0, iLA0, (iGR 83 11 34), (iCV1 356 11 mM_steps), iLA0, iDUPr, (iGI 402 11 56), iLA0, (iGR 83 11 34), (iSP 497), iIALD, iADD, (iPI 402 11 56), (iINC4 1), (iGO (-34) 33)]
def bM_droughtBy_70 : List Ir := [iLA0, (iGR 83 11 34), (iCS1 360 mM_viewOf), iRI]
def tM_droughtBy : Tb := [(0, bM_droughtBy_0, 33), (33, bM_droughtBy_33, 39), (39, bM_droughtBy_39, 70), (70, bM_droughtBy_70, 78)]
theorem fM_droughtBy_0 : tbf tM_droughtBy 0 = some (bM_droughtBy_0, 33) := rfl
theorem fM_droughtBy_33 : tbf tM_droughtBy 33 = some (bM_droughtBy_33, 39) := rfl
theorem fM_droughtBy_39 : tbf tM_droughtBy 39 = some (bM_droughtBy_39, 70) := rfl
theorem fM_droughtBy_70 : tbf tM_droughtBy 70 = some (bM_droughtBy_70, 78) := rfl
theorem kM_droughtBy_0 : Bok "HerbWatersModel" prog_14_method_96_code (0, bM_droughtBy_0, 33) := ⟨by decide +kernel, (List.forall_mem_cons.mpr ⟨sLA0, (List.forall_mem_cons.mpr ⟨lM_v353, (List.forall_mem_cons.mpr ⟨sLA0, (List.forall_mem_cons.mpr ⟨sLI2, (List.forall_mem_cons.mpr ⟨lM_p315, (List.forall_mem_cons.mpr ⟨sLA0, (List.forall_mem_cons.mpr ⟨sLI1, (List.forall_mem_cons.mpr ⟨lM_p335, (List.forall_mem_cons.mpr ⟨sLA0, (List.forall_mem_cons.mpr ⟨sC0, (List.forall_mem_cons.mpr ⟨lM_p402, (List.forall_mem_cons.mpr ⟨sLA0, (List.forall_mem_cons.mpr ⟨lM_g77, (List.forall_mem_cons.mpr ⟨sLA0, (List.forall_mem_cons.mpr ⟨lM_g83, (List.forall_mem_cons.mpr ⟨lM_s231, (List.forall_mem_cons.mpr ⟨sC0, (List.forall_mem_cons.mpr ⟨sSI4, (fun _ h => absurd h List.not_mem_nil)⟩)⟩)⟩)⟩)⟩)⟩)⟩)⟩)⟩)⟩)⟩)⟩)⟩)⟩)⟩)⟩)⟩)⟩)⟩
theorem kM_droughtBy_33 : Bok "HerbWatersModel" prog_14_method_96_code (33, bM_droughtBy_33, 39) := ⟨by decide +kernel, (List.forall_mem_cons.mpr ⟨sLI4, (List.forall_mem_cons.mpr ⟨sLI3, (List.forall_mem_cons.mpr ⟨sICge, (fun _ h => absurd h List.not_mem_nil)⟩)⟩)⟩)⟩
theorem kM_droughtBy_39 : Bok "HerbWatersModel" prog_14_method_96_code (39, bM_droughtBy_39, 70) := ⟨by decide +kernel, (List.forall_mem_cons.mpr ⟨sLA0, (List.forall_mem_cons.mpr ⟨sLA0, (List.forall_mem_cons.mpr ⟨lM_g83, (List.forall_mem_cons.mpr ⟨lM_v356, (List.forall_mem_cons.mpr ⟨sLA0, (List.forall_mem_cons.mpr ⟨sDUPr, (List.forall_mem_cons.mpr ⟨lM_g402, (List.forall_mem_cons.mpr ⟨sLA0, (List.forall_mem_cons.mpr ⟨lM_g83, (List.forall_mem_cons.mpr ⟨sSP, (List.forall_mem_cons.mpr ⟨sIALD, (List.forall_mem_cons.mpr ⟨sADD, (List.forall_mem_cons.mpr ⟨lM_p402, (List.forall_mem_cons.mpr ⟨sINC4, (List.forall_mem_cons.mpr ⟨sGO, (fun _ h => absurd h List.not_mem_nil)⟩)⟩)⟩)⟩)⟩)⟩)⟩)⟩)⟩)⟩)⟩)⟩)⟩)⟩)⟩)⟩
theorem kM_droughtBy_70 : Bok "HerbWatersModel" prog_14_method_96_code (70, bM_droughtBy_70, 78) := ⟨by decide +kernel, (List.forall_mem_cons.mpr ⟨sLA0, (List.forall_mem_cons.mpr ⟨lM_g83, (List.forall_mem_cons.mpr ⟨lM_s360, (List.forall_mem_cons.mpr ⟨sRI, (fun _ h => absurd h List.not_mem_nil)⟩)⟩)⟩)⟩)⟩
theorem kM_droughtBy : ∀ q ∈ tM_droughtBy, Bok "HerbWatersModel" prog_14_method_96_code q := (List.forall_mem_cons.mpr ⟨kM_droughtBy_0, (List.forall_mem_cons.mpr ⟨kM_droughtBy_33, (List.forall_mem_cons.mpr ⟨kM_droughtBy_39, (List.forall_mem_cons.mpr ⟨kM_droughtBy_70, (fun _ h => absurd h List.not_mem_nil)⟩)⟩)⟩)⟩)
def mM_drought : Mt := (⟨"HerbWatersModel", "drought", "(IIII)I"⟩, prog_14_method_97_code, 6, some .int)
theorem ok_M_drought : Mok mM_drought := ⟨gtb_mem 2253 (by decide +kernel) rfl, gtb_mem 107 (by decide +kernel) rfl, by decide +kernel, by decide⟩
theorem lM_v405 : Snd "HerbWatersModel" (iCV3 405 11 mM_droughtBy) := sCV3 _ rfl rfl ok_M_droughtBy (gtb_mem 2256 (by decide +kernel) rfl) (gtb_mem 91 (by decide +kernel) rfl) (gtb_mem 2254 (by decide +kernel) rfl)
def bM_drought_0 : List Ir := [iLA0, iC0, (iPI 123 11 0), iLA0, iLI2, iC0, (iBP 16), (iCS3 157 mM_in), (iIFeq (23) 36)]
def bM_drought_16 : List Ir := [iLI3, iC1, (iBP 60), (iCS3 157 mM_in), (iIFeq (13) 36)]
def bM_drought_26 : List Ir := [iLI4, iC0, iC1, (iCS3 157 mM_in), (iIFne (7) 40)]
def bM_drought_36 : List Ir := [iC1, (iGO (4) 41)]
def bM_drought_40 : List Ir := [iC0]
def bM_drought_41 : List Ir := [iC1, iC1, (iCV3 221 11 mM_bad), (iIFeq (5) 51)]
def bM_drought_49 : List Ir := [iC0, iRI]
def bM_drought_51 : List Ir := [iLA0, iLI1, iLI2, iLI3, (iCV3 405 11 mM_droughtBy), iSI5, iLI4, (iIFne (8) 70)]
def bM_drought_65 : List Ir := [iLI5, (iGO (7) 74)]
def bM_drought_70 : List Ir := [iLA0, (iGI 402 11 56)]
def bM_drought_74 : List Ir := [iRI]
def tM_drought : Tb := [(0, bM_drought_0, 16), (16, bM_drought_16, 26), (26, bM_drought_26, 36), (36, bM_drought_36, 40), (40, bM_drought_40, 41), (41, bM_drought_41, 49), (49, bM_drought_49, 51), (51, bM_drought_51, 65), (65, bM_drought_65, 70), (70, bM_drought_70, 74), (74, bM_drought_74, 75)]
theorem fM_drought_0 : tbf tM_drought 0 = some (bM_drought_0, 16) := rfl
theorem fM_drought_16 : tbf tM_drought 16 = some (bM_drought_16, 26) := rfl
theorem fM_drought_26 : tbf tM_drought 26 = some (bM_drought_26, 36) := rfl
theorem fM_drought_36 : tbf tM_drought 36 = some (bM_drought_36, 40) := rfl
theorem fM_drought_40 : tbf tM_drought 40 = some (bM_drought_40, 41) := rfl
theorem fM_drought_41 : tbf tM_drought 41 = some (bM_drought_41, 49) := rfl
theorem fM_drought_49 : tbf tM_drought 49 = some (bM_drought_49, 51) := rfl
theorem fM_drought_51 : tbf tM_drought 51 = some (bM_drought_51, 65) := rfl
theorem fM_drought_65 : tbf tM_drought 65 = some (bM_drought_65, 70) := rfl
theorem fM_drought_70 : tbf tM_drought 70 = some (bM_drought_70, 74) := rfl
theorem fM_drought_74 : tbf tM_drought 74 = some (bM_drought_74, 75) := rfl
theorem kM_drought_0 : Bok "HerbWatersModel" prog_14_method_97_code (0, bM_drought_0, 16) := ⟨by decide +kernel, (List.forall_mem_cons.mpr ⟨sLA0, (List.forall_mem_cons.mpr ⟨sC0, (List.forall_mem_cons.mpr ⟨lM_p123, (List.forall_mem_cons.mpr ⟨sLA0, (List.forall_mem_cons.mpr ⟨sLI2, (List.forall_mem_cons.mpr ⟨sC0, (List.forall_mem_cons.mpr ⟨sBP, (List.forall_mem_cons.mpr ⟨lM_s157, (List.forall_mem_cons.mpr ⟨sIFeq, (fun _ h => absurd h List.not_mem_nil)⟩)⟩)⟩)⟩)⟩)⟩)⟩)⟩)⟩)⟩
theorem kM_drought_16 : Bok "HerbWatersModel" prog_14_method_97_code (16, bM_drought_16, 26) := ⟨by decide +kernel, (List.forall_mem_cons.mpr ⟨sLI3, (List.forall_mem_cons.mpr ⟨sC1, (List.forall_mem_cons.mpr ⟨sBP, (List.forall_mem_cons.mpr ⟨lM_s157, (List.forall_mem_cons.mpr ⟨sIFeq, (fun _ h => absurd h List.not_mem_nil)⟩)⟩)⟩)⟩)⟩)⟩
theorem kM_drought_26 : Bok "HerbWatersModel" prog_14_method_97_code (26, bM_drought_26, 36) := ⟨by decide +kernel, (List.forall_mem_cons.mpr ⟨sLI4, (List.forall_mem_cons.mpr ⟨sC0, (List.forall_mem_cons.mpr ⟨sC1, (List.forall_mem_cons.mpr ⟨lM_s157, (List.forall_mem_cons.mpr ⟨sIFne, (fun _ h => absurd h List.not_mem_nil)⟩)⟩)⟩)⟩)⟩)⟩
theorem kM_drought_36 : Bok "HerbWatersModel" prog_14_method_97_code (36, bM_drought_36, 40) := ⟨by decide +kernel, (List.forall_mem_cons.mpr ⟨sC1, (List.forall_mem_cons.mpr ⟨sGO, (fun _ h => absurd h List.not_mem_nil)⟩)⟩)⟩
theorem kM_drought_40 : Bok "HerbWatersModel" prog_14_method_97_code (40, bM_drought_40, 41) := ⟨by decide +kernel, (List.forall_mem_cons.mpr ⟨sC0, (fun _ h => absurd h List.not_mem_nil)⟩)⟩
theorem kM_drought_41 : Bok "HerbWatersModel" prog_14_method_97_code (41, bM_drought_41, 49) := ⟨by decide +kernel, (List.forall_mem_cons.mpr ⟨sC1, (List.forall_mem_cons.mpr ⟨sC1, (List.forall_mem_cons.mpr ⟨lM_v221, (List.forall_mem_cons.mpr ⟨sIFeq, (fun _ h => absurd h List.not_mem_nil)⟩)⟩)⟩)⟩)⟩
theorem kM_drought_49 : Bok "HerbWatersModel" prog_14_method_97_code (49, bM_drought_49, 51) := ⟨by decide +kernel, (List.forall_mem_cons.mpr ⟨sC0, (List.forall_mem_cons.mpr ⟨sRI, (fun _ h => absurd h List.not_mem_nil)⟩)⟩)⟩
theorem kM_drought_51 : Bok "HerbWatersModel" prog_14_method_97_code (51, bM_drought_51, 65) := ⟨by decide +kernel, (List.forall_mem_cons.mpr ⟨sLA0, (List.forall_mem_cons.mpr ⟨sLI1, (List.forall_mem_cons.mpr ⟨sLI2, (List.forall_mem_cons.mpr ⟨sLI3, (List.forall_mem_cons.mpr ⟨lM_v405, (List.forall_mem_cons.mpr ⟨sSI5, (List.forall_mem_cons.mpr ⟨sLI4, (List.forall_mem_cons.mpr ⟨sIFne, (fun _ h => absurd h List.not_mem_nil)⟩)⟩)⟩)⟩)⟩)⟩)⟩)⟩)⟩
theorem kM_drought_65 : Bok "HerbWatersModel" prog_14_method_97_code (65, bM_drought_65, 70) := ⟨by decide +kernel, (List.forall_mem_cons.mpr ⟨sLI5, (List.forall_mem_cons.mpr ⟨sGO, (fun _ h => absurd h List.not_mem_nil)⟩)⟩)⟩
theorem kM_drought_70 : Bok "HerbWatersModel" prog_14_method_97_code (70, bM_drought_70, 74) := ⟨by decide +kernel, (List.forall_mem_cons.mpr ⟨sLA0, (List.forall_mem_cons.mpr ⟨lM_g402, (fun _ h => absurd h List.not_mem_nil)⟩)⟩)⟩
theorem kM_drought_74 : Bok "HerbWatersModel" prog_14_method_97_code (74, bM_drought_74, 75) := ⟨by decide +kernel, (List.forall_mem_cons.mpr ⟨sRI, (fun _ h => absurd h List.not_mem_nil)⟩)⟩
theorem kM_drought : ∀ q ∈ tM_drought, Bok "HerbWatersModel" prog_14_method_97_code q := (List.forall_mem_cons.mpr ⟨kM_drought_0, (List.forall_mem_cons.mpr ⟨kM_drought_16, (List.forall_mem_cons.mpr ⟨kM_drought_26, (List.forall_mem_cons.mpr ⟨kM_drought_36, (List.forall_mem_cons.mpr ⟨kM_drought_40, (List.forall_mem_cons.mpr ⟨kM_drought_41, (List.forall_mem_cons.mpr ⟨kM_drought_49, (List.forall_mem_cons.mpr ⟨kM_drought_51, (List.forall_mem_cons.mpr ⟨kM_drought_65, (List.forall_mem_cons.mpr ⟨kM_drought_70, (List.forall_mem_cons.mpr ⟨kM_drought_74, (fun _ h => absurd h List.not_mem_nil)⟩)⟩)⟩)⟩)⟩)⟩)⟩)⟩)⟩)⟩)⟩)
def mM_span : Mt := (⟨"HerbWatersModel", "span", "(IIIII)I"⟩, prog_14_method_98_code, 10, some .int)
theorem ok_M_span : Mok mM_span := ⟨gtb_mem 2261 (by decide +kernel) rfl, gtb_mem 107 (by decide +kernel) rfl, by decide +kernel, by decide⟩
def bM_span_0 : List Ir := [iLA0, iC0, (iPI 123 11 0), iLA0, iLI2, iC1, (iBP 30), (iCS3 157 mM_in), (iIFeq (34) 47)]
def bM_span_16 : List Ir := [iLI3, iC0, (iBP 16), (iCS3 157 mM_in), (iIFeq (24) 47)]
def bM_span_26 : List Ir := [iLI4, iC1, (iBP 60), (iCS3 157 mM_in), (iIFeq (13) 47)]
def bM_span_37 : List Ir := [iLI5, iC0, iC2, (iCS3 157 mM_in), (iIFne (7) 51)]
def bM_span_47 : List Ir := [iC1, (iGO (4) 52)]
def bM_span_51 : List Ir := [iC0]
def bM_span_52 : List Ir := [iC1, iC1, (iCV3 221 11 mM_bad), (iIFeq (5) 62)]
def bM_span_60 : List Ir := [iC0, iRI]
def bM_span_62 : List Ir := [iC0, iSI6, iCm1, iSI7, iCm1, iSI8, iC0, iSI9]
def bM_span_74 : List Ir := [iLI9, iLI2, (iICge (77) 154)]
def bM_span_80 : List Ir := [iLI6, iLA0, iLI1, iLI9, iADD, iLI3, iLI4, (iCV3 405 11 mM_droughtBy), (iIFne (7) 100)]
def bM_span_96 : List Ir := [iC1, (iGO (4) 101)]
def bM_span_100 : List Ir := [iC0]
def bM_span_101 : List Ir := [iADD, iSI6, iLI7, iCm1, (iICne (10) 117)]
def bM_span_110 : List Ir := [iLA0, (iGI 402 11 56), (iGO (12) 126)]
def bM_span_117 : List Ir := [iLI7, iLA0, (iGI 402 11 56), (iCS2 303 mM_less)]
def bM_span_126 : List Ir := [iSI7, iLA0, (iGI 402 11 56), iLI8, (iICle (10) 144)]
def bM_span_137 : List Ir := [iLA0, (iGI 402 11 56), (iGO (5) 146)]
def bM_span_144 : List Ir := [iLI8]
def bM_span_146 : List Ir := [iSI8, (iINC9 1), (iGO (-77) 74)]
def bM_span_154 : List Ir := [iLI5, (iIFne (8) 164)]
def bM_span_159 : List Ir := [iLI6, (iGO (16) 177)]
def bM_span_164 : List Ir := [iLI5, iC1, (iICne (8) 175)]
def bM_span_170 : List Ir := [iLI7, (iGO (5) 177)]
def bM_span_175 : List Ir := [iLI8]
def bM_span_177 : List Ir := [iRI]
def tM_span : Tb := [(0, bM_span_0, 16), (16, bM_span_16, 26), (26, bM_span_26, 37), (37, bM_span_37, 47), (47, bM_span_47, 51), (51, bM_span_51, 52), (52, bM_span_52, 60), (60, bM_span_60, 62), (62, bM_span_62, 74), (74, bM_span_74, 80), (80, bM_span_80, 96), (96, bM_span_96, 100), (100, bM_span_100, 101), (101, bM_span_101, 110), (110, bM_span_110, 117), (117, bM_span_117, 126), (126, bM_span_126, 137), (137, bM_span_137, 144), (144, bM_span_144, 146), (146, bM_span_146, 154), (154, bM_span_154, 159), (159, bM_span_159, 164), (164, bM_span_164, 170), (170, bM_span_170, 175), (175, bM_span_175, 177), (177, bM_span_177, 178)]
theorem fM_span_0 : tbf tM_span 0 = some (bM_span_0, 16) := rfl
theorem fM_span_16 : tbf tM_span 16 = some (bM_span_16, 26) := rfl
theorem fM_span_26 : tbf tM_span 26 = some (bM_span_26, 37) := rfl
theorem fM_span_37 : tbf tM_span 37 = some (bM_span_37, 47) := rfl
theorem fM_span_47 : tbf tM_span 47 = some (bM_span_47, 51) := rfl
theorem fM_span_51 : tbf tM_span 51 = some (bM_span_51, 52) := rfl
theorem fM_span_52 : tbf tM_span 52 = some (bM_span_52, 60) := rfl
theorem fM_span_60 : tbf tM_span 60 = some (bM_span_60, 62) := rfl
theorem fM_span_62 : tbf tM_span 62 = some (bM_span_62, 74) := rfl
theorem fM_span_74 : tbf tM_span 74 = some (bM_span_74, 80) := rfl
theorem fM_span_80 : tbf tM_span 80 = some (bM_span_80, 96) := rfl
theorem fM_span_96 : tbf tM_span 96 = some (bM_span_96, 100) := rfl
theorem fM_span_100 : tbf tM_span 100 = some (bM_span_100, 101) := rfl
theorem fM_span_101 : tbf tM_span 101 = some (bM_span_101, 110) := rfl
theorem fM_span_110 : tbf tM_span 110 = some (bM_span_110, 117) := rfl
theorem fM_span_117 : tbf tM_span 117 = some (bM_span_117, 126) := rfl
theorem fM_span_126 : tbf tM_span 126 = some (bM_span_126, 137) := rfl
theorem fM_span_137 : tbf tM_span 137 = some (bM_span_137, 144) := rfl
theorem fM_span_144 : tbf tM_span 144 = some (bM_span_144, 146) := rfl
theorem fM_span_146 : tbf tM_span 146 = some (bM_span_146, 154) := rfl
theorem fM_span_154 : tbf tM_span 154 = some (bM_span_154, 159) := rfl
theorem fM_span_159 : tbf tM_span 159 = some (bM_span_159, 164) := rfl
theorem fM_span_164 : tbf tM_span 164 = some (bM_span_164, 170) := rfl
theorem fM_span_170 : tbf tM_span 170 = some (bM_span_170, 175) := rfl
theorem fM_span_175 : tbf tM_span 175 = some (bM_span_175, 177) := rfl
theorem fM_span_177 : tbf tM_span 177 = some (bM_span_177, 178) := rfl
theorem kM_span_0 : Bok "HerbWatersModel" prog_14_method_98_code (0, bM_span_0, 16) := ⟨by decide +kernel, (List.forall_mem_cons.mpr ⟨sLA0, (List.forall_mem_cons.mpr ⟨sC0, (List.forall_mem_cons.mpr ⟨lM_p123, (List.forall_mem_cons.mpr ⟨sLA0, (List.forall_mem_cons.mpr ⟨sLI2, (List.forall_mem_cons.mpr ⟨sC1, (List.forall_mem_cons.mpr ⟨sBP, (List.forall_mem_cons.mpr ⟨lM_s157, (List.forall_mem_cons.mpr ⟨sIFeq, (fun _ h => absurd h List.not_mem_nil)⟩)⟩)⟩)⟩)⟩)⟩)⟩)⟩)⟩)⟩
theorem kM_span_16 : Bok "HerbWatersModel" prog_14_method_98_code (16, bM_span_16, 26) := ⟨by decide +kernel, (List.forall_mem_cons.mpr ⟨sLI3, (List.forall_mem_cons.mpr ⟨sC0, (List.forall_mem_cons.mpr ⟨sBP, (List.forall_mem_cons.mpr ⟨lM_s157, (List.forall_mem_cons.mpr ⟨sIFeq, (fun _ h => absurd h List.not_mem_nil)⟩)⟩)⟩)⟩)⟩)⟩
theorem kM_span_26 : Bok "HerbWatersModel" prog_14_method_98_code (26, bM_span_26, 37) := ⟨by decide +kernel, (List.forall_mem_cons.mpr ⟨sLI4, (List.forall_mem_cons.mpr ⟨sC1, (List.forall_mem_cons.mpr ⟨sBP, (List.forall_mem_cons.mpr ⟨lM_s157, (List.forall_mem_cons.mpr ⟨sIFeq, (fun _ h => absurd h List.not_mem_nil)⟩)⟩)⟩)⟩)⟩)⟩
theorem kM_span_37 : Bok "HerbWatersModel" prog_14_method_98_code (37, bM_span_37, 47) := ⟨by decide +kernel, (List.forall_mem_cons.mpr ⟨sLI5, (List.forall_mem_cons.mpr ⟨sC0, (List.forall_mem_cons.mpr ⟨sC2, (List.forall_mem_cons.mpr ⟨lM_s157, (List.forall_mem_cons.mpr ⟨sIFne, (fun _ h => absurd h List.not_mem_nil)⟩)⟩)⟩)⟩)⟩)⟩
theorem kM_span_47 : Bok "HerbWatersModel" prog_14_method_98_code (47, bM_span_47, 51) := ⟨by decide +kernel, (List.forall_mem_cons.mpr ⟨sC1, (List.forall_mem_cons.mpr ⟨sGO, (fun _ h => absurd h List.not_mem_nil)⟩)⟩)⟩
theorem kM_span_51 : Bok "HerbWatersModel" prog_14_method_98_code (51, bM_span_51, 52) := ⟨by decide +kernel, (List.forall_mem_cons.mpr ⟨sC0, (fun _ h => absurd h List.not_mem_nil)⟩)⟩
theorem kM_span_52 : Bok "HerbWatersModel" prog_14_method_98_code (52, bM_span_52, 60) := ⟨by decide +kernel, (List.forall_mem_cons.mpr ⟨sC1, (List.forall_mem_cons.mpr ⟨sC1, (List.forall_mem_cons.mpr ⟨lM_v221, (List.forall_mem_cons.mpr ⟨sIFeq, (fun _ h => absurd h List.not_mem_nil)⟩)⟩)⟩)⟩)⟩
theorem kM_span_60 : Bok "HerbWatersModel" prog_14_method_98_code (60, bM_span_60, 62) := ⟨by decide +kernel, (List.forall_mem_cons.mpr ⟨sC0, (List.forall_mem_cons.mpr ⟨sRI, (fun _ h => absurd h List.not_mem_nil)⟩)⟩)⟩
theorem kM_span_62 : Bok "HerbWatersModel" prog_14_method_98_code (62, bM_span_62, 74) := ⟨by decide +kernel, (List.forall_mem_cons.mpr ⟨sC0, (List.forall_mem_cons.mpr ⟨sSI6, (List.forall_mem_cons.mpr ⟨sCm1, (List.forall_mem_cons.mpr ⟨sSI7, (List.forall_mem_cons.mpr ⟨sCm1, (List.forall_mem_cons.mpr ⟨sSI8, (List.forall_mem_cons.mpr ⟨sC0, (List.forall_mem_cons.mpr ⟨sSI9, (fun _ h => absurd h List.not_mem_nil)⟩)⟩)⟩)⟩)⟩)⟩)⟩)⟩)⟩
theorem kM_span_74 : Bok "HerbWatersModel" prog_14_method_98_code (74, bM_span_74, 80) := ⟨by decide +kernel, (List.forall_mem_cons.mpr ⟨sLI9, (List.forall_mem_cons.mpr ⟨sLI2, (List.forall_mem_cons.mpr ⟨sICge, (fun _ h => absurd h List.not_mem_nil)⟩)⟩)⟩)⟩
theorem kM_span_80 : Bok "HerbWatersModel" prog_14_method_98_code (80, bM_span_80, 96) := ⟨by decide +kernel, (List.forall_mem_cons.mpr ⟨sLI6, (List.forall_mem_cons.mpr ⟨sLA0, (List.forall_mem_cons.mpr ⟨sLI1, (List.forall_mem_cons.mpr ⟨sLI9, (List.forall_mem_cons.mpr ⟨sADD, (List.forall_mem_cons.mpr ⟨sLI3, (List.forall_mem_cons.mpr ⟨sLI4, (List.forall_mem_cons.mpr ⟨lM_v405, (List.forall_mem_cons.mpr ⟨sIFne, (fun _ h => absurd h List.not_mem_nil)⟩)⟩)⟩)⟩)⟩)⟩)⟩)⟩)⟩)⟩
theorem kM_span_96 : Bok "HerbWatersModel" prog_14_method_98_code (96, bM_span_96, 100) := ⟨by decide +kernel, (List.forall_mem_cons.mpr ⟨sC1, (List.forall_mem_cons.mpr ⟨sGO, (fun _ h => absurd h List.not_mem_nil)⟩)⟩)⟩
theorem kM_span_100 : Bok "HerbWatersModel" prog_14_method_98_code (100, bM_span_100, 101) := ⟨by decide +kernel, (List.forall_mem_cons.mpr ⟨sC0, (fun _ h => absurd h List.not_mem_nil)⟩)⟩
theorem kM_span_101 : Bok "HerbWatersModel" prog_14_method_98_code (101, bM_span_101, 110) := ⟨by decide +kernel, (List.forall_mem_cons.mpr ⟨sADD, (List.forall_mem_cons.mpr ⟨sSI6, (List.forall_mem_cons.mpr ⟨sLI7, (List.forall_mem_cons.mpr ⟨sCm1, (List.forall_mem_cons.mpr ⟨sICne, (fun _ h => absurd h List.not_mem_nil)⟩)⟩)⟩)⟩)⟩)⟩
theorem kM_span_110 : Bok "HerbWatersModel" prog_14_method_98_code (110, bM_span_110, 117) := ⟨by decide +kernel, (List.forall_mem_cons.mpr ⟨sLA0, (List.forall_mem_cons.mpr ⟨lM_g402, (List.forall_mem_cons.mpr ⟨sGO, (fun _ h => absurd h List.not_mem_nil)⟩)⟩)⟩)⟩
theorem kM_span_117 : Bok "HerbWatersModel" prog_14_method_98_code (117, bM_span_117, 126) := ⟨by decide +kernel, (List.forall_mem_cons.mpr ⟨sLI7, (List.forall_mem_cons.mpr ⟨sLA0, (List.forall_mem_cons.mpr ⟨lM_g402, (List.forall_mem_cons.mpr ⟨lM_s303, (fun _ h => absurd h List.not_mem_nil)⟩)⟩)⟩)⟩)⟩
theorem kM_span_126 : Bok "HerbWatersModel" prog_14_method_98_code (126, bM_span_126, 137) := ⟨by decide +kernel, (List.forall_mem_cons.mpr ⟨sSI7, (List.forall_mem_cons.mpr ⟨sLA0, (List.forall_mem_cons.mpr ⟨lM_g402, (List.forall_mem_cons.mpr ⟨sLI8, (List.forall_mem_cons.mpr ⟨sICle, (fun _ h => absurd h List.not_mem_nil)⟩)⟩)⟩)⟩)⟩)⟩
theorem kM_span_137 : Bok "HerbWatersModel" prog_14_method_98_code (137, bM_span_137, 144) := ⟨by decide +kernel, (List.forall_mem_cons.mpr ⟨sLA0, (List.forall_mem_cons.mpr ⟨lM_g402, (List.forall_mem_cons.mpr ⟨sGO, (fun _ h => absurd h List.not_mem_nil)⟩)⟩)⟩)⟩
theorem kM_span_144 : Bok "HerbWatersModel" prog_14_method_98_code (144, bM_span_144, 146) := ⟨by decide +kernel, (List.forall_mem_cons.mpr ⟨sLI8, (fun _ h => absurd h List.not_mem_nil)⟩)⟩
theorem kM_span_146 : Bok "HerbWatersModel" prog_14_method_98_code (146, bM_span_146, 154) := ⟨by decide +kernel, (List.forall_mem_cons.mpr ⟨sSI8, (List.forall_mem_cons.mpr ⟨sINC9, (List.forall_mem_cons.mpr ⟨sGO, (fun _ h => absurd h List.not_mem_nil)⟩)⟩)⟩)⟩
theorem kM_span_154 : Bok "HerbWatersModel" prog_14_method_98_code (154, bM_span_154, 159) := ⟨by decide +kernel, (List.forall_mem_cons.mpr ⟨sLI5, (List.forall_mem_cons.mpr ⟨sIFne, (fun _ h => absurd h List.not_mem_nil)⟩)⟩)⟩
theorem kM_span_159 : Bok "HerbWatersModel" prog_14_method_98_code (159, bM_span_159, 164) := ⟨by decide +kernel, (List.forall_mem_cons.mpr ⟨sLI6, (List.forall_mem_cons.mpr ⟨sGO, (fun _ h => absurd h List.not_mem_nil)⟩)⟩)⟩
theorem kM_span_164 : Bok "HerbWatersModel" prog_14_method_98_code (164, bM_span_164, 170) := ⟨by decide +kernel, (List.forall_mem_cons.mpr ⟨sLI5, (List.forall_mem_cons.mpr ⟨sC1, (List.forall_mem_cons.mpr ⟨sICne, (fun _ h => absurd h List.not_mem_nil)⟩)⟩)⟩)⟩
theorem kM_span_170 : Bok "HerbWatersModel" prog_14_method_98_code (170, bM_span_170, 175) := ⟨by decide +kernel, (List.forall_mem_cons.mpr ⟨sLI7, (List.forall_mem_cons.mpr ⟨sGO, (fun _ h => absurd h List.not_mem_nil)⟩)⟩)⟩
theorem kM_span_175 : Bok "HerbWatersModel" prog_14_method_98_code (175, bM_span_175, 177) := ⟨by decide +kernel, (List.forall_mem_cons.mpr ⟨sLI8, (fun _ h => absurd h List.not_mem_nil)⟩)⟩
theorem kM_span_177 : Bok "HerbWatersModel" prog_14_method_98_code (177, bM_span_177, 178) := ⟨by decide +kernel, (List.forall_mem_cons.mpr ⟨sRI, (fun _ h => absurd h List.not_mem_nil)⟩)⟩
theorem kM_span : ∀ q ∈ tM_span, Bok "HerbWatersModel" prog_14_method_98_code q := (List.forall_mem_cons.mpr ⟨kM_span_0, (List.forall_mem_cons.mpr ⟨kM_span_16, (List.forall_mem_cons.mpr ⟨kM_span_26, (List.forall_mem_cons.mpr ⟨kM_span_37, (List.forall_mem_cons.mpr ⟨kM_span_47, (List.forall_mem_cons.mpr ⟨kM_span_51, (List.forall_mem_cons.mpr ⟨kM_span_52, (List.forall_mem_cons.mpr ⟨kM_span_60, (List.forall_mem_cons.mpr ⟨kM_span_62, (List.forall_mem_cons.mpr ⟨kM_span_74, (List.forall_mem_cons.mpr ⟨kM_span_80, (List.forall_mem_cons.mpr ⟨kM_span_96, (List.forall_mem_cons.mpr ⟨kM_span_100, (List.forall_mem_cons.mpr ⟨kM_span_101, (List.forall_mem_cons.mpr ⟨kM_span_110, (List.forall_mem_cons.mpr ⟨kM_span_117, (List.forall_mem_cons.mpr ⟨kM_span_126, (List.forall_mem_cons.mpr ⟨kM_span_137, (List.forall_mem_cons.mpr ⟨kM_span_144, (List.forall_mem_cons.mpr ⟨kM_span_146, (List.forall_mem_cons.mpr ⟨kM_span_154, (List.forall_mem_cons.mpr ⟨kM_span_159, (List.forall_mem_cons.mpr ⟨kM_span_164, (List.forall_mem_cons.mpr ⟨kM_span_170, (List.forall_mem_cons.mpr ⟨kM_span_175, (List.forall_mem_cons.mpr ⟨kM_span_177, (fun _ h => absurd h List.not_mem_nil)⟩)⟩)⟩)⟩)⟩)⟩)⟩)⟩)⟩)⟩)⟩)⟩)⟩)⟩)⟩)⟩)⟩)⟩)⟩)⟩)⟩)⟩)⟩)⟩)⟩)⟩)
