/-! code of the class; by program (wip/whole/gen_X.py) -/
theorem lTn_t99 : Snd "HerbWaters$Town" (iGS 99 7) := sGS (gtb_mem 1194 (by decide +kernel) rfl)
def mTn_readVillage : Mt := (⟨"HerbWaters$Town", "readVillage", "(LHerbWaters$Tape;)Z"⟩, prog_11_method_9_code, 3, some .boolean)
theorem ok_Tn_readVillage : Mok mTn_readVillage := ⟨gtb_mem 1199 (by decide +kernel) rfl, gtb_mem 96 (by decide +kernel) rfl, by decide +kernel, by decide⟩
theorem lTn_v103 : Snd "HerbWaters$Town" (iCV1 103 9 mTn_readVillage) := sCV1 _ rfl rfl ok_Tn_readVillage (gtb_mem 1198 (by decide +kernel) rfl) (gtb_mem 20 (by decide +kernel) rfl) (gtb_mem 1196 (by decide +kernel) rfl)
theorem lTn_t107 : Snd "HerbWaters$Town" (iGS 107 14) := sGS (gtb_mem 1210 (by decide +kernel) rfl)
def mTn_readFeast : Mt := (⟨"HerbWaters$Town", "readFeast", "(LHerbWaters$Tape;)Z"⟩, prog_11_method_12_code, 3, some .boolean)
theorem ok_Tn_readFeast : Mok mTn_readFeast := ⟨gtb_mem 1215 (by decide +kernel) rfl, gtb_mem 96 (by decide +kernel) rfl, by decide +kernel, by decide⟩
theorem lTn_v110 : Snd "HerbWaters$Town" (iCV1 110 9 mTn_readFeast) := sCV1 _ rfl rfl ok_Tn_readFeast (gtb_mem 1214 (by decide +kernel) rfl) (gtb_mem 21 (by decide +kernel) rfl) (gtb_mem 1212 (by decide +kernel) rfl)
theorem lTn_t113 : Snd "HerbWaters$Town" (iGS 113 9) := sGS (gtb_mem 1216 (by decide +kernel) rfl)
theorem lTn_g49 : Snd "HerbWaters$Town" (iGI 49 9 12) := sGI _ rfl (gtb_mem 208 (by decide +kernel) rfl)
theorem lTn_t116 : Snd "HerbWaters$Town" (iGS 116 8) := sGS (gtb_mem 1218 (by decide +kernel) rfl)
theorem lTn_g46 : Snd "HerbWaters$Town" (iGI 46 9 11) := sGI _ rfl (gtb_mem 205 (by decide +kernel) rfl)
theorem lTn_v119 : Snd "HerbWaters$Town" (iCV2 119 7 mTp_numberIn) := sCV2 _ rfl rfl ok_Tp_numberIn (gtb_mem 1201 (by decide +kernel) rfl) (gtb_mem 1202 (by decide +kernel) rfl) (gtb_mem 1200 (by decide +kernel) rfl)
def mTn_readChannel : Mt := (⟨"HerbWaters$Town", "readChannel", "(LHerbWaters$Tape;I)Z"⟩, prog_11_method_10_code, 5, some .boolean)
theorem ok_Tn_readChannel : Mok mTn_readChannel := ⟨gtb_mem 1223 (by decide +kernel) rfl, gtb_mem 96 (by decide +kernel) rfl, by decide +kernel, by decide⟩
theorem lTn_v123 : Snd "HerbWaters$Town" (iCV2 123 9 mTn_readChannel) := sCV2 _ rfl rfl ok_Tn_readChannel (gtb_mem 1222 (by decide +kernel) rfl) (gtb_mem 22 (by decide +kernel) rfl) (gtb_mem 1220 (by decide +kernel) rfl)
theorem lTn_t126 : Snd "HerbWaters$Town" (iGS 126 13) := sGS (gtb_mem 1228 (by decide +kernel) rfl)
def mTn_readFilter : Mt := (⟨"HerbWaters$Town", "readFilter", "(LHerbWaters$Tape;I)Z"⟩, prog_11_method_11_code, 5, some .boolean)
theorem ok_Tn_readFilter : Mok mTn_readFilter := ⟨gtb_mem 1233 (by decide +kernel) rfl, gtb_mem 96 (by decide +kernel) rfl, by decide +kernel, by decide⟩
theorem lTn_v129 : Snd "HerbWaters$Town" (iCV2 129 9 mTn_readFilter) := sCV2 _ rfl rfl ok_Tn_readFilter (gtb_mem 1232 (by decide +kernel) rfl) (gtb_mem 23 (by decide +kernel) rfl) (gtb_mem 1230 (by decide +kernel) rfl)
def mTn_readNumberOf : Mt := (⟨"HerbWaters$Town", "readNumberOf", "(LHerbWaters$Tape;LHerbWaters$Word;I)Z"⟩, prog_11_method_8_code, 7, some .boolean)
theorem ok_Tn_readNumberOf : Mok mTn_readNumberOf := ⟨gtb_mem 1246 (by decide +kernel) rfl, gtb_mem 96 (by decide +kernel) rfl, by decide +kernel, by decide⟩
theorem lTn_v132 : Snd "HerbWaters$Town" (iCV3 132 9 mTn_readNumberOf) := sCV3 _ rfl rfl ok_Tn_readNumberOf (gtb_mem 1245 (by decide +kernel) rfl) (gtb_mem 24 (by decide +kernel) rfl) (gtb_mem 1243 (by decide +kernel) rfl)
def bTn_readRest_0 : List Ir := [iLA2, (iGS 99 7), (iACne (9) 13)]
def bTn_readRest_7 : List Ir := [iLA0, iLA1, (iCV1 103 9 mTn_readVillage), iRI]
def bTn_readRest_13 : List Ir := [iLA2, (iGS 107 14), (iACne (9) 26)]
def bTn_readRest_20 : List Ir := [iLA0, iLA1, (iCV1 110 9 mTn_readFeast), iRI]
def bTn_readRest_26 : List Ir := [iLA2, (iGS 113 9), (iACne (17) 47)]
def bTn_readRest_33 : List Ir := [iLA0, (iGI 49 9 12), iCm1, (iICeq (9) 47)]
def bTn_readRest_41 : List Ir := [iLA1, iC4, (iCV1 91 7 mTp_fails), iRI]
def bTn_readRest_47 : List Ir := [iLA2, (iGS 116 8), (iACne (18) 69)]
def bTn_readRest_54 : List Ir := [iLA0, (iGI 46 9 11), (iBP 20), (iIClt (9) 69)]
def bTn_readRest_63 : List Ir := [iLA1, iC3, (iCV1 91 7 mTp_fails), iRI]
def bTn_readRest_69 : List Ir := [iLA1, iC0, iLA0, (iGI 42 9 10), iC1, iSUB, (iCV2 119 7 mTp_numberIn), iSI3, iLI3, iCm1, (iICne (5) 88)]
def bTn_readRest_86 : List Ir := [iC0, iRI]
def bTn_readRest_88 : List Ir := [iLA2, (iGS 116 8), (iACne (10) 102)]
def bTn_readRest_95 : List Ir := [iLA0, iLA1, iLI3, (iCV2 123 9 mTn_readChannel), iRI]
def bTn_readRest_102 : List Ir := [iLA2, (iGS 126 13), (iACne (10) 116)]
def bTn_readRest_109 : List Ir := [iLA0, iLA1, iLI3, (iCV2 129 9 mTn_readFilter), iRI]
def bTn_readRest_116 : List Ir := [iLA0, iLA1, iLA2, iLI3, (iCV3 132 9 mTn_readNumberOf), iRI]
def tTn_readRest : Tb := [(0, bTn_readRest_0, 7), (7, bTn_readRest_7, 13), (13, bTn_readRest_13, 20), (20, bTn_readRest_20, 26), (26, bTn_readRest_26, 33), (33, bTn_readRest_33, 41), (41, bTn_readRest_41, 47), (47, bTn_readRest_47, 54), (54, bTn_readRest_54, 63), (63, bTn_readRest_63, 69), (69, bTn_readRest_69, 86), (86, bTn_readRest_86, 88), (88, bTn_readRest_88, 95), (95, bTn_readRest_95, 102), (102, bTn_readRest_102, 109), (109, bTn_readRest_109, 116), (116, bTn_readRest_116, 124)]
theorem fTn_readRest_0 : tbf tTn_readRest 0 = some (bTn_readRest_0, 7) := rfl
theorem fTn_readRest_7 : tbf tTn_readRest 7 = some (bTn_readRest_7, 13) := rfl
theorem fTn_readRest_13 : tbf tTn_readRest 13 = some (bTn_readRest_13, 20) := rfl
theorem fTn_readRest_20 : tbf tTn_readRest 20 = some (bTn_readRest_20, 26) := rfl
theorem fTn_readRest_26 : tbf tTn_readRest 26 = some (bTn_readRest_26, 33) := rfl
theorem fTn_readRest_33 : tbf tTn_readRest 33 = some (bTn_readRest_33, 41) := rfl
theorem fTn_readRest_41 : tbf tTn_readRest 41 = some (bTn_readRest_41, 47) := rfl
theorem fTn_readRest_47 : tbf tTn_readRest 47 = some (bTn_readRest_47, 54) := rfl
theorem fTn_readRest_54 : tbf tTn_readRest 54 = some (bTn_readRest_54, 63) := rfl
theorem fTn_readRest_63 : tbf tTn_readRest 63 = some (bTn_readRest_63, 69) := rfl
theorem fTn_readRest_69 : tbf tTn_readRest 69 = some (bTn_readRest_69, 86) := rfl
theorem fTn_readRest_86 : tbf tTn_readRest 86 = some (bTn_readRest_86, 88) := rfl
theorem fTn_readRest_88 : tbf tTn_readRest 88 = some (bTn_readRest_88, 95) := rfl
theorem fTn_readRest_95 : tbf tTn_readRest 95 = some (bTn_readRest_95, 102) := rfl
theorem fTn_readRest_102 : tbf tTn_readRest 102 = some (bTn_readRest_102, 109) := rfl
theorem fTn_readRest_109 : tbf tTn_readRest 109 = some (bTn_readRest_109, 116) := rfl
theorem fTn_readRest_116 : tbf tTn_readRest 116 = some (bTn_readRest_116, 124) := rfl
theorem kTn_readRest_0 : Bok "HerbWaters$Town" prog_11_method_7_code (0, bTn_readRest_0, 7) := ⟨by decide +kernel, (List.forall_mem_cons.mpr ⟨sLA2, (List.forall_mem_cons.mpr ⟨lTn_t99, (List.forall_mem_cons.mpr ⟨sACne, (fun _ h => absurd h List.not_mem_nil)⟩)⟩)⟩)⟩
theorem kTn_readRest_7 : Bok "HerbWaters$Town" prog_11_method_7_code (7, bTn_readRest_7, 13) := ⟨by decide +kernel, (List.forall_mem_cons.mpr ⟨sLA0, (List.forall_mem_cons.mpr ⟨sLA1, (List.forall_mem_cons.mpr ⟨lTn_v103, (List.forall_mem_cons.mpr ⟨sRI, (fun _ h => absurd h List.not_mem_nil)⟩)⟩)⟩)⟩)⟩
theorem kTn_readRest_13 : Bok "HerbWaters$Town" prog_11_method_7_code (13, bTn_readRest_13, 20) := ⟨by decide +kernel, (List.forall_mem_cons.mpr ⟨sLA2, (List.forall_mem_cons.mpr ⟨lTn_t107, (List.forall_mem_cons.mpr ⟨sACne, (fun _ h => absurd h List.not_mem_nil)⟩)⟩)⟩)⟩
theorem kTn_readRest_20 : Bok "HerbWaters$Town" prog_11_method_7_code (20, bTn_readRest_20, 26) := ⟨by decide +kernel, (List.forall_mem_cons.mpr ⟨sLA0, (List.forall_mem_cons.mpr ⟨sLA1, (List.forall_mem_cons.mpr ⟨lTn_v110, (List.forall_mem_cons.mpr ⟨sRI, (fun _ h => absurd h List.not_mem_nil)⟩)⟩)⟩)⟩)⟩
theorem kTn_readRest_26 : Bok "HerbWaters$Town" prog_11_method_7_code (26, bTn_readRest_26, 33) := ⟨by decide +kernel, (List.forall_mem_cons.mpr ⟨sLA2, (List.forall_mem_cons.mpr ⟨lTn_t113, (List.forall_mem_cons.mpr ⟨sACne, (fun _ h => absurd h List.not_mem_nil)⟩)⟩)⟩)⟩
theorem kTn_readRest_33 : Bok "HerbWaters$Town" prog_11_method_7_code (33, bTn_readRest_33, 41) := ⟨by decide +kernel, (List.forall_mem_cons.mpr ⟨sLA0, (List.forall_mem_cons.mpr ⟨lTn_g49, (List.forall_mem_cons.mpr ⟨sCm1, (List.forall_mem_cons.mpr ⟨sICeq, (fun _ h => absurd h List.not_mem_nil)⟩)⟩)⟩)⟩)⟩
theorem kTn_readRest_41 : Bok "HerbWaters$Town" prog_11_method_7_code (41, bTn_readRest_41, 47) := ⟨by decide +kernel, (List.forall_mem_cons.mpr ⟨sLA1, (List.forall_mem_cons.mpr ⟨sC4, (List.forall_mem_cons.mpr ⟨lTn_v91, (List.forall_mem_cons.mpr ⟨sRI, (fun _ h => absurd h List.not_mem_nil)⟩)⟩)⟩)⟩)⟩
theorem kTn_readRest_47 : Bok "HerbWaters$Town" prog_11_method_7_code (47, bTn_readRest_47, 54) := ⟨by decide +kernel, (List.forall_mem_cons.mpr ⟨sLA2, (List.forall_mem_cons.mpr ⟨lTn_t116, (List.forall_mem_cons.mpr ⟨sACne, (fun _ h => absurd h List.not_mem_nil)⟩)⟩)⟩)⟩
theorem kTn_readRest_54 : Bok "HerbWaters$Town" prog_11_method_7_code (54, bTn_readRest_54, 63) := ⟨by decide +kernel, (List.forall_mem_cons.mpr ⟨sLA0, (List.forall_mem_cons.mpr ⟨lTn_g46, (List.forall_mem_cons.mpr ⟨sBP, (List.forall_mem_cons.mpr ⟨sIClt, (fun _ h => absurd h List.not_mem_nil)⟩)⟩)⟩)⟩)⟩
theorem kTn_readRest_63 : Bok "HerbWaters$Town" prog_11_method_7_code (63, bTn_readRest_63, 69) := ⟨by decide +kernel, (List.forall_mem_cons.mpr ⟨sLA1, (List.forall_mem_cons.mpr ⟨sC3, (List.forall_mem_cons.mpr ⟨lTn_v91, (List.forall_mem_cons.mpr ⟨sRI, (fun _ h => absurd h List.not_mem_nil)⟩)⟩)⟩)⟩)⟩
theorem kTn_readRest_69 : Bok "HerbWaters$Town" prog_11_method_7_code (69, bTn_readRest_69, 86) := ⟨by decide +kernel, (List.forall_mem_cons.mpr ⟨sLA1, (List.forall_mem_cons.mpr ⟨sC0, (List.forall_mem_cons.mpr ⟨sLA0, (List.forall_mem_cons.mpr ⟨lTn_g42, (List.forall_mem_cons.mpr ⟨sC1, (List.forall_mem_cons.mpr ⟨sSUB, (List.forall_mem_cons.mpr ⟨lTn_v119, (List.forall_mem_cons.mpr ⟨sSI3, (List.forall_mem_cons.mpr ⟨sLI3, (List.forall_mem_cons.mpr ⟨sCm1, (List.forall_mem_cons.mpr ⟨sICne, (fun _ h => absurd h List.not_mem_nil)⟩)⟩)⟩)⟩)⟩)⟩)⟩)⟩)⟩)⟩)⟩)⟩
theorem kTn_readRest_86 : Bok "HerbWaters$Town" prog_11_method_7_code (86, bTn_readRest_86, 88) := ⟨by decide +kernel, (List.forall_mem_cons.mpr ⟨sC0, (List.forall_mem_cons.mpr ⟨sRI, (fun _ h => absurd h List.not_mem_nil)⟩)⟩)⟩
theorem kTn_readRest_88 : Bok "HerbWaters$Town" prog_11_method_7_code (88, bTn_readRest_88, 95) := ⟨by decide +kernel, (List.forall_mem_cons.mpr ⟨sLA2, (List.forall_mem_cons.mpr ⟨lTn_t116, (List.forall_mem_cons.mpr ⟨sACne, (fun _ h => absurd h List.not_mem_nil)⟩)⟩)⟩)⟩
theorem kTn_readRest_95 : Bok "HerbWaters$Town" prog_11_method_7_code (95, bTn_readRest_95, 102) := ⟨by decide +kernel, (List.forall_mem_cons.mpr ⟨sLA0, (List.forall_mem_cons.mpr ⟨sLA1, (List.forall_mem_cons.mpr ⟨sLI3, (List.forall_mem_cons.mpr ⟨lTn_v123, (List.forall_mem_cons.mpr ⟨sRI, (fun _ h => absurd h List.not_mem_nil)⟩)⟩)⟩)⟩)⟩)⟩
theorem kTn_readRest_102 : Bok "HerbWaters$Town" prog_11_method_7_code (102, bTn_readRest_102, 109) := ⟨by decide +kernel, (List.forall_mem_cons.mpr ⟨sLA2, (List.forall_mem_cons.mpr ⟨lTn_t126, (List.forall_mem_cons.mpr ⟨sACne, (fun _ h => absurd h List.not_mem_nil)⟩)⟩)⟩)⟩
theorem kTn_readRest_109 : Bok "HerbWaters$Town" prog_11_method_7_code (109, bTn_readRest_109, 116) := ⟨by decide +kernel, (List.forall_mem_cons.mpr ⟨sLA0, (List.forall_mem_cons.mpr ⟨sLA1, (List.forall_mem_cons.mpr ⟨sLI3, (List.forall_mem_cons.mpr ⟨lTn_v129, (List.forall_mem_cons.mpr ⟨sRI, (fun _ h => absurd h List.not_mem_nil)⟩)⟩)⟩)⟩)⟩)⟩
theorem kTn_readRest_116 : Bok "HerbWaters$Town" prog_11_method_7_code (116, bTn_readRest_116, 124) := ⟨by decide +kernel, (List.forall_mem_cons.mpr ⟨sLA0, (List.forall_mem_cons.mpr ⟨sLA1, (List.forall_mem_cons.mpr ⟨sLA2, (List.forall_mem_cons.mpr ⟨sLI3, (List.forall_mem_cons.mpr ⟨lTn_v132, (List.forall_mem_cons.mpr ⟨sRI, (fun _ h => absurd h List.not_mem_nil)⟩)⟩)⟩)⟩)⟩)⟩)⟩
theorem kTn_readRest : ∀ q ∈ tTn_readRest, Bok "HerbWaters$Town" prog_11_method_7_code q := (List.forall_mem_cons.mpr ⟨kTn_readRest_0, (List.forall_mem_cons.mpr ⟨kTn_readRest_7, (List.forall_mem_cons.mpr ⟨kTn_readRest_13, (List.forall_mem_cons.mpr ⟨kTn_readRest_20, (List.forall_mem_cons.mpr ⟨kTn_readRest_26, (List.forall_mem_cons.mpr ⟨kTn_readRest_33, (List.forall_mem_cons.mpr ⟨kTn_readRest_41, (List.forall_mem_cons.mpr ⟨kTn_readRest_47, (List.forall_mem_cons.mpr ⟨kTn_readRest_54, (List.forall_mem_cons.mpr ⟨kTn_readRest_63, (List.forall_mem_cons.mpr ⟨kTn_readRest_69, (List.forall_mem_cons.mpr ⟨kTn_readRest_86, (List.forall_mem_cons.mpr ⟨kTn_readRest_88, (List.forall_mem_cons.mpr ⟨kTn_readRest_95, (List.forall_mem_cons.mpr ⟨kTn_readRest_102, (List.forall_mem_cons.mpr ⟨kTn_readRest_109, (List.forall_mem_cons.mpr ⟨kTn_readRest_116, (fun _ h => absurd h List.not_mem_nil)⟩)⟩)⟩)⟩)⟩)⟩)⟩)⟩)⟩)⟩)⟩)⟩)⟩)⟩)⟩)⟩)⟩)
theorem rTn_readRest : mTn_readRest.2.2.2 = some .boolean := rfl
theorem lTn_t136 : Snd "HerbWaters$Town" (iGS 136 12) := sGS (gtb_mem 1247 (by decide +kernel) rfl)
theorem lTn_v139 : Snd "HerbWaters$Town" (iCV1 139 9 mTn_partsLeft) := sCV1 _ rfl rfl ok_Tn_partsLeft (gtb_mem 1225 (by decide +kernel) rfl) (gtb_mem 1226 (by decide +kernel) rfl) (gtb_mem 1224 (by decide +kernel) rfl)
theorem lTn_t143 : Snd "HerbWaters$Town" (iGS 143 10) := sGS (gtb_mem 1249 (by decide +kernel) rfl)
theorem lTn_t146 : Snd "HerbWaters$Town" (iGS 146 11) := sGS (gtb_mem 1251 (by decide +kernel) rfl)
def bTn_readNumberOf_0 : List Ir := [iLA2, (iGS 136 12), (iACne (12) 16)]
def bTn_readNumberOf_7 : List Ir := [iLA0, (iGR 24 9 4), iLI3, iC1, iIAST, iC1, iRI]
def bTn_readNumberOf_16 : List Ir := [iLA2, (iGS 113 9), (iACne (7) 27)]
def bTn_readNumberOf_23 : List Ir := [iC1, (iGO (4) 28)]
def bTn_readNumberOf_27 : List Ir := [iC0]
def bTn_readNumberOf_28 : List Ir := [iSI4, iLA2, (iGS 113 9), (iACne (11) 45)]
def bTn_readNumberOf_37 : List Ir := [iLA0, iLI3, (iCV1 139 9 mTn_partsLeft), (iGO (35) 77)]
def bTn_readNumberOf_45 : List Ir := [iLA2, (iGS 143 10), (iACne (15) 64)]
def bTn_readNumberOf_52 : List Ir := [(iBP 8), iLA0, (iGR 27 9 5), iLI3, iIALD, iSUB, (iGO (16) 77)]
def bTn_readNumberOf_64 : List Ir := [iLA2, (iGS 146 11), (iACne (7) 75)]
def bTn_readNumberOf_71 : List Ir := [iC5, (iGO (5) 77)]
def bTn_readNumberOf_75 : List Ir := [(iBP 99)]
def bTn_readNumberOf_77 : List Ir := [iSI5, iLA1, iLI4, iLI5, (iCV2 119 7 mTp_numberIn), iSI6, iLI6, iCm1, (iICne (5) 97)]
def bTn_readNumberOf_95 : List Ir := [iC0, iRI]
def bTn_readNumberOf_97 : List Ir := [iLA2, (iGS 113 9), (iACne (28) 129)]
def bTn_readNumberOf_104 : List Ir := [iLA0, iLI3, (iPI 49 9 12), iLA0, iLI6, (iPI 52 9 13), iLA0, (iGR 27 9 5), iLI3, iDUP2, iIALD, iLI6, iADD, iIAST, (iGO (47) 173)]
def bTn_readNumberOf_129 : List Ir := [iLA2, (iGS 143 10), (iACne (14) 147)]
def bTn_readNumberOf_136 : List Ir := [iLA0, (iGR 18 9 2), iLI3, iLI6, iIAST, (iGO (29) 173)]
def bTn_readNumberOf_147 : List Ir := [iLA2, (iGS 146 11), (iACne (14) 165)]
def bTn_readNumberOf_154 : List Ir := [iLA0, (iGR 21 9 3), iLI3, iLI6, iIAST, (iGO (11) 173)]
def bTn_readNumberOf_165 : List Ir := [iLA0, (iGR 15 9 1), iLI3, iLI6, iIAST]
def bTn_readNumberOf_173 : List Ir := [iC1, iRI]
def tTn_readNumberOf : Tb := [(0, bTn_readNumberOf_0, 7), (7, bTn_readNumberOf_7, 16), (16, bTn_readNumberOf_16, 23), (23, bTn_readNumberOf_23, 27), (27, bTn_readNumberOf_27, 28), (28, bTn_readNumberOf_28, 37), (37, bTn_readNumberOf_37, 45), (45, bTn_readNumberOf_45, 52), (52, bTn_readNumberOf_52, 64), (64, bTn_readNumberOf_64, 71), (71, bTn_readNumberOf_71, 75), (75, bTn_readNumberOf_75, 77), (77, bTn_readNumberOf_77, 95), (95, bTn_readNumberOf_95, 97), (97, bTn_readNumberOf_97, 104), (104, bTn_readNumberOf_104, 129), (129, bTn_readNumberOf_129, 136), (136, bTn_readNumberOf_136, 147), (147, bTn_readNumberOf_147, 154), (154, bTn_readNumberOf_154, 165), (165, bTn_readNumberOf_165, 173), (173, bTn_readNumberOf_173, 175)]
theorem fTn_readNumberOf_0 : tbf tTn_readNumberOf 0 = some (bTn_readNumberOf_0, 7) := rfl
theorem fTn_readNumberOf_7 : tbf tTn_readNumberOf 7 = some (bTn_readNumberOf_7, 16) := rfl
theorem fTn_readNumberOf_16 : tbf tTn_readNumberOf 16 = some (bTn_readNumberOf_16, 23) := rfl
theorem fTn_readNumberOf_23 : tbf tTn_readNumberOf 23 = some (bTn_readNumberOf_23, 27) := rfl
theorem fTn_readNumberOf_27 : tbf tTn_readNumberOf 27 = some (bTn_readNumberOf_27, 28) := rfl
theorem fTn_readNumberOf_28 : tbf tTn_readNumberOf 28 = some (bTn_readNumberOf_28, 37) := rfl
theorem fTn_readNumberOf_37 : tbf tTn_readNumberOf 37 = some (bTn_readNumberOf_37, 45) := rfl
theorem fTn_readNumberOf_45 : tbf tTn_readNumberOf 45 = some (bTn_readNumberOf_45, 52) := rfl
theorem fTn_readNumberOf_52 : tbf tTn_readNumberOf 52 = some (bTn_readNumberOf_52, 64) := rfl
theorem fTn_readNumberOf_64 : tbf tTn_readNumberOf 64 = some (bTn_readNumberOf_64, 71) := rfl
theorem fTn_readNumberOf_71 : tbf tTn_readNumberOf 71 = some (bTn_readNumberOf_71, 75) := rfl
theorem fTn_readNumberOf_75 : tbf tTn_readNumberOf 75 = some (bTn_readNumberOf_75, 77) := rfl
theorem fTn_readNumberOf_77 : tbf tTn_readNumberOf 77 = some (bTn_readNumberOf_77, 95) := rfl
theorem fTn_readNumberOf_95 : tbf tTn_readNumberOf 95 = some (bTn_readNumberOf_95, 97) := rfl
theorem fTn_readNumberOf_97 : tbf tTn_readNumberOf 97 = some (bTn_readNumberOf_97, 104) := rfl
theorem fTn_readNumberOf_104 : tbf tTn_readNumberOf 104 = some (bTn_readNumberOf_104, 129) := rfl
theorem fTn_readNumberOf_129 : tbf tTn_readNumberOf 129 = some (bTn_readNumberOf_129, 136) := rfl
theorem fTn_readNumberOf_136 : tbf tTn_readNumberOf 136 = some (bTn_readNumberOf_136, 147) := rfl
theorem fTn_readNumberOf_147 : tbf tTn_readNumberOf 147 = some (bTn_readNumberOf_147, 154) := rfl
theorem fTn_readNumberOf_154 : tbf tTn_readNumberOf 154 = some (bTn_readNumberOf_154, 165) := rfl
theorem fTn_readNumberOf_165 : tbf tTn_readNumberOf 165 = some (bTn_readNumberOf_165, 173) := rfl
theorem fTn_readNumberOf_173 : tbf tTn_readNumberOf 173 = some (bTn_readNumberOf_173, 175) := rfl
theorem kTn_readNumberOf_0 : Bok "HerbWaters$Town" prog_11_method_8_code (0, bTn_readNumberOf_0, 7) := ⟨by decide +kernel, (List.forall_mem_cons.mpr ⟨sLA2, (List.forall_mem_cons.mpr ⟨lTn_t136, (List.forall_mem_cons.mpr ⟨sACne, (fun _ h => absurd h List.not_mem_nil)⟩)⟩)⟩)⟩
theorem kTn_readNumberOf_7 : Bok "HerbWaters$Town" prog_11_method_8_code (7, bTn_readNumberOf_7, 16) := ⟨by decide +kernel, (List.forall_mem_cons.mpr ⟨sLA0, (List.forall_mem_cons.mpr ⟨lTn_g24, (List.forall_mem_cons.mpr ⟨sLI3, (List.forall_mem_cons.mpr ⟨sC1, (List.forall_mem_cons.mpr ⟨sIAST, (List.forall_mem_cons.mpr ⟨sC1, (List.forall_mem_cons.mpr ⟨sRI, (fun _ h => absurd h List.not_mem_nil)⟩)⟩)⟩)⟩)⟩)⟩)⟩)⟩
theorem kTn_readNumberOf_16 : Bok "HerbWaters$Town" prog_11_method_8_code (16, bTn_readNumberOf_16, 23) := ⟨by decide +kernel, (List.forall_mem_cons.mpr ⟨sLA2, (List.forall_mem_cons.mpr ⟨lTn_t113, (List.forall_mem_cons.mpr ⟨sACne, (fun _ h => absurd h List.not_mem_nil)⟩)⟩)⟩)⟩
theorem kTn_readNumberOf_23 : Bok "HerbWaters$Town" prog_11_method_8_code (23, bTn_readNumberOf_23, 27) := ⟨by decide +kernel, (List.forall_mem_cons.mpr ⟨sC1, (List.forall_mem_cons.mpr ⟨sGO, (fun _ h => absurd h List.not_mem_nil)⟩)⟩)⟩
theorem kTn_readNumberOf_27 : Bok "HerbWaters$Town" prog_11_method_8_code (27, bTn_readNumberOf_27, 28) := ⟨by decide +kernel, (List.forall_mem_cons.mpr ⟨sC0, (fun _ h => absurd h List.not_mem_nil)⟩)⟩
theorem kTn_readNumberOf_28 : Bok "HerbWaters$Town" prog_11_method_8_code (28, bTn_readNumberOf_28, 37) := ⟨by decide +kernel, (List.forall_mem_cons.mpr ⟨sSI4, (List.forall_mem_cons.mpr ⟨sLA2, (List.forall_mem_cons.mpr ⟨lTn_t113, (List.forall_mem_cons.mpr ⟨sACne, (fun _ h => absurd h List.not_mem_nil)⟩)⟩)⟩)⟩)⟩
theorem kTn_readNumberOf_37 : Bok "HerbWaters$Town" prog_11_method_8_code (37, bTn_readNumberOf_37, 45) := ⟨by decide +kernel, (List.forall_mem_cons.mpr ⟨sLA0, (List.forall_mem_cons.mpr ⟨sLI3, (List.forall_mem_cons.mpr ⟨lTn_v139, (List.forall_mem_cons.mpr ⟨sGO, (fun _ h => absurd h List.not_mem_nil)⟩)⟩)⟩)⟩)⟩
theorem kTn_readNumberOf_45 : Bok "HerbWaters$Town" prog_11_method_8_code (45, bTn_readNumberOf_45, 52) := ⟨by decide +kernel, (List.forall_mem_cons.mpr ⟨sLA2, (List.forall_mem_cons.mpr ⟨lTn_t143, (List.forall_mem_cons.mpr ⟨sACne, (fun _ h => absurd h List.not_mem_nil)⟩)⟩)⟩)⟩
theorem kTn_readNumberOf_52 : Bok "HerbWaters$Town" prog_11_method_8_code (52, bTn_readNumberOf_52, 64) := ⟨by decide +kernel, (List.forall_mem_cons.mpr ⟨sBP, (List.forall_mem_cons.mpr ⟨sLA0, (List.forall_mem_cons.mpr ⟨lTn_g27, (List.forall_mem_cons.mpr ⟨sLI3, (List.forall_mem_cons.mpr ⟨sIALD, (List.forall_mem_cons.mpr ⟨sSUB, (List.forall_mem_cons.mpr ⟨sGO, (fun _ h => absurd h List.not_mem_nil)⟩)⟩)⟩)⟩)⟩)⟩)⟩)⟩
theorem kTn_readNumberOf_64 : Bok "HerbWaters$Town" prog_11_method_8_code (64, bTn_readNumberOf_64, 71) := ⟨by decide +kernel, (List.forall_mem_cons.mpr ⟨sLA2, (List.forall_mem_cons.mpr ⟨lTn_t146, (List.forall_mem_cons.mpr ⟨sACne, (fun _ h => absurd h List.not_mem_nil)⟩)⟩)⟩)⟩
theorem kTn_readNumberOf_71 : Bok "HerbWaters$Town" prog_11_method_8_code (71, bTn_readNumberOf_71, 75) := ⟨by decide +kernel, (List.forall_mem_cons.mpr ⟨sC5, (List.forall_mem_cons.mpr ⟨sGO, (fun _ h => absurd h List.not_mem_nil)⟩)⟩)⟩
theorem kTn_readNumberOf_75 : Bok "HerbWaters$Town" prog_11_method_8_code (75, bTn_readNumberOf_75, 77) := ⟨by decide +kernel, (List.forall_mem_cons.mpr ⟨sBP, (fun _ h => absurd h List.not_mem_nil)⟩)⟩
theorem kTn_readNumberOf_77 : Bok "HerbWaters$Town" prog_11_method_8_code (77, bTn_readNumberOf_77, 95) := ⟨by decide +kernel, (List.forall_mem_cons.mpr ⟨sSI5, (List.forall_mem_cons.mpr ⟨sLA1, (List.forall_mem_cons.mpr ⟨sLI4, (List.forall_mem_cons.mpr ⟨sLI5, (List.forall_mem_cons.mpr ⟨lTn_v119, (List.forall_mem_cons.mpr ⟨sSI6, (List.forall_mem_cons.mpr ⟨sLI6, (List.forall_mem_cons.mpr ⟨sCm1, (List.forall_mem_cons.mpr ⟨sICne, (fun _ h => absurd h List.not_mem_nil)⟩)⟩)⟩)⟩)⟩)⟩)⟩)⟩)⟩)⟩
theorem kTn_readNumberOf_95 : Bok "HerbWaters$Town" prog_11_method_8_code (95, bTn_readNumberOf_95, 97) := ⟨by decide +kernel, (List.forall_mem_cons.mpr ⟨sC0, (List.forall_mem_cons.mpr ⟨sRI, (fun _ h => absurd h List.not_mem_nil)⟩)⟩)⟩
theorem kTn_readNumberOf_97 : Bok "HerbWaters$Town" prog_11_method_8_code (97, bTn_readNumberOf_97, 104) := ⟨by decide +kernel, (List.forall_mem_cons.mpr ⟨sLA2, (List.forall_mem_cons.mpr ⟨lTn_t113, (List.forall_mem_cons.mpr ⟨sACne, (fun _ h => absurd h List.not_mem_nil)⟩)⟩)⟩)⟩
theorem kTn_readNumberOf_104 : Bok "HerbWaters$Town" prog_11_method_8_code (104, bTn_readNumberOf_104, 129) := ⟨by decide +kernel, (List.forall_mem_cons.mpr ⟨sLA0, (List.forall_mem_cons.mpr ⟨sLI3, (List.forall_mem_cons.mpr ⟨lTn_p49, (List.forall_mem_cons.mpr ⟨sLA0, (List.forall_mem_cons.mpr ⟨sLI6, (List.forall_mem_cons.mpr ⟨lTn_p52, (List.forall_mem_cons.mpr ⟨sLA0, (List.forall_mem_cons.mpr ⟨lTn_g27, (List.forall_mem_cons.mpr ⟨sLI3, (List.forall_mem_cons.mpr ⟨sDUP2, (List.forall_mem_cons.mpr ⟨sIALD, (List.forall_mem_cons.mpr ⟨sLI6, (List.forall_mem_cons.mpr ⟨sADD, (List.forall_mem_cons.mpr ⟨sIAST, (List.forall_mem_cons.mpr ⟨sGO, (fun _ h => absurd h List.not_mem_nil)⟩)⟩)⟩)⟩)⟩)⟩)⟩)⟩)⟩)⟩)⟩)⟩)⟩)⟩)⟩)⟩
theorem kTn_readNumberOf_129 : Bok "HerbWaters$Town" prog_11_method_8_code (129, bTn_readNumberOf_129, 136) := ⟨by decide +kernel, (List.forall_mem_cons.mpr ⟨sLA2, (List.forall_mem_cons.mpr ⟨lTn_t143, (List.forall_mem_cons.mpr ⟨sACne, (fun _ h => absurd h List.not_mem_nil)⟩)⟩)⟩)⟩
theorem kTn_readNumberOf_136 : Bok "HerbWaters$Town" prog_11_method_8_code (136, bTn_readNumberOf_136, 147) := ⟨by decide +kernel, (List.forall_mem_cons.mpr ⟨sLA0, (List.forall_mem_cons.mpr ⟨lTn_g18, (List.forall_mem_cons.mpr ⟨sLI3, (List.forall_mem_cons.mpr ⟨sLI6, (List.forall_mem_cons.mpr ⟨sIAST, (List.forall_mem_cons.mpr ⟨sGO, (fun _ h => absurd h List.not_mem_nil)⟩)⟩)⟩)⟩)⟩)⟩)⟩
theorem kTn_readNumberOf_147 : Bok "HerbWaters$Town" prog_11_method_8_code (147, bTn_readNumberOf_147, 154) := ⟨by decide +kernel, (List.forall_mem_cons.mpr ⟨sLA2, (List.forall_mem_cons.mpr ⟨lTn_t146, (List.forall_mem_cons.mpr ⟨sACne, (fun _ h => absurd h List.not_mem_nil)⟩)⟩)⟩)⟩
theorem kTn_readNumberOf_154 : Bok "HerbWaters$Town" prog_11_method_8_code (154, bTn_readNumberOf_154, 165) := ⟨by decide +kernel, (List.forall_mem_cons.mpr ⟨sLA0, (List.forall_mem_cons.mpr ⟨lTn_g21, (List.forall_mem_cons.mpr ⟨sLI3, (List.forall_mem_cons.mpr ⟨sLI6, (List.forall_mem_cons.mpr ⟨sIAST, (List.forall_mem_cons.mpr ⟨sGO, (fun _ h => absurd h List.not_mem_nil)⟩)⟩)⟩)⟩)⟩)⟩)⟩
theorem kTn_readNumberOf_165 : Bok "HerbWaters$Town" prog_11_method_8_code (165, bTn_readNumberOf_165, 173) := ⟨by decide +kernel, (List.forall_mem_cons.mpr ⟨sLA0, (List.forall_mem_cons.mpr ⟨lTn_g15, (List.forall_mem_cons.mpr ⟨sLI3, (List.forall_mem_cons.mpr ⟨sLI6, (List.forall_mem_cons.mpr ⟨sIAST, (fun _ h => absurd h List.not_mem_nil)⟩)⟩)⟩)⟩)⟩)⟩
theorem kTn_readNumberOf_173 : Bok "HerbWaters$Town" prog_11_method_8_code (173, bTn_readNumberOf_173, 175) := ⟨by decide +kernel, (List.forall_mem_cons.mpr ⟨sC1, (List.forall_mem_cons.mpr ⟨sRI, (fun _ h => absurd h List.not_mem_nil)⟩)⟩)⟩
theorem kTn_readNumberOf : ∀ q ∈ tTn_readNumberOf, Bok "HerbWaters$Town" prog_11_method_8_code q := (List.forall_mem_cons.mpr ⟨kTn_readNumberOf_0, (List.forall_mem_cons.mpr ⟨kTn_readNumberOf_7, (List.forall_mem_cons.mpr ⟨kTn_readNumberOf_16, (List.forall_mem_cons.mpr ⟨kTn_readNumberOf_23, (List.forall_mem_cons.mpr ⟨kTn_readNumberOf_27, (List.forall_mem_cons.mpr ⟨kTn_readNumberOf_28, (List.forall_mem_cons.mpr ⟨kTn_readNumberOf_37, (List.forall_mem_cons.mpr ⟨kTn_readNumberOf_45, (List.forall_mem_cons.mpr ⟨kTn_readNumberOf_52, (List.forall_mem_cons.mpr ⟨kTn_readNumberOf_64, (List.forall_mem_cons.mpr ⟨kTn_readNumberOf_71, (List.forall_mem_cons.mpr ⟨kTn_readNumberOf_75, (List.forall_mem_cons.mpr ⟨kTn_readNumberOf_77, (List.forall_mem_cons.mpr ⟨kTn_readNumberOf_95, (List.forall_mem_cons.mpr ⟨kTn_readNumberOf_97, (List.forall_mem_cons.mpr ⟨kTn_readNumberOf_104, (List.forall_mem_cons.mpr ⟨kTn_readNumberOf_129, (List.forall_mem_cons.mpr ⟨kTn_readNumberOf_136, (List.forall_mem_cons.mpr ⟨kTn_readNumberOf_147, (List.forall_mem_cons.mpr ⟨kTn_readNumberOf_154, (List.forall_mem_cons.mpr ⟨kTn_readNumberOf_165, (List.forall_mem_cons.mpr ⟨kTn_readNumberOf_173, (fun _ h => absurd h List.not_mem_nil)⟩)⟩)⟩)⟩)⟩)⟩)⟩)⟩)⟩)⟩)⟩)⟩)⟩)⟩)⟩)⟩)⟩)⟩)⟩)⟩)⟩)⟩)
theorem rTn_readNumberOf : mTn_readNumberOf.2.2.2 = some .boolean := rfl
theorem lTn_g9 : Snd "HerbWaters$Town" (iGR 9 9 0) := sGR _ rfl (gtb_mem 176 (by decide +kernel) rfl)
def bTn_readVillage_0 : List Ir := [iLA0, (iGI 42 9 10), (iBP 9), (iIClt (9) 15)]
def bTn_readVillage_9 : List Ir := [iLA1, iC3, (iCV1 91 7 mTp_fails), iRI]
def bTn_readVillage_15 : List Ir := [iLA1, iC0, (iBP 99), (iCV2 119 7 mTp_numberIn), iSI2, iLI2, iCm1, (iICne (5) 30)]
def bTn_readVillage_28 : List Ir := [iC0, iRI]
def bTn_readVillage_30 : List Ir := [iLA0, (iGR 9 9 0), iLA0, (iGI 42 9 10), iLI2, iIAST, iLA0, iDUPr, (iGI 42 9 10), iC1, iADD, (iPI 42 9 10), iC1, iRI]
def tTn_readVillage : Tb := [(0, bTn_readVillage_0, 9), (9, bTn_readVillage_9, 15), (15, bTn_readVillage_15, 28), (28, bTn_readVillage_28, 30), (30, bTn_readVillage_30, 52)]
theorem fTn_readVillage_0 : tbf tTn_readVillage 0 = some (bTn_readVillage_0, 9) := rfl
theorem fTn_readVillage_9 : tbf tTn_readVillage 9 = some (bTn_readVillage_9, 15) := rfl
theorem fTn_readVillage_15 : tbf tTn_readVillage 15 = some (bTn_readVillage_15, 28) := rfl
theorem fTn_readVillage_28 : tbf tTn_readVillage 28 = some (bTn_readVillage_28, 30) := rfl
theorem fTn_readVillage_30 : tbf tTn_readVillage 30 = some (bTn_readVillage_30, 52) := rfl
theorem kTn_readVillage_0 : Bok "HerbWaters$Town" prog_11_method_9_code (0, bTn_readVillage_0, 9) := ⟨by decide +kernel, (List.forall_mem_cons.mpr ⟨sLA0, (List.forall_mem_cons.mpr ⟨lTn_g42, (List.forall_mem_cons.mpr ⟨sBP, (List.forall_mem_cons.mpr ⟨sIClt, (fun _ h => absurd h List.not_mem_nil)⟩)⟩)⟩)⟩)⟩
theorem kTn_readVillage_9 : Bok "HerbWaters$Town" prog_11_method_9_code (9, bTn_readVillage_9, 15) := ⟨by decide +kernel, (List.forall_mem_cons.mpr ⟨sLA1, (List.forall_mem_cons.mpr ⟨sC3, (List.forall_mem_cons.mpr ⟨lTn_v91, (List.forall_mem_cons.mpr ⟨sRI, (fun _ h => absurd h List.not_mem_nil)⟩)⟩)⟩)⟩)⟩
theorem kTn_readVillage_15 : Bok "HerbWaters$Town" prog_11_method_9_code (15, bTn_readVillage_15, 28) := ⟨by decide +kernel, (List.forall_mem_cons.mpr ⟨sLA1, (List.forall_mem_cons.mpr ⟨sC0, (List.forall_mem_cons.mpr ⟨sBP, (List.forall_mem_cons.mpr ⟨lTn_v119, (List.forall_mem_cons.mpr ⟨sSI2, (List.forall_mem_cons.mpr ⟨sLI2, (List.forall_mem_cons.mpr ⟨sCm1, (List.forall_mem_cons.mpr ⟨sICne, (fun _ h => absurd h List.not_mem_nil)⟩)⟩)⟩)⟩)⟩)⟩)⟩)⟩)⟩
theorem kTn_readVillage_28 : Bok "HerbWaters$Town" prog_11_method_9_code (28, bTn_readVillage_28, 30) := ⟨by decide +kernel, (List.forall_mem_cons.mpr ⟨sC0, (List.forall_mem_cons.mpr ⟨sRI, (fun _ h => absurd h List.not_mem_nil)⟩)⟩)⟩
theorem kTn_readVillage_30 : Bok "HerbWaters$Town" prog_11_method_9_code (30, bTn_readVillage_30, 52) := ⟨by decide +kernel, (List.forall_mem_cons.mpr ⟨sLA0, (List.forall_mem_cons.mpr ⟨lTn_g9, (List.forall_mem_cons.mpr ⟨sLA0, (List.forall_mem_cons.mpr ⟨lTn_g42, (List.forall_mem_cons.mpr ⟨sLI2, (List.forall_mem_cons.mpr ⟨sIAST, (List.forall_mem_cons.mpr ⟨sLA0, (List.forall_mem_cons.mpr ⟨sDUPr, (List.forall_mem_cons.mpr ⟨lTn_g42, (List.forall_mem_cons.mpr ⟨sC1, (List.forall_mem_cons.mpr ⟨sADD, (List.forall_mem_cons.mpr ⟨lTn_p42, (List.forall_mem_cons.mpr ⟨sC1, (List.forall_mem_cons.mpr ⟨sRI, (fun _ h => absurd h List.not_mem_nil)⟩)⟩)⟩)⟩)⟩)⟩)⟩)⟩)⟩)⟩)⟩)⟩)⟩)⟩)⟩
theorem kTn_readVillage : ∀ q ∈ tTn_readVillage, Bok "HerbWaters$Town" prog_11_method_9_code q := (List.forall_mem_cons.mpr ⟨kTn_readVillage_0, (List.forall_mem_cons.mpr ⟨kTn_readVillage_9, (List.forall_mem_cons.mpr ⟨kTn_readVillage_15, (List.forall_mem_cons.mpr ⟨kTn_readVillage_28, (List.forall_mem_cons.mpr ⟨kTn_readVillage_30, (fun _ h => absurd h List.not_mem_nil)⟩)⟩)⟩)⟩)⟩)
theorem rTn_readVillage : mTn_readVillage.2.2.2 = some .boolean := rfl
theorem lTn_g33 : Snd "HerbWaters$Town" (iGR 33 9 7) := sGR _ rfl (gtb_mem 194 (by decide +kernel) rfl)
theorem lTn_g36 : Snd "HerbWaters$Town" (iGR 36 9 8) := sGR _ rfl (gtb_mem 196 (by decide +kernel) rfl)
theorem lTn_g39 : Snd "HerbWaters$Town" (iGR 39 9 9) := sGR _ rfl (gtb_mem 198 (by decide +kernel) rfl)
def bTn_readChannel_0 : List Ir := [iLA1, iC0, iLA0, (iGI 42 9 10), iC1, iSUB, (iCV2 119 7 mTp_numberIn), iSI3, iLI3, iCm1, (iICne (5) 19)]
def bTn_readChannel_17 : List Ir := [iC0, iRI]
def bTn_readChannel_19 : List Ir := [iLA1, iC1, iLA0, iLI2, (iCV1 139 9 mTn_partsLeft), (iCV2 119 7 mTp_numberIn), iSI4, iLI4, iCm1, (iICne (5) 39)]
def bTn_readChannel_37 : List Ir := [iC0, iRI]
def bTn_readChannel_39 : List Ir := [iLA0, (iGR 33 9 7), iLA0, (iGI 46 9 11), iLI2, iIAST, iLA0, (iGR 36 9 8), iLA0, (iGI 46 9 11), iLI3, iIAST, iLA0, (iGR 39 9 9), iLA0, (iGI 46 9 11), iLI4, iIAST, iLA0, iDUPr, (iGI 46 9 11), iC1, iADD, (iPI 46 9 11), iLA0, (iGR 27 9 5), iLI2, iDUP2, iIALD, iLI4, iADD, iIAST, iC1, iRI]
def tTn_readChannel : Tb := [(0, bTn_readChannel_0, 17), (17, bTn_readChannel_17, 19), (19, bTn_readChannel_19, 37), (37, bTn_readChannel_37, 39), (39, bTn_readChannel_39, 93)]
theorem fTn_readChannel_0 : tbf tTn_readChannel 0 = some (bTn_readChannel_0, 17) := rfl
theorem fTn_readChannel_17 : tbf tTn_readChannel 17 = some (bTn_readChannel_17, 19) := rfl
theorem fTn_readChannel_19 : tbf tTn_readChannel 19 = some (bTn_readChannel_19, 37) := rfl
theorem fTn_readChannel_37 : tbf tTn_readChannel 37 = some (bTn_readChannel_37, 39) := rfl
theorem fTn_readChannel_39 : tbf tTn_readChannel 39 = some (bTn_readChannel_39, 93) := rfl
theorem kTn_readChannel_0 : Bok "HerbWaters$Town" prog_11_method_10_code (0, bTn_readChannel_0, 17) := ⟨by decide +kernel, (List.forall_mem_cons.mpr ⟨sLA1, (List.forall_mem_cons.mpr ⟨sC0, (List.forall_mem_cons.mpr ⟨sLA0, (List.forall_mem_cons.mpr ⟨lTn_g42, (List.forall_mem_cons.mpr ⟨sC1, (List.forall_mem_cons.mpr ⟨sSUB, (List.forall_mem_cons.mpr ⟨lTn_v119, (List.forall_mem_cons.mpr ⟨sSI3, (List.forall_mem_cons.mpr ⟨sLI3, (List.forall_mem_cons.mpr ⟨sCm1, (List.forall_mem_cons.mpr ⟨sICne, (fun _ h => absurd h List.not_mem_nil)⟩)⟩)⟩)⟩)⟩)⟩)⟩)⟩)⟩)⟩)⟩)⟩
theorem kTn_readChannel_17 : Bok "HerbWaters$Town" prog_11_method_10_code (17, bTn_readChannel_17, 19) := ⟨by decide +kernel, (List.forall_mem_cons.mpr ⟨sC0, (List.forall_mem_cons.mpr ⟨sRI, (fun _ h => absurd h List.not_mem_nil)⟩)⟩)⟩
theorem kTn_readChannel_19 : Bok "HerbWaters$Town" prog_11_method_10_code (19, bTn_readChannel_19, 37) := ⟨by decide +kernel, (List.forall_mem_cons.mpr ⟨sLA1, (List.forall_mem_cons.mpr ⟨sC1, (List.forall_mem_cons.mpr ⟨sLA0, (List.forall_mem_cons.mpr ⟨sLI2, (List.forall_mem_cons.mpr ⟨lTn_v139, (List.forall_mem_cons.mpr ⟨lTn_v119, (List.forall_mem_cons.mpr ⟨sSI4, (List.forall_mem_cons.mpr ⟨sLI4, (List.forall_mem_cons.mpr ⟨sCm1, (List.forall_mem_cons.mpr ⟨sICne, (fun _ h => absurd h List.not_mem_nil)⟩)⟩)⟩)⟩)⟩)⟩)⟩)⟩)⟩)⟩)⟩
theorem kTn_readChannel_37 : Bok "HerbWaters$Town" prog_11_method_10_code (37, bTn_readChannel_37, 39) := ⟨by decide +kernel, (List.forall_mem_cons.mpr ⟨sC0, (List.forall_mem_cons.mpr ⟨sRI, (fun _ h => absurd h List.not_mem_nil)⟩)⟩)⟩
theorem kTn_readChannel_39 : Bok "HerbWaters$Town" prog_11_method_10_code (39, bTn_readChannel_39, 93) := ⟨by decide +kernel, (List.forall_mem_cons.mpr ⟨sLA0, (List.forall_mem_cons.mpr ⟨lTn_g33, (List.forall_mem_cons.mpr ⟨sLA0, (List.forall_mem_cons.mpr ⟨lTn_g46, (List.forall_mem_cons.mpr ⟨sLI2, (List.forall_mem_cons.mpr ⟨sIAST, (List.forall_mem_cons.mpr ⟨sLA0, (List.forall_mem_cons.mpr ⟨lTn_g36, (List.forall_mem_cons.mpr ⟨sLA0, (List.forall_mem_cons.mpr ⟨lTn_g46, (List.forall_mem_cons.mpr ⟨sLI3, (List.forall_mem_cons.mpr ⟨sIAST, (List.forall_mem_cons.mpr ⟨sLA0, (List.forall_mem_cons.mpr ⟨lTn_g39, (List.forall_mem_cons.mpr ⟨sLA0, (List.forall_mem_cons.mpr ⟨lTn_g46, (List.forall_mem_cons.mpr ⟨sLI4, (List.forall_mem_cons.mpr ⟨sIAST, (List.forall_mem_cons.mpr ⟨sLA0, (List.forall_mem_cons.mpr ⟨sDUPr, (List.forall_mem_cons.mpr ⟨lTn_g46, (List.forall_mem_cons.mpr ⟨sC1, (List.forall_mem_cons.mpr ⟨sADD, (List.forall_mem_cons.mpr ⟨lTn_p46, (List.forall_mem_cons.mpr ⟨sLA0, (List.forall_mem_cons.mpr ⟨lTn_g27, (List.forall_mem_cons.mpr ⟨sLI2, (List.forall_mem_cons.mpr ⟨sDUP2, (List.forall_mem_cons.mpr ⟨sIALD, (List.forall_mem_cons.mpr ⟨sLI4, (List.forall_mem_cons.mpr ⟨sADD, (List.forall_mem_cons.mpr ⟨sIAST, (List.forall_mem_cons.mpr ⟨sC1, (List.forall_mem_cons.mpr ⟨sRI, (fun _ h => absurd h List.not_mem_nil)⟩)⟩)⟩)⟩)⟩)⟩)⟩)⟩)⟩)⟩)⟩)⟩)⟩)⟩)⟩)⟩)⟩)⟩)⟩)⟩)⟩)⟩)⟩)⟩)⟩)⟩)⟩)⟩)⟩)⟩)⟩)⟩)⟩)⟩)⟩
theorem kTn_readChannel : ∀ q ∈ tTn_readChannel, Bok "HerbWaters$Town" prog_11_method_10_code q := (List.forall_mem_cons.mpr ⟨kTn_readChannel_0, (List.forall_mem_cons.mpr ⟨kTn_readChannel_17, (List.forall_mem_cons.mpr ⟨kTn_readChannel_19, (List.forall_mem_cons.mpr ⟨kTn_readChannel_37, (List.forall_mem_cons.mpr ⟨kTn_readChannel_39, (fun _ h => absurd h List.not_mem_nil)⟩)⟩)⟩)⟩)⟩)
theorem rTn_readChannel : mTn_readChannel.2.2.2 = some .boolean := rfl
theorem lTn_v149 : Snd "HerbWaters$Town" (iCV0 149 7 mTp_nextHerb) := sCV0 _ rfl rfl ok_Tp_nextHerb (gtb_mem 1235 (by decide +kernel) rfl) (gtb_mem 1236 (by decide +kernel) rfl) (gtb_mem 1234 (by decide +kernel) rfl)
def bTn_readFilter_0 : List Ir := [iLA1, (iCV0 149 7 mTp_nextHerb), iSI3, iLI3, iCm1, (iICne (5) 12)]
def bTn_readFilter_10 : List Ir := [iC0, iRI]
def bTn_readFilter_12 : List Ir := [iLA1, iC0, (iBP 99), (iCV2 119 7 mTp_numberIn), iSI4, iLI4, iCm1, (iICne (5) 29)]
def bTn_readFilter_27 : List Ir := [iC0, iRI]
def bTn_readFilter_29 : List Ir := [iLA0, (iGR 30 9 6), iLI2, iC3, iMUL, iLI3, iADD, iLI4, iIAST, iC1, iRI]
def tTn_readFilter : Tb := [(0, bTn_readFilter_0, 10), (10, bTn_readFilter_10, 12), (12, bTn_readFilter_12, 27), (27, bTn_readFilter_27, 29), (29, bTn_readFilter_29, 43)]
theorem fTn_readFilter_0 : tbf tTn_readFilter 0 = some (bTn_readFilter_0, 10) := rfl
theorem fTn_readFilter_10 : tbf tTn_readFilter 10 = some (bTn_readFilter_10, 12) := rfl
theorem fTn_readFilter_12 : tbf tTn_readFilter 12 = some (bTn_readFilter_12, 27) := rfl
theorem fTn_readFilter_27 : tbf tTn_readFilter 27 = some (bTn_readFilter_27, 29) := rfl
theorem fTn_readFilter_29 : tbf tTn_readFilter 29 = some (bTn_readFilter_29, 43) := rfl
theorem kTn_readFilter_0 : Bok "HerbWaters$Town" prog_11_method_11_code (0, bTn_readFilter_0, 10) := ⟨by decide +kernel, (List.forall_mem_cons.mpr ⟨sLA1, (List.forall_mem_cons.mpr ⟨lTn_v149, (List.forall_mem_cons.mpr ⟨sSI3, (List.forall_mem_cons.mpr ⟨sLI3, (List.forall_mem_cons.mpr ⟨sCm1, (List.forall_mem_cons.mpr ⟨sICne, (fun _ h => absurd h List.not_mem_nil)⟩)⟩)⟩)⟩)⟩)⟩)⟩
theorem kTn_readFilter_10 : Bok "HerbWaters$Town" prog_11_method_11_code (10, bTn_readFilter_10, 12) := ⟨by decide +kernel, (List.forall_mem_cons.mpr ⟨sC0, (List.forall_mem_cons.mpr ⟨sRI, (fun _ h => absurd h List.not_mem_nil)⟩)⟩)⟩
theorem kTn_readFilter_12 : Bok "HerbWaters$Town" prog_11_method_11_code (12, bTn_readFilter_12, 27) := ⟨by decide +kernel, (List.forall_mem_cons.mpr ⟨sLA1, (List.forall_mem_cons.mpr ⟨sC0, (List.forall_mem_cons.mpr ⟨sBP, (List.forall_mem_cons.mpr ⟨lTn_v119, (List.forall_mem_cons.mpr ⟨sSI4, (List.forall_mem_cons.mpr ⟨sLI4, (List.forall_mem_cons.mpr ⟨sCm1, (List.forall_mem_cons.mpr ⟨sICne, (fun _ h => absurd h List.not_mem_nil)⟩)⟩)⟩)⟩)⟩)⟩)⟩)⟩)⟩
theorem kTn_readFilter_27 : Bok "HerbWaters$Town" prog_11_method_11_code (27, bTn_readFilter_27, 29) := ⟨by decide +kernel, (List.forall_mem_cons.mpr ⟨sC0, (List.forall_mem_cons.mpr ⟨sRI, (fun _ h => absurd h List.not_mem_nil)⟩)⟩)⟩
theorem kTn_readFilter_29 : Bok "HerbWaters$Town" prog_11_method_11_code (29, bTn_readFilter_29, 43) := ⟨by decide +kernel, (List.forall_mem_cons.mpr ⟨sLA0, (List.forall_mem_cons.mpr ⟨lTn_g30, (List.forall_mem_cons.mpr ⟨sLI2, (List.forall_mem_cons.mpr ⟨sC3, (List.forall_mem_cons.mpr ⟨sMUL, (List.forall_mem_cons.mpr ⟨sLI3, (List.forall_mem_cons.mpr ⟨sADD, (List.forall_mem_cons.mpr ⟨sLI4, (List.forall_mem_cons.mpr ⟨sIAST, (List.forall_mem_cons.mpr ⟨sC1, (List.forall_mem_cons.mpr ⟨sRI, (fun _ h => absurd h List.not_mem_nil)⟩)⟩)⟩)⟩)⟩)⟩)⟩)⟩)⟩)⟩)⟩)⟩
theorem kTn_readFilter : ∀ q ∈ tTn_readFilter, Bok "HerbWaters$Town" prog_11_method_11_code q := (List.forall_mem_cons.mpr ⟨kTn_readFilter_0, (List.forall_mem_cons.mpr ⟨kTn_readFilter_10, (List.forall_mem_cons.mpr ⟨kTn_readFilter_12, (List.forall_mem_cons.mpr ⟨kTn_readFilter_27, (List.forall_mem_cons.mpr ⟨kTn_readFilter_29, (fun _ h => absurd h List.not_mem_nil)⟩)⟩)⟩)⟩)⟩)
theorem rTn_readFilter : mTn_readFilter.2.2.2 = some .boolean := rfl
def bTn_readFeast_0 : List Ir := [iLA1, iC0, (iBP 60), (iCV2 119 7 mTp_numberIn), iSI2, iLI2, iCm1, (iICne (5) 15)]
def bTn_readFeast_13 : List Ir := [iC0, iRI]
def bTn_readFeast_15 : List Ir := [iLA0, iLI2, (iPI 55 9 14), iC1, iRI]
def tTn_readFeast : Tb := [(0, bTn_readFeast_0, 13), (13, bTn_readFeast_13, 15), (15, bTn_readFeast_15, 22)]
theorem fTn_readFeast_0 : tbf tTn_readFeast 0 = some (bTn_readFeast_0, 13) := rfl
theorem fTn_readFeast_13 : tbf tTn_readFeast 13 = some (bTn_readFeast_13, 15) := rfl
theorem fTn_readFeast_15 : tbf tTn_readFeast 15 = some (bTn_readFeast_15, 22) := rfl
theorem kTn_readFeast_0 : Bok "HerbWaters$Town" prog_11_method_12_code (0, bTn_readFeast_0, 13) := ⟨by decide +kernel, (List.forall_mem_cons.mpr ⟨sLA1, (List.forall_mem_cons.mpr ⟨sC0, (List.forall_mem_cons.mpr ⟨sBP, (List.forall_mem_cons.mpr ⟨lTn_v119, (List.forall_mem_cons.mpr ⟨sSI2, (List.forall_mem_cons.mpr ⟨sLI2, (List.forall_mem_cons.mpr ⟨sCm1, (List.forall_mem_cons.mpr ⟨sICne, (fun _ h => absurd h List.not_mem_nil)⟩)⟩)⟩)⟩)⟩)⟩)⟩)⟩)⟩
theorem kTn_readFeast_13 : Bok "HerbWaters$Town" prog_11_method_12_code (13, bTn_readFeast_13, 15) := ⟨by decide +kernel, (List.forall_mem_cons.mpr ⟨sC0, (List.forall_mem_cons.mpr ⟨sRI, (fun _ h => absurd h List.not_mem_nil)⟩)⟩)⟩
theorem kTn_readFeast_15 : Bok "HerbWaters$Town" prog_11_method_12_code (15, bTn_readFeast_15, 22) := ⟨by decide +kernel, (List.forall_mem_cons.mpr ⟨sLA0, (List.forall_mem_cons.mpr ⟨sLI2, (List.forall_mem_cons.mpr ⟨lTn_p55, (List.forall_mem_cons.mpr ⟨sC1, (List.forall_mem_cons.mpr ⟨sRI, (fun _ h => absurd h List.not_mem_nil)⟩)⟩)⟩)⟩)⟩)⟩
theorem kTn_readFeast : ∀ q ∈ tTn_readFeast, Bok "HerbWaters$Town" prog_11_method_12_code q := (List.forall_mem_cons.mpr ⟨kTn_readFeast_0, (List.forall_mem_cons.mpr ⟨kTn_readFeast_13, (List.forall_mem_cons.mpr ⟨kTn_readFeast_15, (fun _ h => absurd h List.not_mem_nil)⟩)⟩)⟩)
theorem rTn_readFeast : mTn_readFeast.2.2.2 = some .boolean := rfl
def mOp_clear : Mt := (⟨"HerbWaters$Opinion", "clear", "()V"⟩, prog_7_method_2_code, 1, none)
theorem ok_Op_clear : Mok mOp_clear := ⟨gtb_mem 1272 (by decide +kernel) rfl, gtb_mem 97 (by decide +kernel) rfl, by decide +kernel, by decide⟩
theorem lOp_p18 : Snd "HerbWaters$Opinion" (iPI 18 5 2) := sPI _ rfl rfl (gtb_mem 256 (by decide +kernel) rfl)
theorem lOp_p22 : Snd "HerbWaters$Opinion" (iPI 22 5 3) := sPI _ rfl rfl (gtb_mem 257 (by decide +kernel) rfl)
theorem lOp_p25 : Snd "HerbWaters$Opinion" (iPI 25 5 4) := sPI _ rfl rfl (gtb_mem 260 (by decide +kernel) rfl)
theorem lOp_p28 : Snd "HerbWaters$Opinion" (iPZ 28 5 5) := sPZ _ rfl rfl (gtb_mem 262 (by decide +kernel) rfl)
def bOp_clear_0 : List Ir := [iLA0, iC0, (iPI 18 5 2), iLA0, iC0, (iPI 22 5 3), iLA0, iC0, (iPI 25 5 4), iLA0, iC0, (iPZ 28 5 5), iRV]
def tOp_clear : Tb := [(0, bOp_clear_0, 21)]
theorem fOp_clear_0 : tbf tOp_clear 0 = some (bOp_clear_0, 21) := rfl
theorem kOp_clear_0 : Bok "HerbWaters$Opinion" prog_7_method_2_code (0, bOp_clear_0, 21) := ⟨by decide +kernel, (List.forall_mem_cons.mpr ⟨sLA0, (List.forall_mem_cons.mpr ⟨sC0, (List.forall_mem_cons.mpr ⟨lOp_p18, (List.forall_mem_cons.mpr ⟨sLA0, (List.forall_mem_cons.mpr ⟨sC0, (List.forall_mem_cons.mpr ⟨lOp_p22, (List.forall_mem_cons.mpr ⟨sLA0, (List.forall_mem_cons.mpr ⟨sC0, (List.forall_mem_cons.mpr ⟨lOp_p25, (List.forall_mem_cons.mpr ⟨sLA0, (List.forall_mem_cons.mpr ⟨sC0, (List.forall_mem_cons.mpr ⟨lOp_p28, (List.forall_mem_cons.mpr ⟨sRV, (fun _ h => absurd h List.not_mem_nil)⟩)⟩)⟩)⟩)⟩)⟩)⟩)⟩)⟩)⟩)⟩)⟩)⟩)⟩
theorem kOp_clear : ∀ q ∈ tOp_clear, Bok "HerbWaters$Opinion" prog_7_method_2_code q := (List.forall_mem_cons.mpr ⟨kOp_clear_0, (fun _ h => absurd h List.not_mem_nil)⟩)
theorem rOp_clear : mOp_clear.2.2.2 = none := rfl
def mOp_add : Mt := (⟨"HerbWaters$Opinion", "add", "(I)V"⟩, prog_7_method_3_code, 2, none)
theorem ok_Op_add : Mok mOp_add := ⟨gtb_mem 1346 (by decide +kernel) rfl, gtb_mem 97 (by decide +kernel) rfl, by decide +kernel, by decide⟩
theorem lOp_g18 : Snd "HerbWaters$Opinion" (iGI 18 5 2) := sGI _ rfl (gtb_mem 256 (by decide +kernel) rfl)
theorem lOp_g11 : Snd "HerbWaters$Opinion" (iGR 11 5 0) := sGR _ rfl (gtb_mem 254 (by decide +kernel) rfl)
def bOp_add_0 : List Ir := [iLA0, (iGI 18 5 2), (iSP 160), (iICge (23) 30)]
def bOp_add_10 : List Ir := [iLA0, (iGR 11 5 0), iLA0, (iGI 18 5 2), iLI1, iIAST, iLA0, iDUPr, (iGI 18 5 2), iC1, iADD, (iPI 18 5 2)]
def bOp_add_30 : List Ir := [iRV]
def tOp_add : Tb := [(0, bOp_add_0, 10), (10, bOp_add_10, 30), (30, bOp_add_30, 31)]
theorem fOp_add_0 : tbf tOp_add 0 = some (bOp_add_0, 10) := rfl
theorem fOp_add_10 : tbf tOp_add 10 = some (bOp_add_10, 30) := rfl
theorem fOp_add_30 : tbf tOp_add 30 = some (bOp_add_30, 31) := rfl
theorem kOp_add_0 : Bok "HerbWaters$Opinion" prog_7_method_3_code (0, bOp_add_0, 10) := ⟨by decide +kernel, (List.forall_mem_cons.mpr ⟨sLA0, (List.forall_mem_cons.mpr ⟨lOp_g18, (List.forall_mem_cons.mpr ⟨sSP, (List.forall_mem_cons.mpr ⟨sICge, (fun _ h => absurd h List.not_mem_nil)⟩)⟩)⟩)⟩)⟩
theorem kOp_add_10 : Bok "HerbWaters$Opinion" prog_7_method_3_code (10, bOp_add_10, 30) := ⟨by decide +kernel, (List.forall_mem_cons.mpr ⟨sLA0, (List.forall_mem_cons.mpr ⟨lOp_g11, (List.forall_mem_cons.mpr ⟨sLA0, (List.forall_mem_cons.mpr ⟨lOp_g18, (List.forall_mem_cons.mpr ⟨sLI1, (List.forall_mem_cons.mpr ⟨sIAST, (List.forall_mem_cons.mpr ⟨sLA0, (List.forall_mem_cons.mpr ⟨sDUPr, (List.forall_mem_cons.mpr ⟨lOp_g18, (List.forall_mem_cons.mpr ⟨sC1, (List.forall_mem_cons.mpr ⟨sADD, (List.forall_mem_cons.mpr ⟨lOp_p18, (fun _ h => absurd h List.not_mem_nil)⟩)⟩)⟩)⟩)⟩)⟩)⟩)⟩)⟩)⟩)⟩)⟩)⟩
theorem kOp_add_30 : Bok "HerbWaters$Opinion" prog_7_method_3_code (30, bOp_add_30, 31) := ⟨by decide +kernel, (List.forall_mem_cons.mpr ⟨sRV, (fun _ h => absurd h List.not_mem_nil)⟩)⟩
theorem kOp_add : ∀ q ∈ tOp_add, Bok "HerbWaters$Opinion" prog_7_method_3_code q := (List.forall_mem_cons.mpr ⟨kOp_add_0, (List.forall_mem_cons.mpr ⟨kOp_add_10, (List.forall_mem_cons.mpr ⟨kOp_add_30, (fun _ h => absurd h List.not_mem_nil)⟩)⟩)⟩)
theorem rOp_add : mOp_add.2.2.2 = none := rfl
def mOp_addLook : Mt := (⟨"HerbWaters$Opinion", "addLook", "(I)V"⟩, prog_7_method_4_code, 2, none)
theorem ok_Op_addLook : Mok mOp_addLook := ⟨gtb_mem 1351 (by decide +kernel) rfl, gtb_mem 97 (by decide +kernel) rfl, by decide +kernel, by decide⟩
theorem lOp_v32 : Snd "HerbWaters$Opinion" (iCV1 32 5 mOp_add) := sCV1 _ rfl rfl ok_Op_add (gtb_mem 1344 (by decide +kernel) rfl) (gtb_mem 1345 (by decide +kernel) rfl) (gtb_mem 1352 (by decide +kernel) rfl)
theorem lOp_g28 : Snd "HerbWaters$Opinion" (iGI 28 5 5) := sGI _ rfl (gtb_mem 262 (by decide +kernel) rfl)
theorem lOp_t36 : Snd "HerbWaters$Opinion" (iGS 36 4) := sGS (gtb_mem 1353 (by decide +kernel) rfl)
theorem lOp_g42 : Snd "HerbWaters$Opinion" (iGW 42 0) := sGW "HerbWaters" (List.mem_filter.mpr ⟨List.mem_of_getElem? (i := 2311) (by decide +kernel), rfl⟩)
def bOp_addLook_0 : List Ir := [iLA0, (iSP 1000), iLI1, iADD, (iCV1 32 5 mOp_add), iLA0, iDUPr, (iGI 28 5 5), iLI1, (iGS 36 4), (iGW 42 0), (iICne (7) 28)]
def bOp_addLook_24 : List Ir := [iC1, (iGO (4) 29)]
def bOp_addLook_28 : List Ir := [iC0]
def bOp_addLook_29 : List Ir := [iOR, (iPZ 28 5 5), iRV]
def tOp_addLook : Tb := [(0, bOp_addLook_0, 24), (24, bOp_addLook_24, 28), (28, bOp_addLook_28, 29), (29, bOp_addLook_29, 34)]
theorem fOp_addLook_0 : tbf tOp_addLook 0 = some (bOp_addLook_0, 24) := rfl
theorem fOp_addLook_24 : tbf tOp_addLook 24 = some (bOp_addLook_24, 28) := rfl
theorem fOp_addLook_28 : tbf tOp_addLook 28 = some (bOp_addLook_28, 29) := rfl
theorem fOp_addLook_29 : tbf tOp_addLook 29 = some (bOp_addLook_29, 34) := rfl
theorem kOp_addLook_0 : Bok "HerbWaters$Opinion" prog_7_method_4_code (0, bOp_addLook_0, 24) := ⟨by decide +kernel, (List.forall_mem_cons.mpr ⟨sLA0, (List.forall_mem_cons.mpr ⟨sSP, (List.forall_mem_cons.mpr ⟨sLI1, (List.forall_mem_cons.mpr ⟨sADD, (List.forall_mem_cons.mpr ⟨lOp_v32, (List.forall_mem_cons.mpr ⟨sLA0, (List.forall_mem_cons.mpr ⟨sDUPr, (List.forall_mem_cons.mpr ⟨lOp_g28, (List.forall_mem_cons.mpr ⟨sLI1, (List.forall_mem_cons.mpr ⟨lOp_t36, (List.forall_mem_cons.mpr ⟨lOp_g42, (List.forall_mem_cons.mpr ⟨sICne, (fun _ h => absurd h List.not_mem_nil)⟩)⟩)⟩)⟩)⟩)⟩)⟩)⟩)⟩)⟩)⟩)⟩)⟩
theorem kOp_addLook_24 : Bok "HerbWaters$Opinion" prog_7_method_4_code (24, bOp_addLook_24, 28) := ⟨by decide +kernel, (List.forall_mem_cons.mpr ⟨sC1, (List.forall_mem_cons.mpr ⟨sGO, (fun _ h => absurd h List.not_mem_nil)⟩)⟩)⟩
theorem kOp_addLook_28 : Bok "HerbWaters$Opinion" prog_7_method_4_code (28, bOp_addLook_28, 29) := ⟨by decide +kernel, (List.forall_mem_cons.mpr ⟨sC0, (fun _ h => absurd h List.not_mem_nil)⟩)⟩
theorem kOp_addLook_29 : Bok "HerbWaters$Opinion" prog_7_method_4_code (29, bOp_addLook_29, 34) := ⟨by decide +kernel, (List.forall_mem_cons.mpr ⟨sOR, (List.forall_mem_cons.mpr ⟨lOp_p28, (List.forall_mem_cons.mpr ⟨sRV, (fun _ h => absurd h List.not_mem_nil)⟩)⟩)⟩)⟩
theorem kOp_addLook : ∀ q ∈ tOp_addLook, Bok "HerbWaters$Opinion" prog_7_method_4_code q := (List.forall_mem_cons.mpr ⟨kOp_addLook_0, (List.forall_mem_cons.mpr ⟨kOp_addLook_24, (List.forall_mem_cons.mpr ⟨kOp_addLook_28, (List.forall_mem_cons.mpr ⟨kOp_addLook_29, (fun _ h => absurd h List.not_mem_nil)⟩)⟩)⟩)⟩)
theorem rOp_addLook : mOp_addLook.2.2.2 = none := rfl
def mOp_endPart : Mt := (⟨"HerbWaters$Opinion", "endPart", "(IZ)V"⟩, prog_7_method_5_code, 3, none)
theorem ok_Op_endPart : Mok mOp_endPart := ⟨gtb_mem 1373 (by decide +kernel) rfl, gtb_mem 97 (by decide +kernel) rfl, by decide +kernel, by decide⟩
theorem lOp_g25 : Snd "HerbWaters$Opinion" (iGI 25 5 4) := sGI _ rfl (gtb_mem 260 (by decide +kernel) rfl)
theorem lOp_g22 : Snd "HerbWaters$Opinion" (iGI 22 5 3) := sGI _ rfl (gtb_mem 257 (by decide +kernel) rfl)
def bOp_endPart_0 : List Ir := [iLA0, iLI2, (iIFeq (9) 11)]
def bOp_endPart_5 : List Ir := [(iSP 1020), (iGO (6) 14)]
def bOp_endPart_11 : List Ir := [(iSP 1017)]
def bOp_endPart_14 : List Ir := [iLI1, iADD, (iCV1 32 5 mOp_add), iLA0, iDUPr, (iGI 25 5 4), iC1, iLI1, iSHL, iOR, (iPI 25 5 4), iLA0, iDUPr, (iGI 22 5 3), iC1, iADD, (iPI 22 5 3), iRV]
def tOp_endPart : Tb := [(0, bOp_endPart_0, 5), (5, bOp_endPart_5, 11), (11, bOp_endPart_11, 14), (14, bOp_endPart_14, 42)]
theorem fOp_endPart_0 : tbf tOp_endPart 0 = some (bOp_endPart_0, 5) := rfl
theorem fOp_endPart_5 : tbf tOp_endPart 5 = some (bOp_endPart_5, 11) := rfl
theorem fOp_endPart_11 : tbf tOp_endPart 11 = some (bOp_endPart_11, 14) := rfl
theorem fOp_endPart_14 : tbf tOp_endPart 14 = some (bOp_endPart_14, 42) := rfl
theorem kOp_endPart_0 : Bok "HerbWaters$Opinion" prog_7_method_5_code (0, bOp_endPart_0, 5) := ⟨by decide +kernel, (List.forall_mem_cons.mpr ⟨sLA0, (List.forall_mem_cons.mpr ⟨sLI2, (List.forall_mem_cons.mpr ⟨sIFeq, (fun _ h => absurd h List.not_mem_nil)⟩)⟩)⟩)⟩
theorem kOp_endPart_5 : Bok "HerbWaters$Opinion" prog_7_method_5_code (5, bOp_endPart_5, 11) := ⟨by decide +kernel, (List.forall_mem_cons.mpr ⟨sSP, (List.forall_mem_cons.mpr ⟨sGO, (fun _ h => absurd h List.not_mem_nil)⟩)⟩)⟩
theorem kOp_endPart_11 : Bok "HerbWaters$Opinion" prog_7_method_5_code (11, bOp_endPart_11, 14) := ⟨by decide +kernel, (List.forall_mem_cons.mpr ⟨sSP, (fun _ h => absurd h List.not_mem_nil)⟩)⟩
theorem kOp_endPart_14 : Bok "HerbWaters$Opinion" prog_7_method_5_code (14, bOp_endPart_14, 42) := ⟨by decide +kernel, (List.forall_mem_cons.mpr ⟨sLI1, (List.forall_mem_cons.mpr ⟨sADD, (List.forall_mem_cons.mpr ⟨lOp_v32, (List.forall_mem_cons.mpr ⟨sLA0, (List.forall_mem_cons.mpr ⟨sDUPr, (List.forall_mem_cons.mpr ⟨lOp_g25, (List.forall_mem_cons.mpr ⟨sC1, (List.forall_mem_cons.mpr ⟨sLI1, (List.forall_mem_cons.mpr ⟨sSHL, (List.forall_mem_cons.mpr ⟨sOR, (List.forall_mem_cons.mpr ⟨lOp_p25, (List.forall_mem_cons.mpr ⟨sLA0, (List.forall_mem_cons.mpr ⟨sDUPr, (List.forall_mem_cons.mpr ⟨lOp_g22, (List.forall_mem_cons.mpr ⟨sC1, (List.forall_mem_cons.mpr ⟨sADD, (List.forall_mem_cons.mpr ⟨lOp_p22, (List.forall_mem_cons.mpr ⟨sRV, (fun _ h => absurd h List.not_mem_nil)⟩)⟩)⟩)⟩)⟩)⟩)⟩)⟩)⟩)⟩)⟩)⟩)⟩)⟩)⟩)⟩)⟩)⟩)⟩
theorem kOp_endPart : ∀ q ∈ tOp_endPart, Bok "HerbWaters$Opinion" prog_7_method_5_code q := (List.forall_mem_cons.mpr ⟨kOp_endPart_0, (List.forall_mem_cons.mpr ⟨kOp_endPart_5, (List.forall_mem_cons.mpr ⟨kOp_endPart_11, (List.forall_mem_cons.mpr ⟨kOp_endPart_14, (fun _ h => absurd h List.not_mem_nil)⟩)⟩)⟩)⟩)
theorem rOp_endPart : mOp_endPart.2.2.2 = none := rfl
def mOp_think : Mt := (⟨"HerbWaters$Opinion", "think", "([IZ[I)V"⟩, prog_7_method_6_code, 7, none)
theorem ok_Op_think : Mok mOp_think := ⟨gtb_mem 1050 (by decide +kernel) rfl, gtb_mem 97 (by decide +kernel) rfl, by decide +kernel, by decide⟩
theorem lOp_s45 : Snd "HerbWaters$Opinion" (iCS4 45 mJa_fillR) := sCS4 ok_Ja_fillR (gtb_mem 676 (by decide +kernel) rfl) (gtb_mem 1051 (by decide +kernel) rfl)
theorem lOp_g15 : Snd "HerbWaters$Opinion" (iGR 15 5 1) := sGR _ rfl (gtb_mem 255 (by decide +kernel) rfl)
def mOp_addPart : Mt := (⟨"HerbWaters$Opinion", "addPart", "(IIZ[I)V"⟩, prog_7_method_7_code, 8, none)
theorem ok_Op_addPart : Mok mOp_addPart := ⟨gtb_mem 1055 (by decide +kernel) rfl, gtb_mem 97 (by decide +kernel) rfl, by decide +kernel, by decide⟩
theorem lOp_v51 : Snd "HerbWaters$Opinion" (iCV4 51 5 mOp_addPart) := sCV4 _ rfl rfl ok_Op_addPart (gtb_mem 1054 (by decide +kernel) rfl) (gtb_mem 12 (by decide +kernel) rfl) (gtb_mem 1052 (by decide +kernel) rfl)
def mOp_joined : Mt := (⟨"HerbWaters$Opinion", "joined", "(III)I"⟩, prog_7_method_8_code, 3, some .int)
theorem ok_Op_joined : Mok mOp_joined := ⟨gtb_mem 1058 (by decide +kernel) rfl, gtb_mem 97 (by decide +kernel) rfl, by decide +kernel, by decide⟩
theorem lOp_s55 : Snd "HerbWaters$Opinion" (iCS3 55 mOp_joined) := sCS3 ok_Op_joined (gtb_mem 1057 (by decide +kernel) rfl) (gtb_mem 1056 (by decide +kernel) rfl)
def bOp_think_0 : List Ir := [iLA3, iC0, iC3, iC0, (iCS4 45 mJa_fillR), iC0, iSI4, iC0, iSI5]
def bOp_think_13 : List Ir := [iLI5, iLA0, (iGI 18 5 2), (iICge (177) 196)]
def bOp_think_22 : List Ir := [iLI4, (iBP 64), (iICge (170) 196)]
def bOp_think_29 : List Ir := [iLA0, (iGR 11 5 0), iLI5, iIALD, iSI6, iLI6, (iSP 1000), (iICge (18) 61)]
def bOp_think_46 : List Ir := [iLA0, (iGR 15 5 1), iLI4, iLI6, iIAST, (iINC4 1), (iGO (132) 190)]
def bOp_think_61 : List Ir := [iLI6, (iSP 1007), (iICge (24) 90)]
def bOp_think_69 : List Ir := [iLA0, (iGR 15 5 1), iLI4, iLA1, iLI6, (iSP 1000), iSUB, iIALD, iIAST, (iINC4 1), (iGO (103) 190)]
def bOp_think_90 : List Ir := [iLI6, (iSP 1017), (iIClt (19) 114)]
def bOp_think_98 : List Ir := [iLA0, iLI6, iLI4, iLI2, iLA3, (iCV4 51 5 mOp_addPart), iC0, iSI4, (iGO (79) 190)]
def bOp_think_114 : List Ir := [iLI6, (iSP 1016), (iICne (32) 151)]
def bOp_think_122 : List Ir := [iLI4, iC1, (iIClt (26) 151)]
def bOp_think_128 : List Ir := [iLA0, (iGR 15 5 1), iLI4, iC1, iSUB, iC1, iLA0, (iGR 15 5 1), iLI4, iC1, iSUB, iIALD, iSUB, iIAST, (iGO (42) 190)]
def bOp_think_151 : List Ir := [iLI4, iC2, (iIClt (36) 190)]
def bOp_think_157 : List Ir := [(iDEC4 1), iLA0, (iGR 15 5 1), iLI4, iC1, iSUB, iLI6, iLA0, (iGR 15 5 1), iLI4, iC1, iSUB, iIALD, iLA0, (iGR 15 5 1), iLI4, iIALD, (iCS3 55 mOp_joined), iIAST]
def bOp_think_190 : List Ir := [(iINC5 1), (iGO (-180) 13)]
def bOp_think_196 : List Ir := [iRV]
def tOp_think : Tb := [(0, bOp_think_0, 13), (13, bOp_think_13, 22), (22, bOp_think_22, 29), (29, bOp_think_29, 46), (46, bOp_think_46, 61), (61, bOp_think_61, 69), (69, bOp_think_69, 90), (90, bOp_think_90, 98), (98, bOp_think_98, 114), (114, bOp_think_114, 122), (122, bOp_think_122, 128), (128, bOp_think_128, 151), (151, bOp_think_151, 157), (157, bOp_think_157, 190), (190, bOp_think_190, 196), (196, bOp_think_196, 197)]
theorem fOp_think_0 : tbf tOp_think 0 = some (bOp_think_0, 13) := rfl
theorem fOp_think_13 : tbf tOp_think 13 = some (bOp_think_13, 22) := rfl
theorem fOp_think_22 : tbf tOp_think 22 = some (bOp_think_22, 29) := rfl
theorem fOp_think_29 : tbf tOp_think 29 = some (bOp_think_29, 46) := rfl
theorem fOp_think_46 : tbf tOp_think 46 = some (bOp_think_46, 61) := rfl
theorem fOp_think_61 : tbf tOp_think 61 = some (bOp_think_61, 69) := rfl
theorem fOp_think_69 : tbf tOp_think 69 = some (bOp_think_69, 90) := rfl
theorem fOp_think_90 : tbf tOp_think 90 = some (bOp_think_90, 98) := rfl
theorem fOp_think_98 : tbf tOp_think 98 = some (bOp_think_98, 114) := rfl
theorem fOp_think_114 : tbf tOp_think 114 = some (bOp_think_114, 122) := rfl
theorem fOp_think_122 : tbf tOp_think 122 = some (bOp_think_122, 128) := rfl
theorem fOp_think_128 : tbf tOp_think 128 = some (bOp_think_128, 151) := rfl
theorem fOp_think_151 : tbf tOp_think 151 = some (bOp_think_151, 157) := rfl
theorem fOp_think_157 : tbf tOp_think 157 = some (bOp_think_157, 190) := rfl
theorem fOp_think_190 : tbf tOp_think 190 = some (bOp_think_190, 196) := rfl
theorem fOp_think_196 : tbf tOp_think 196 = some (bOp_think_196, 197) := rfl
theorem kOp_think_0 : Bok "HerbWaters$Opinion" prog_7_method_6_code (0, bOp_think_0, 13) := ⟨by decide +kernel, (List.forall_mem_cons.mpr ⟨sLA3, (List.forall_mem_cons.mpr ⟨sC0, (List.forall_mem_cons.mpr ⟨sC3, (List.forall_mem_cons.mpr ⟨sC0, (List.forall_mem_cons.mpr ⟨lOp_s45, (List.forall_mem_cons.mpr ⟨sC0, (List.forall_mem_cons.mpr ⟨sSI4, (List.forall_mem_cons.mpr ⟨sC0, (List.forall_mem_cons.mpr ⟨sSI5, (fun _ h => absurd h List.not_mem_nil)⟩)⟩)⟩)⟩)⟩)⟩)⟩)⟩)⟩)⟩
theorem kOp_think_13 : Bok "HerbWaters$Opinion" prog_7_method_6_code (13, bOp_think_13, 22) := ⟨by decide +kernel, (List.forall_mem_cons.mpr ⟨sLI5, (List.forall_mem_cons.mpr ⟨sLA0, (List.forall_mem_cons.mpr ⟨lOp_g18, (List.forall_mem_cons.mpr ⟨sICge, (fun _ h => absurd h List.not_mem_nil)⟩)⟩)⟩)⟩)⟩
theorem kOp_think_22 : Bok "HerbWaters$Opinion" prog_7_method_6_code (22, bOp_think_22, 29) := ⟨by decide +kernel, (List.forall_mem_cons.mpr ⟨sLI4, (List.forall_mem_cons.mpr ⟨sBP, (List.forall_mem_cons.mpr ⟨sICge, (fun _ h => absurd h List.not_mem_nil)⟩)⟩)⟩)⟩
theorem kOp_think_29 : Bok "HerbWaters$Opinion" prog_7_method_6_code (29, bOp_think_29, 46) := ⟨by decide +kernel, (List.forall_mem_cons.mpr ⟨sLA0, (List.forall_mem_cons.mpr ⟨lOp_g11, (List.forall_mem_cons.mpr ⟨sLI5, (List.forall_mem_cons.mpr ⟨sIALD, (List.forall_mem_cons.mpr ⟨sSI6, (List.forall_mem_cons.mpr ⟨sLI6, (List.forall_mem_cons.mpr ⟨sSP, (List.forall_mem_cons.mpr ⟨sICge, (fun _ h => absurd h List.not_mem_nil)⟩)⟩)⟩)⟩)⟩)⟩)⟩)⟩)⟩
theorem kOp_think_46 : Bok "HerbWaters$Opinion" prog_7_method_6_code (46, bOp_think_46, 61) := ⟨by decide +kernel, (List.forall_mem_cons.mpr ⟨sLA0, (List.forall_mem_cons.mpr ⟨lOp_g15, (List.forall_mem_cons.mpr ⟨sLI4, (List.forall_mem_cons.mpr ⟨sLI6, (List.forall_mem_cons.mpr ⟨sIAST, (List.forall_mem_cons.mpr ⟨sINC4, (List.forall_mem_cons.mpr ⟨sGO, (fun _ h => absurd h List.not_mem_nil)⟩)⟩)⟩)⟩)⟩)⟩)⟩)⟩
theorem kOp_think_61 : Bok "HerbWaters$Opinion" prog_7_method_6_code (61, bOp_think_61, 69) := ⟨by decide +kernel, (List.forall_mem_cons.mpr ⟨sLI6, (List.forall_mem_cons.mpr ⟨sSP, (List.forall_mem_cons.mpr ⟨sICge, (fun _ h => absurd h List.not_mem_nil)⟩)⟩)⟩)⟩
theorem kOp_think_69 : Bok "HerbWaters$Opinion" prog_7_method_6_code (69, bOp_think_69, 90) := ⟨by decide +kernel, (List.forall_mem_cons.mpr ⟨sLA0, (List.forall_mem_cons.mpr ⟨lOp_g15, (List.forall_mem_cons.mpr ⟨sLI4, (List.forall_mem_cons.mpr ⟨sLA1, (List.forall_mem_cons.mpr ⟨sLI6, (List.forall_mem_cons.mpr ⟨sSP, (List.forall_mem_cons.mpr ⟨sSUB, (List.forall_mem_cons.mpr ⟨sIALD, (List.forall_mem_cons.mpr ⟨sIAST, (List.forall_mem_cons.mpr ⟨sINC4, (List.forall_mem_cons.mpr ⟨sGO, (fun _ h => absurd h List.not_mem_nil)⟩)⟩)⟩)⟩)⟩)⟩)⟩)⟩)⟩)⟩)⟩)⟩
theorem kOp_think_90 : Bok "HerbWaters$Opinion" prog_7_method_6_code (90, bOp_think_90, 98) := ⟨by decide +kernel, (List.forall_mem_cons.mpr ⟨sLI6, (List.forall_mem_cons.mpr ⟨sSP, (List.forall_mem_cons.mpr ⟨sIClt, (fun _ h => absurd h List.not_mem_nil)⟩)⟩)⟩)⟩
theorem kOp_think_98 : Bok "HerbWaters$Opinion" prog_7_method_6_code (98, bOp_think_98, 114) := ⟨by decide +kernel, (List.forall_mem_cons.mpr ⟨sLA0, (List.forall_mem_cons.mpr ⟨sLI6, (List.forall_mem_cons.mpr ⟨sLI4, (List.forall_mem_cons.mpr ⟨sLI2, (List.forall_mem_cons.mpr ⟨sLA3, (List.forall_mem_cons.mpr ⟨lOp_v51, (List.forall_mem_cons.mpr ⟨sC0, (List.forall_mem_cons.mpr ⟨sSI4, (List.forall_mem_cons.mpr ⟨sGO, (fun _ h => absurd h List.not_mem_nil)⟩)⟩)⟩)⟩)⟩)⟩)⟩)⟩)⟩)⟩
theorem kOp_think_114 : Bok "HerbWaters$Opinion" prog_7_method_6_code (114, bOp_think_114, 122) := ⟨by decide +kernel, (List.forall_mem_cons.mpr ⟨sLI6, (List.forall_mem_cons.mpr ⟨sSP, (List.forall_mem_cons.mpr ⟨sICne, (fun _ h => absurd h List.not_mem_nil)⟩)⟩)⟩)⟩
theorem kOp_think_122 : Bok "HerbWaters$Opinion" prog_7_method_6_code (122, bOp_think_122, 128) := ⟨by decide +kernel, (List.forall_mem_cons.mpr ⟨sLI4, (List.forall_mem_cons.mpr ⟨sC1, (List.forall_mem_cons.mpr ⟨sIClt, (fun _ h => absurd h List.not_mem_nil)⟩)⟩)⟩)⟩
theorem kOp_think_128 : Bok "HerbWaters$Opinion" prog_7_method_6_code (128, bOp_think_128, 151) := ⟨by decide +kernel, (List.forall_mem_cons.mpr ⟨sLA0, (List.forall_mem_cons.mpr ⟨lOp_g15, (List.forall_mem_cons.mpr ⟨sLI4, (List.forall_mem_cons.mpr ⟨sC1, (List.forall_mem_cons.mpr ⟨sSUB, (List.forall_mem_cons.mpr ⟨sC1, (List.forall_mem_cons.mpr ⟨sLA0, (List.forall_mem_cons.mpr ⟨lOp_g15, (List.forall_mem_cons.mpr ⟨sLI4, (List.forall_mem_cons.mpr ⟨sC1, (List.forall_mem_cons.mpr ⟨sSUB, (List.forall_mem_cons.mpr ⟨sIALD, (List.forall_mem_cons.mpr ⟨sSUB, (List.forall_mem_cons.mpr ⟨sIAST, (List.forall_mem_cons.mpr ⟨sGO, (fun _ h => absurd h List.not_mem_nil)⟩)⟩)⟩)⟩)⟩)⟩)⟩)⟩)⟩)⟩)⟩)⟩)⟩)⟩)⟩)⟩
theorem kOp_think_151 : Bok "HerbWaters$Opinion" prog_7_method_6_code (151, bOp_think_151, 157) := ⟨by decide +kernel, (List.forall_mem_cons.mpr ⟨sLI4, (List.forall_mem_cons.mpr ⟨sC2, (List.forall_mem_cons.mpr ⟨sIClt, (fun _ h => absurd h List.not_mem_nil)⟩)⟩)⟩)⟩
theorem kOp_think_157 : Bok "HerbWaters$Opinion" prog_7_method_6_code (157, bOp_think_157, 190) := ⟨by decide +kernel, (List.forall_mem_cons.mpr ⟨sDEC4, (List.forall_mem_cons.mpr ⟨sLA0, (List.forall_mem_cons.mpr ⟨lOp_g15, (List.forall_mem_cons.mpr ⟨sLI4, (List.forall_mem_cons.mpr ⟨sC1, (List.forall_mem_cons.mpr ⟨sSUB, (List.forall_mem_cons.mpr ⟨sLI6, (List.forall_mem_cons.mpr ⟨sLA0, (List.forall_mem_cons.mpr ⟨lOp_g15, (List.forall_mem_cons.mpr ⟨sLI4, (List.forall_mem_cons.mpr ⟨sC1, (List.forall_mem_cons.mpr ⟨sSUB, (List.forall_mem_cons.mpr ⟨sIALD, (List.forall_mem_cons.mpr ⟨sLA0, (List.forall_mem_cons.mpr ⟨lOp_g15, (List.forall_mem_cons.mpr ⟨sLI4, (List.forall_mem_cons.mpr ⟨sIALD, (List.forall_mem_cons.mpr ⟨lOp_s55, (List.forall_mem_cons.mpr ⟨sIAST, (fun _ h => absurd h List.not_mem_nil)⟩)⟩)⟩)⟩)⟩)⟩)⟩)⟩)⟩)⟩)⟩)⟩)⟩)⟩)⟩)⟩)⟩)⟩)⟩)⟩
theorem kOp_think_190 : Bok "HerbWaters$Opinion" prog_7_method_6_code (190, bOp_think_190, 196) := ⟨by decide +kernel, (List.forall_mem_cons.mpr ⟨sINC5, (List.forall_mem_cons.mpr ⟨sGO, (fun _ h => absurd h List.not_mem_nil)⟩)⟩)⟩
theorem kOp_think_196 : Bok "HerbWaters$Opinion" prog_7_method_6_code (196, bOp_think_196, 197) := ⟨by decide +kernel, (List.forall_mem_cons.mpr ⟨sRV, (fun _ h => absurd h List.not_mem_nil)⟩)⟩
theorem kOp_think : ∀ q ∈ tOp_think, Bok "HerbWaters$Opinion" prog_7_method_6_code q := (List.forall_mem_cons.mpr ⟨kOp_think_0, (List.forall_mem_cons.mpr ⟨kOp_think_13, (List.forall_mem_cons.mpr ⟨kOp_think_22, (List.forall_mem_cons.mpr ⟨kOp_think_29, (List.forall_mem_cons.mpr ⟨kOp_think_46, (List.forall_mem_cons.mpr ⟨kOp_think_61, (List.forall_mem_cons.mpr ⟨kOp_think_69, (List.forall_mem_cons.mpr ⟨kOp_think_90, (List.forall_mem_cons.mpr ⟨kOp_think_98, (List.forall_mem_cons.mpr ⟨kOp_think_114, (List.forall_mem_cons.mpr ⟨kOp_think_122, (List.forall_mem_cons.mpr ⟨kOp_think_128, (List.forall_mem_cons.mpr ⟨kOp_think_151, (List.forall_mem_cons.mpr ⟨kOp_think_157, (List.forall_mem_cons.mpr ⟨kOp_think_190, (List.forall_mem_cons.mpr ⟨kOp_think_196, (fun _ h => absurd h List.not_mem_nil)⟩)⟩)⟩)⟩)⟩)⟩)⟩)⟩)⟩)⟩)⟩)⟩)⟩)⟩)⟩)⟩)
theorem rOp_think : mOp_think.2.2.2 = none := rfl
def bOp_addPart_0 : List Ir := [iLI1, (iSP 1020), (iIClt (7) 11)]
def bOp_addPart_7 : List Ir := [iC1, (iGO (4) 12)]
def bOp_addPart_11 : List Ir := [iC0]
def bOp_addPart_12 : List Ir := [iSI5, iLI1, iLI5, (iIFeq (9) 26)]
def bOp_addPart_20 : List Ir := [(iSP 1020), (iGO (6) 29)]
def bOp_addPart_26 : List Ir := [(iSP 1017)]
def bOp_addPart_29 : List Ir := [iSUB, iSI6, iLI2, iC1, (iIClt (22) 56)]
def bOp_addPart_37 : List Ir := [iLI5, (iIFeq (18) 57)]
def bOp_addPart_42 : List Ir := [iLI2, iC2, (iIClt (12) 56)]
def bOp_addPart_47 : List Ir := [iLA0, (iGR 15 5 1), iC1, iIALD, (iIFne (4) 57)]
def bOp_addPart_56 : List Ir := [iRV]
def bOp_addPart_57 : List Ir := [iLA0, (iGR 15 5 1), iC0, iIALD, (iIFge (7) 70)]
def bOp_addPart_66 : List Ir := [iC0, (iGO (25) 92)]
def bOp_addPart_70 : List Ir := [iLA0, (iGR 15 5 1), iC0, iIALD, (iBP 99), (iICle (8) 86)]
def bOp_addPart_81 : List Ir := [(iBP 99), (iGO (9) 92)]
def bOp_addPart_86 : List Ir := [iLA0, (iGR 15 5 1), iC0, iIALD]
def bOp_addPart_92 : List Ir := [iSI7, iLA4, iLI6, iDUP2, iIALD, iLI3, (iIFeq (10) 111)]
def bOp_addPart_104 : List Ir := [iLI7, iC2, iDIV, (iGO (5) 113)]
def bOp_addPart_111 : List Ir := [iLI7]
def bOp_addPart_113 : List Ir := [iADD, iIAST, iRV]
def tOp_addPart : Tb := [(0, bOp_addPart_0, 7), (7, bOp_addPart_7, 11), (11, bOp_addPart_11, 12), (12, bOp_addPart_12, 20), (20, bOp_addPart_20, 26), (26, bOp_addPart_26, 29), (29, bOp_addPart_29, 37), (37, bOp_addPart_37, 42), (42, bOp_addPart_42, 47), (47, bOp_addPart_47, 56), (56, bOp_addPart_56, 57), (57, bOp_addPart_57, 66), (66, bOp_addPart_66, 70), (70, bOp_addPart_70, 81), (81, bOp_addPart_81, 86), (86, bOp_addPart_86, 92), (92, bOp_addPart_92, 104), (104, bOp_addPart_104, 111), (111, bOp_addPart_111, 113), (113, bOp_addPart_113, 116)]
theorem fOp_addPart_0 : tbf tOp_addPart 0 = some (bOp_addPart_0, 7) := rfl
theorem fOp_addPart_7 : tbf tOp_addPart 7 = some (bOp_addPart_7, 11) := rfl
theorem fOp_addPart_11 : tbf tOp_addPart 11 = some (bOp_addPart_11, 12) := rfl
theorem fOp_addPart_12 : tbf tOp_addPart 12 = some (bOp_addPart_12, 20) := rfl
theorem fOp_addPart_20 : tbf tOp_addPart 20 = some (bOp_addPart_20, 26) := rfl
theorem fOp_addPart_26 : tbf tOp_addPart 26 = some (bOp_addPart_26, 29) := rfl
theorem fOp_addPart_29 : tbf tOp_addPart 29 = some (bOp_addPart_29, 37) := rfl
theorem fOp_addPart_37 : tbf tOp_addPart 37 = some (bOp_addPart_37, 42) := rfl
theorem fOp_addPart_42 : tbf tOp_addPart 42 = some (bOp_addPart_42, 47) := rfl
theorem fOp_addPart_47 : tbf tOp_addPart 47 = some (bOp_addPart_47, 56) := rfl
theorem fOp_addPart_56 : tbf tOp_addPart 56 = some (bOp_addPart_56, 57) := rfl
theorem fOp_addPart_57 : tbf tOp_addPart 57 = some (bOp_addPart_57, 66) := rfl
theorem fOp_addPart_66 : tbf tOp_addPart 66 = some (bOp_addPart_66, 70) := rfl
theorem fOp_addPart_70 : tbf tOp_addPart 70 = some (bOp_addPart_70, 81) := rfl
theorem fOp_addPart_81 : tbf tOp_addPart 81 = some (bOp_addPart_81, 86) := rfl
theorem fOp_addPart_86 : tbf tOp_addPart 86 = some (bOp_addPart_86, 92) := rfl
theorem fOp_addPart_92 : tbf tOp_addPart 92 = some (bOp_addPart_92, 104) := rfl
theorem fOp_addPart_104 : tbf tOp_addPart 104 = some (bOp_addPart_104, 111) := rfl
theorem fOp_addPart_111 : tbf tOp_addPart 111 = some (bOp_addPart_111, 113) := rfl
theorem fOp_addPart_113 : tbf tOp_addPart 113 = some (bOp_addPart_113, 116) := rfl
theorem kOp_addPart_0 : Bok "HerbWaters$Opinion" prog_7_method_7_code (0, bOp_addPart_0, 7) := ⟨by decide +kernel, (List.forall_mem_cons.mpr ⟨sLI1, (List.forall_mem_cons.mpr ⟨sSP, (List.forall_mem_cons.mpr ⟨sIClt, (fun _ h => absurd h List.not_mem_nil)⟩)⟩)⟩)⟩
theorem kOp_addPart_7 : Bok "HerbWaters$Opinion" prog_7_method_7_code (7, bOp_addPart_7, 11) := ⟨by decide +kernel, (List.forall_mem_cons.mpr ⟨sC1, (List.forall_mem_cons.mpr ⟨sGO, (fun _ h => absurd h List.not_mem_nil)⟩)⟩)⟩
theorem kOp_addPart_11 : Bok "HerbWaters$Opinion" prog_7_method_7_code (11, bOp_addPart_11, 12) := ⟨by decide +kernel, (List.forall_mem_cons.mpr ⟨sC0, (fun _ h => absurd h List.not_mem_nil)⟩)⟩
theorem kOp_addPart_12 : Bok "HerbWaters$Opinion" prog_7_method_7_code (12, bOp_addPart_12, 20) := ⟨by decide +kernel, (List.forall_mem_cons.mpr ⟨sSI5, (List.forall_mem_cons.mpr ⟨sLI1, (List.forall_mem_cons.mpr ⟨sLI5, (List.forall_mem_cons.mpr ⟨sIFeq, (fun _ h => absurd h List.not_mem_nil)⟩)⟩)⟩)⟩)⟩
theorem kOp_addPart_20 : Bok "HerbWaters$Opinion" prog_7_method_7_code (20, bOp_addPart_20, 26) := ⟨by decide +kernel, (List.forall_mem_cons.mpr ⟨sSP, (List.forall_mem_cons.mpr ⟨sGO, (fun _ h => absurd h List.not_mem_nil)⟩)⟩)⟩
theorem kOp_addPart_26 : Bok "HerbWaters$Opinion" prog_7_method_7_code (26, bOp_addPart_26, 29) := ⟨by decide +kernel, (List.forall_mem_cons.mpr ⟨sSP, (fun _ h => absurd h List.not_mem_nil)⟩)⟩
theorem kOp_addPart_29 : Bok "HerbWaters$Opinion" prog_7_method_7_code (29, bOp_addPart_29, 37) := ⟨by decide +kernel, (List.forall_mem_cons.mpr ⟨sSUB, (List.forall_mem_cons.mpr ⟨sSI6, (List.forall_mem_cons.mpr ⟨sLI2, (List.forall_mem_cons.mpr ⟨sC1, (List.forall_mem_cons.mpr ⟨sIClt, (fun _ h => absurd h List.not_mem_nil)⟩)⟩)⟩)⟩)⟩)⟩
theorem kOp_addPart_37 : Bok "HerbWaters$Opinion" prog_7_method_7_code (37, bOp_addPart_37, 42) := ⟨by decide +kernel, (List.forall_mem_cons.mpr ⟨sLI5, (List.forall_mem_cons.mpr ⟨sIFeq, (fun _ h => absurd h List.not_mem_nil)⟩)⟩)⟩
theorem kOp_addPart_42 : Bok "HerbWaters$Opinion" prog_7_method_7_code (42, bOp_addPart_42, 47) := ⟨by decide +kernel, (List.forall_mem_cons.mpr ⟨sLI2, (List.forall_mem_cons.mpr ⟨sC2, (List.forall_mem_cons.mpr ⟨sIClt, (fun _ h => absurd h List.not_mem_nil)⟩)⟩)⟩)⟩
theorem kOp_addPart_47 : Bok "HerbWaters$Opinion" prog_7_method_7_code (47, bOp_addPart_47, 56) := ⟨by decide +kernel, (List.forall_mem_cons.mpr ⟨sLA0, (List.forall_mem_cons.mpr ⟨lOp_g15, (List.forall_mem_cons.mpr ⟨sC1, (List.forall_mem_cons.mpr ⟨sIALD, (List.forall_mem_cons.mpr ⟨sIFne, (fun _ h => absurd h List.not_mem_nil)⟩)⟩)⟩)⟩)⟩)⟩
theorem kOp_addPart_56 : Bok "HerbWaters$Opinion" prog_7_method_7_code (56, bOp_addPart_56, 57) := ⟨by decide +kernel, (List.forall_mem_cons.mpr ⟨sRV, (fun _ h => absurd h List.not_mem_nil)⟩)⟩
theorem kOp_addPart_57 : Bok "HerbWaters$Opinion" prog_7_method_7_code (57, bOp_addPart_57, 66) := ⟨by decide +kernel, (List.forall_mem_cons.mpr ⟨sLA0, (List.forall_mem_cons.mpr ⟨lOp_g15, (List.forall_mem_cons.mpr ⟨sC0, (List.forall_mem_cons.mpr ⟨sIALD, (List.forall_mem_cons.mpr ⟨sIFge, (fun _ h => absurd h List.not_mem_nil)⟩)⟩)⟩)⟩)⟩)⟩
theorem kOp_addPart_66 : Bok "HerbWaters$Opinion" prog_7_method_7_code (66, bOp_addPart_66, 70) := ⟨by decide +kernel, (List.forall_mem_cons.mpr ⟨sC0, (List.forall_mem_cons.mpr ⟨sGO, (fun _ h => absurd h List.not_mem_nil)⟩)⟩)⟩
theorem kOp_addPart_70 : Bok "HerbWaters$Opinion" prog_7_method_7_code (70, bOp_addPart_70, 81) := ⟨by decide +kernel, (List.forall_mem_cons.mpr ⟨sLA0, (List.forall_mem_cons.mpr ⟨lOp_g15, (List.forall_mem_cons.mpr ⟨sC0, (List.forall_mem_cons.mpr ⟨sIALD, (List.forall_mem_cons.mpr ⟨sBP, (List.forall_mem_cons.mpr ⟨sICle, (fun _ h => absurd h List.not_mem_nil)⟩)⟩)⟩)⟩)⟩)⟩)⟩
theorem kOp_addPart_81 : Bok "HerbWaters$Opinion" prog_7_method_7_code (81, bOp_addPart_81, 86) := ⟨by decide +kernel, (List.forall_mem_cons.mpr ⟨sBP, (List.forall_mem_cons.mpr ⟨sGO, (fun _ h => absurd h List.not_mem_nil)⟩)⟩)⟩
theorem kOp_addPart_86 : Bok "HerbWaters$Opinion" prog_7_method_7_code (86, bOp_addPart_86, 92) := ⟨by decide +kernel, (List.forall_mem_cons.mpr ⟨sLA0, (List.forall_mem_cons.mpr ⟨lOp_g15, (List.forall_mem_cons.mpr ⟨sC0, (List.forall_mem_cons.mpr ⟨sIALD, (fun _ h => absurd h List.not_mem_nil)⟩)⟩)⟩)⟩)⟩
theorem kOp_addPart_92 : Bok "HerbWaters$Opinion" prog_7_method_7_code (92, bOp_addPart_92, 104) := ⟨by decide +kernel, (List.forall_mem_cons.mpr ⟨sSI7, (List.forall_mem_cons.mpr ⟨sLA4, (List.forall_mem_cons.mpr ⟨sLI6, (List.forall_mem_cons.mpr ⟨sDUP2, (List.forall_mem_cons.mpr ⟨sIALD, (List.forall_mem_cons.mpr ⟨sLI3, (List.forall_mem_cons.mpr ⟨sIFeq, (fun _ h => absurd h List.not_mem_nil)⟩)⟩)⟩)⟩)⟩)⟩)⟩)⟩
theorem kOp_addPart_104 : Bok "HerbWaters$Opinion" prog_7_method_7_code (104, bOp_addPart_104, 111) := ⟨by decide +kernel, (List.forall_mem_cons.mpr ⟨sLI7, (List.forall_mem_cons.mpr ⟨sC2, (List.forall_mem_cons.mpr ⟨sDIV, (List.forall_mem_cons.mpr ⟨sGO, (fun _ h => absurd h List.not_mem_nil)⟩)⟩)⟩)⟩)⟩
theorem kOp_addPart_111 : Bok "HerbWaters$Opinion" prog_7_method_7_code (111, bOp_addPart_111, 113) := ⟨by decide +kernel, (List.forall_mem_cons.mpr ⟨sLI7, (fun _ h => absurd h List.not_mem_nil)⟩)⟩
theorem kOp_addPart_113 : Bok "HerbWaters$Opinion" prog_7_method_7_code (113, bOp_addPart_113, 116) := ⟨by decide +kernel, (List.forall_mem_cons.mpr ⟨sADD, (List.forall_mem_cons.mpr ⟨sIAST, (List.forall_mem_cons.mpr ⟨sRV, (fun _ h => absurd h List.not_mem_nil)⟩)⟩)⟩)⟩
theorem kOp_addPart : ∀ q ∈ tOp_addPart, Bok "HerbWaters$Opinion" prog_7_method_7_code q := (List.forall_mem_cons.mpr ⟨kOp_addPart_0, (List.forall_mem_cons.mpr ⟨kOp_addPart_7, (List.forall_mem_cons.mpr ⟨kOp_addPart_11, (List.forall_mem_cons.mpr ⟨kOp_addPart_12, (List.forall_mem_cons.mpr ⟨kOp_addPart_20, (List.forall_mem_cons.mpr ⟨kOp_addPart_26, (List.forall_mem_cons.mpr ⟨kOp_addPart_29, (List.forall_mem_cons.mpr ⟨kOp_addPart_37, (List.forall_mem_cons.mpr ⟨kOp_addPart_42, (List.forall_mem_cons.mpr ⟨kOp_addPart_47, (List.forall_mem_cons.mpr ⟨kOp_addPart_56, (List.forall_mem_cons.mpr ⟨kOp_addPart_57, (List.forall_mem_cons.mpr ⟨kOp_addPart_66, (List.forall_mem_cons.mpr ⟨kOp_addPart_70, (List.forall_mem_cons.mpr ⟨kOp_addPart_81, (List.forall_mem_cons.mpr ⟨kOp_addPart_86, (List.forall_mem_cons.mpr ⟨kOp_addPart_92, (List.forall_mem_cons.mpr ⟨kOp_addPart_104, (List.forall_mem_cons.mpr ⟨kOp_addPart_111, (List.forall_mem_cons.mpr ⟨kOp_addPart_113, (fun _ h => absurd h List.not_mem_nil)⟩)⟩)⟩)⟩)⟩)⟩)⟩)⟩)⟩)⟩)⟩)⟩)⟩)⟩)⟩)⟩)⟩)⟩)⟩)⟩)
theorem rOp_addPart : mOp_addPart.2.2.2 = none := rfl
def bOp_joined_0 : List Ir := [iLI0, (iSWb 1007 (108) #[(47), (51), (55), (59), (71), (82), (93), (104)] 47 [48, 52, 56, 60, 72, 83, 94, 105] 109)]
def bOp_joined_48 : List Ir := [iLI1, iLI2, iADD, iRI]
def bOp_joined_52 : List Ir := [iLI1, iLI2, iSUB, iRI]
def bOp_joined_56 : List Ir := [iLI1, iLI2, iMUL, iRI]
def bOp_joined_60 : List Ir := [iLI2, (iIFne (7) 68)]
def bOp_joined_64 : List Ir := [iC0, (iGO (6) 71)]
def bOp_joined_68 : List Ir := [iLI1, iLI2, iDIV]
def bOp_joined_71 : List Ir := [iRI]
def bOp_joined_72 : List Ir := [iLI1, iLI2, (iICge (7) 81)]
def bOp_joined_77 : List Ir := [iC1, (iGO (4) 82)]
def bOp_joined_81 : List Ir := [iC0]
def bOp_joined_82 : List Ir := [iRI]
def bOp_joined_83 : List Ir := [iLI1, iLI2, (iICle (7) 92)]
def bOp_joined_88 : List Ir := [iC1, (iGO (4) 93)]
def bOp_joined_92 : List Ir := [iC0]
def bOp_joined_93 : List Ir := [iRI]
def bOp_joined_94 : List Ir := [iLI1, iLI2, (iICne (7) 103)]
def bOp_joined_99 : List Ir := [iC1, (iGO (4) 104)]
def bOp_joined_103 : List Ir := [iC0]
def bOp_joined_104 : List Ir := [iRI]
def bOp_joined_105 : List Ir := [iLI1, iLI2, iAND, iRI]
def bOp_joined_109 : List Ir := [iLI1, iLI2, iOR, iRI]
def tOp_joined : Tb := [(0, bOp_joined_0, 48), (48, bOp_joined_48, 52), (52, bOp_joined_52, 56), (56, bOp_joined_56, 60), (60, bOp_joined_60, 64), (64, bOp_joined_64, 68), (68, bOp_joined_68, 71), (71, bOp_joined_71, 72), (72, bOp_joined_72, 77), (77, bOp_joined_77, 81), (81, bOp_joined_81, 82), (82, bOp_joined_82, 83), (83, bOp_joined_83, 88), (88, bOp_joined_88, 92), (92, bOp_joined_92, 93), (93, bOp_joined_93, 94), (94, bOp_joined_94, 99), (99, bOp_joined_99, 103), (103, bOp_joined_103, 104), (104, bOp_joined_104, 105), (105, bOp_joined_105, 109), (109, bOp_joined_109, 113)]
theorem fOp_joined_0 : tbf tOp_joined 0 = some (bOp_joined_0, 48) := rfl
theorem fOp_joined_48 : tbf tOp_joined 48 = some (bOp_joined_48, 52) := rfl
theorem fOp_joined_52 : tbf tOp_joined 52 = some (bOp_joined_52, 56) := rfl
theorem fOp_joined_56 : tbf tOp_joined 56 = some (bOp_joined_56, 60) := rfl
theorem fOp_joined_60 : tbf tOp_joined 60 = some (bOp_joined_60, 64) := rfl
theorem fOp_joined_64 : tbf tOp_joined 64 = some (bOp_joined_64, 68) := rfl
theorem fOp_joined_68 : tbf tOp_joined 68 = some (bOp_joined_68, 71) := rfl
theorem fOp_joined_71 : tbf tOp_joined 71 = some (bOp_joined_71, 72) := rfl
theorem fOp_joined_72 : tbf tOp_joined 72 = some (bOp_joined_72, 77) := rfl
theorem fOp_joined_77 : tbf tOp_joined 77 = some (bOp_joined_77, 81) := rfl
theorem fOp_joined_81 : tbf tOp_joined 81 = some (bOp_joined_81, 82) := rfl
theorem fOp_joined_82 : tbf tOp_joined 82 = some (bOp_joined_82, 83) := rfl
theorem fOp_joined_83 : tbf tOp_joined 83 = some (bOp_joined_83, 88) := rfl
theorem fOp_joined_88 : tbf tOp_joined 88 = some (bOp_joined_88, 92) := rfl
theorem fOp_joined_92 : tbf tOp_joined 92 = some (bOp_joined_92, 93) := rfl
theorem fOp_joined_93 : tbf tOp_joined 93 = some (bOp_joined_93, 94) := rfl
theorem fOp_joined_94 : tbf tOp_joined 94 = some (bOp_joined_94, 99) := rfl
theorem fOp_joined_99 : tbf tOp_joined 99 = some (bOp_joined_99, 103) := rfl
theorem fOp_joined_103 : tbf tOp_joined 103 = some (bOp_joined_103, 104) := rfl
theorem fOp_joined_104 : tbf tOp_joined 104 = some (bOp_joined_104, 105) := rfl
theorem fOp_joined_105 : tbf tOp_joined 105 = some (bOp_joined_105, 109) := rfl
theorem fOp_joined_109 : tbf tOp_joined 109 = some (bOp_joined_109, 113) := rfl
theorem kOp_joined_0 : Bok "HerbWaters$Opinion" prog_7_method_8_code (0, bOp_joined_0, 48) := ⟨by decide +kernel, (List.forall_mem_cons.mpr ⟨sLI0, (List.forall_mem_cons.mpr ⟨sSWb, (fun _ h => absurd h List.not_mem_nil)⟩)⟩)⟩
theorem kOp_joined_48 : Bok "HerbWaters$Opinion" prog_7_method_8_code (48, bOp_joined_48, 52) := ⟨by decide +kernel, (List.forall_mem_cons.mpr ⟨sLI1, (List.forall_mem_cons.mpr ⟨sLI2, (List.forall_mem_cons.mpr ⟨sADD, (List.forall_mem_cons.mpr ⟨sRI, (fun _ h => absurd h List.not_mem_nil)⟩)⟩)⟩)⟩)⟩
theorem kOp_joined_52 : Bok "HerbWaters$Opinion" prog_7_method_8_code (52, bOp_joined_52, 56) := ⟨by decide +kernel, (List.forall_mem_cons.mpr ⟨sLI1, (List.forall_mem_cons.mpr ⟨sLI2, (List.forall_mem_cons.mpr ⟨sSUB, (List.forall_mem_cons.mpr ⟨sRI, (fun _ h => absurd h List.not_mem_nil)⟩)⟩)⟩)⟩)⟩
theorem kOp_joined_56 : Bok "HerbWaters$Opinion" prog_7_method_8_code (56, bOp_joined_56, 60) := ⟨by decide +kernel, (List.forall_mem_cons.mpr ⟨sLI1, (List.forall_mem_cons.mpr ⟨sLI2, (List.forall_mem_cons.mpr ⟨sMUL, (List.forall_mem_cons.mpr ⟨sRI, (fun _ h => absurd h List.not_mem_nil)⟩)⟩)⟩)⟩)⟩
theorem kOp_joined_60 : Bok "HerbWaters$Opinion" prog_7_method_8_code (60, bOp_joined_60, 64) := ⟨by decide +kernel, (List.forall_mem_cons.mpr ⟨sLI2, (List.forall_mem_cons.mpr ⟨sIFne, (fun _ h => absurd h List.not_mem_nil)⟩)⟩)⟩
theorem kOp_joined_64 : Bok "HerbWaters$Opinion" prog_7_method_8_code (64, bOp_joined_64, 68) := ⟨by decide +kernel, (List.forall_mem_cons.mpr ⟨sC0, (List.forall_mem_cons.mpr ⟨sGO, (fun _ h => absurd h List.not_mem_nil)⟩)⟩)⟩
theorem kOp_joined_68 : Bok "HerbWaters$Opinion" prog_7_method_8_code (68, bOp_joined_68, 71) := ⟨by decide +kernel, (List.forall_mem_cons.mpr ⟨sLI1, (List.forall_mem_cons.mpr ⟨sLI2, (List.forall_mem_cons.mpr ⟨sDIV, (fun _ h => absurd h List.not_mem_nil)⟩)⟩)⟩)⟩
theorem kOp_joined_71 : Bok "HerbWaters$Opinion" prog_7_method_8_code (71, bOp_joined_71, 72) := ⟨by decide +kernel, (List.forall_mem_cons.mpr ⟨sRI, (fun _ h => absurd h List.not_mem_nil)⟩)⟩
theorem kOp_joined_72 : Bok "HerbWaters$Opinion" prog_7_method_8_code (72, bOp_joined_72, 77) := ⟨by decide +kernel, (List.forall_mem_cons.mpr ⟨sLI1, (List.forall_mem_cons.mpr ⟨sLI2, (List.forall_mem_cons.mpr ⟨sICge, (fun _ h => absurd h List.not_mem_nil)⟩)⟩)⟩)⟩
theorem kOp_joined_77 : Bok "HerbWaters$Opinion" prog_7_method_8_code (77, bOp_joined_77, 81) := ⟨by decide +kernel, (List.forall_mem_cons.mpr ⟨sC1, (List.forall_mem_cons.mpr ⟨sGO, (fun _ h => absurd h List.not_mem_nil)⟩)⟩)⟩
theorem kOp_joined_81 : Bok "HerbWaters$Opinion" prog_7_method_8_code (81, bOp_joined_81, 82) := ⟨by decide +kernel, (List.forall_mem_cons.mpr ⟨sC0, (fun _ h => absurd h List.not_mem_nil)⟩)⟩
theorem kOp_joined_82 : Bok "HerbWaters$Opinion" prog_7_method_8_code (82, bOp_joined_82, 83) := ⟨by decide +kernel, (List.forall_mem_cons.mpr ⟨sRI, (fun _ h => absurd h List.not_mem_nil)⟩)⟩
theorem kOp_joined_83 : Bok "HerbWaters$Opinion" prog_7_method_8_code (83, bOp_joined_83, 88) := ⟨by decide +kernel, (List.forall_mem_cons.mpr ⟨sLI1, (List.forall_mem_cons.mpr ⟨sLI2, (List.forall_mem_cons.mpr ⟨sICle, (fun _ h => absurd h List.not_mem_nil)⟩)⟩)⟩)⟩
theorem kOp_joined_88 : Bok "HerbWaters$Opinion" prog_7_method_8_code (88, bOp_joined_88, 92) := ⟨by decide +kernel, (List.forall_mem_cons.mpr ⟨sC1, (List.forall_mem_cons.mpr ⟨sGO, (fun _ h => absurd h List.not_mem_nil)⟩)⟩)⟩
theorem kOp_joined_92 : Bok "HerbWaters$Opinion" prog_7_method_8_code (92, bOp_joined_92, 93) := ⟨by decide +kernel, (List.forall_mem_cons.mpr ⟨sC0, (fun _ h => absurd h List.not_mem_nil)⟩)⟩
theorem kOp_joined_93 : Bok "HerbWaters$Opinion" prog_7_method_8_code (93, bOp_joined_93, 94) := ⟨by decide +kernel, (List.forall_mem_cons.mpr ⟨sRI, (fun _ h => absurd h List.not_mem_nil)⟩)⟩
theorem kOp_joined_94 : Bok "HerbWaters$Opinion" prog_7_method_8_code (94, bOp_joined_94, 99) := ⟨by decide +kernel, (List.forall_mem_cons.mpr ⟨sLI1, (List.forall_mem_cons.mpr ⟨sLI2, (List.forall_mem_cons.mpr ⟨sICne, (fun _ h => absurd h List.not_mem_nil)⟩)⟩)⟩)⟩
theorem kOp_joined_99 : Bok "HerbWaters$Opinion" prog_7_method_8_code (99, bOp_joined_99, 103) := ⟨by decide +kernel, (List.forall_mem_cons.mpr ⟨sC1, (List.forall_mem_cons.mpr ⟨sGO, (fun _ h => absurd h List.not_mem_nil)⟩)⟩)⟩
theorem kOp_joined_103 : Bok "HerbWaters$Opinion" prog_7_method_8_code (103, bOp_joined_103, 104) := ⟨by decide +kernel, (List.forall_mem_cons.mpr ⟨sC0, (fun _ h => absurd h List.not_mem_nil)⟩)⟩
theorem kOp_joined_104 : Bok "HerbWaters$Opinion" prog_7_method_8_code (104, bOp_joined_104, 105) := ⟨by decide +kernel, (List.forall_mem_cons.mpr ⟨sRI, (fun _ h => absurd h List.not_mem_nil)⟩)⟩
theorem kOp_joined_105 : Bok "HerbWaters$Opinion" prog_7_method_8_code (105, bOp_joined_105, 109) := ⟨by decide +kernel, (List.forall_mem_cons.mpr ⟨sLI1, (List.forall_mem_cons.mpr ⟨sLI2, (List.forall_mem_cons.mpr ⟨sAND, (List.forall_mem_cons.mpr ⟨sRI, (fun _ h => absurd h List.not_mem_nil)⟩)⟩)⟩)⟩)⟩
theorem kOp_joined_109 : Bok "HerbWaters$Opinion" prog_7_method_8_code (109, bOp_joined_109, 113) := ⟨by decide +kernel, (List.forall_mem_cons.mpr ⟨sLI1, (List.forall_mem_cons.mpr ⟨sLI2, (List.forall_mem_cons.mpr ⟨sOR, (List.forall_mem_cons.mpr ⟨sRI, (fun _ h => absurd h List.not_mem_nil)⟩)⟩)⟩)⟩)⟩
theorem kOp_joined : ∀ q ∈ tOp_joined, Bok "HerbWaters$Opinion" prog_7_method_8_code q := (List.forall_mem_cons.mpr ⟨kOp_joined_0, (List.forall_mem_cons.mpr ⟨kOp_joined_48, (List.forall_mem_cons.mpr ⟨kOp_joined_52, (List.forall_mem_cons.mpr ⟨kOp_joined_56, (List.forall_mem_cons.mpr ⟨kOp_joined_60, (List.forall_mem_cons.mpr ⟨kOp_joined_64, (List.forall_mem_cons.mpr ⟨kOp_joined_68, (List.forall_mem_cons.mpr ⟨kOp_joined_71, (List.forall_mem_cons.mpr ⟨kOp_joined_72, (List.forall_mem_cons.mpr ⟨kOp_joined_77, (List.forall_mem_cons.mpr ⟨kOp_joined_81, (List.forall_mem_cons.mpr ⟨kOp_joined_82, (List.forall_mem_cons.mpr ⟨kOp_joined_83, (List.forall_mem_cons.mpr ⟨kOp_joined_88, (List.forall_mem_cons.mpr ⟨kOp_joined_92, (List.forall_mem_cons.mpr ⟨kOp_joined_93, (List.forall_mem_cons.mpr ⟨kOp_joined_94, (List.forall_mem_cons.mpr ⟨kOp_joined_99, (List.forall_mem_cons.mpr ⟨kOp_joined_103, (List.forall_mem_cons.mpr ⟨kOp_joined_104, (List.forall_mem_cons.mpr ⟨kOp_joined_105, (List.forall_mem_cons.mpr ⟨kOp_joined_109, (fun _ h => absurd h List.not_mem_nil)⟩)⟩)⟩)⟩)⟩)⟩)⟩)⟩)⟩)⟩)⟩)⟩)⟩)⟩)⟩)⟩)⟩)⟩)⟩)⟩)⟩)⟩)
theorem rOp_joined : mOp_joined.2.2.2 = some .int := rfl
def mOr_read : Mt := (⟨"HerbWaters$OpinionReader", "read", "(LHerbWaters$Opinion;)Z"⟩, prog_8_method_2_code, 3, some .boolean)
theorem ok_Or_read : Mok mOr_read := ⟨gtb_mem 1313 (by decide +kernel) rfl, gtb_mem 103 (by decide +kernel) rfl, by decide +kernel, by decide⟩
theorem lOr_p19 : Snd "HerbWaters$OpinionReader" (iPR 19 6 1) := sPR _ rfl rfl (gtb_mem 521 (by decide +kernel) rfl)
theorem lOr_g19 : Snd "HerbWaters$OpinionReader" (iGR 19 6 1) := sGR _ rfl (gtb_mem 521 (by decide +kernel) rfl)
theorem lOr_v23 : Snd "HerbWaters$OpinionReader" (iCV0 23 5 mOp_clear) := sCV0 _ rfl rfl ok_Op_clear (gtb_mem 1270 (by decide +kernel) rfl) (gtb_mem 1271 (by decide +kernel) rfl) (gtb_mem 1314 (by decide +kernel) rfl)
theorem lOr_p9 : Snd "HerbWaters$OpinionReader" (iPI 9 6 2) := sPI _ rfl rfl (gtb_mem 522 (by decide +kernel) rfl)
theorem lOr_g15 : Snd "HerbWaters$OpinionReader" (iGR 15 6 0) := sGR _ rfl (gtb_mem 520 (by decide +kernel) rfl)
theorem lOr_v28 : Snd "HerbWaters$OpinionReader" (iCV0 28 7 mTp_isEnded) := sCV0 _ rfl rfl ok_Tp_isEnded (gtb_mem 1138 (by decide +kernel) rfl) (gtb_mem 1139 (by decide +kernel) rfl) (gtb_mem 1315 (by decide +kernel) rfl)
def mOr_readPart : Mt := (⟨"HerbWaters$OpinionReader", "readPart", "(I)Z"⟩, prog_8_method_3_code, 4, some .boolean)
theorem ok_Or_readPart : Mok mOr_readPart := ⟨gtb_mem 1319 (by decide +kernel) rfl, gtb_mem 103 (by decide +kernel) rfl, by decide +kernel, by decide⟩
theorem lOr_v34 : Snd "HerbWaters$OpinionReader" (iCV1 34 6 mOr_readPart) := sCV1 _ rfl rfl ok_Or_readPart (gtb_mem 1318 (by decide +kernel) rfl) (gtb_mem 26 (by decide +kernel) rfl) (gtb_mem 1316 (by decide +kernel) rfl)
theorem lOr_v38 : Snd "HerbWaters$OpinionReader" (iCV1 38 7 mTp_needSign) := sCV1 _ rfl rfl ok_Tp_needSign (gtb_mem 1254 (by decide +kernel) rfl) (gtb_mem 1255 (by decide +kernel) rfl) (gtb_mem 1340 (by decide +kernel) rfl)
def bOr_read_0 : List Ir := [iLA0, iLA1, (iPR 19 6 1), iLA0, (iGR 19 6 1), (iCV0 23 5 mOp_clear), iLA0, iC0, (iPI 9 6 2), iC0, iSI2]
def bOr_read_19 : List Ir := [iLI2, (iBP 6), (iICgt (43) 65)]
def bOr_read_25 : List Ir := [iLA0, (iGR 15 6 0), (iCV0 28 7 mTp_isEnded), (iIFeq (5) 37)]
def bOr_read_35 : List Ir := [iC1, iRI]
def bOr_read_37 : List Ir := [iLA0, iLI2, (iCV1 34 6 mOr_readPart), (iIFeq (15) 57)]
def bOr_read_45 : List Ir := [iLA0, (iGR 15 6 0), (iBP 59), (iCV1 38 7 mTp_needSign), (iIFne (5) 59)]
def bOr_read_57 : List Ir := [iC0, iRI]
def bOr_read_59 : List Ir := [(iINC2 1), (iGO (-43) 19)]
def bOr_read_65 : List Ir := [iC0, iRI]
def tOr_read : Tb := [(0, bOr_read_0, 19), (19, bOr_read_19, 25), (25, bOr_read_25, 35), (35, bOr_read_35, 37), (37, bOr_read_37, 45), (45, bOr_read_45, 57), (57, bOr_read_57, 59), (59, bOr_read_59, 65), (65, bOr_read_65, 67)]
theorem fOr_read_0 : tbf tOr_read 0 = some (bOr_read_0, 19) := rfl
theorem fOr_read_19 : tbf tOr_read 19 = some (bOr_read_19, 25) := rfl
theorem fOr_read_25 : tbf tOr_read 25 = some (bOr_read_25, 35) := rfl
theorem fOr_read_35 : tbf tOr_read 35 = some (bOr_read_35, 37) := rfl
theorem fOr_read_37 : tbf tOr_read 37 = some (bOr_read_37, 45) := rfl
theorem fOr_read_45 : tbf tOr_read 45 = some (bOr_read_45, 57) := rfl
theorem fOr_read_57 : tbf tOr_read 57 = some (bOr_read_57, 59) := rfl
theorem fOr_read_59 : tbf tOr_read 59 = some (bOr_read_59, 65) := rfl
theorem fOr_read_65 : tbf tOr_read 65 = some (bOr_read_65, 67) := rfl
theorem kOr_read_0 : Bok "HerbWaters$OpinionReader" prog_8_method_2_code (0, bOr_read_0, 19) := ⟨by decide +kernel, (List.forall_mem_cons.mpr ⟨sLA0, (List.forall_mem_cons.mpr ⟨sLA1, (List.forall_mem_cons.mpr ⟨lOr_p19, (List.forall_mem_cons.mpr ⟨sLA0, (List.forall_mem_cons.mpr ⟨lOr_g19, (List.forall_mem_cons.mpr ⟨lOr_v23, (List.forall_mem_cons.mpr ⟨sLA0, (List.forall_mem_cons.mpr ⟨sC0, (List.forall_mem_cons.mpr ⟨lOr_p9, (List.forall_mem_cons.mpr ⟨sC0, (List.forall_mem_cons.mpr ⟨sSI2, (fun _ h => absurd h List.not_mem_nil)⟩)⟩)⟩)⟩)⟩)⟩)⟩)⟩)⟩)⟩)⟩)⟩
theorem kOr_read_19 : Bok "HerbWaters$OpinionReader" prog_8_method_2_code (19, bOr_read_19, 25) := ⟨by decide +kernel, (List.forall_mem_cons.mpr ⟨sLI2, (List.forall_mem_cons.mpr ⟨sBP, (List.forall_mem_cons.mpr ⟨sICgt, (fun _ h => absurd h List.not_mem_nil)⟩)⟩)⟩)⟩
theorem kOr_read_25 : Bok "HerbWaters$OpinionReader" prog_8_method_2_code (25, bOr_read_25, 35) := ⟨by decide +kernel, (List.forall_mem_cons.mpr ⟨sLA0, (List.forall_mem_cons.mpr ⟨lOr_g15, (List.forall_mem_cons.mpr ⟨lOr_v28, (List.forall_mem_cons.mpr ⟨sIFeq, (fun _ h => absurd h List.not_mem_nil)⟩)⟩)⟩)⟩)⟩
theorem kOr_read_35 : Bok "HerbWaters$OpinionReader" prog_8_method_2_code (35, bOr_read_35, 37) := ⟨by decide +kernel, (List.forall_mem_cons.mpr ⟨sC1, (List.forall_mem_cons.mpr ⟨sRI, (fun _ h => absurd h List.not_mem_nil)⟩)⟩)⟩
theorem kOr_read_37 : Bok "HerbWaters$OpinionReader" prog_8_method_2_code (37, bOr_read_37, 45) := ⟨by decide +kernel, (List.forall_mem_cons.mpr ⟨sLA0, (List.forall_mem_cons.mpr ⟨sLI2, (List.forall_mem_cons.mpr ⟨lOr_v34, (List.forall_mem_cons.mpr ⟨sIFeq, (fun _ h => absurd h List.not_mem_nil)⟩)⟩)⟩)⟩)⟩
theorem kOr_read_45 : Bok "HerbWaters$OpinionReader" prog_8_method_2_code (45, bOr_read_45, 57) := ⟨by decide +kernel, (List.forall_mem_cons.mpr ⟨sLA0, (List.forall_mem_cons.mpr ⟨lOr_g15, (List.forall_mem_cons.mpr ⟨sBP, (List.forall_mem_cons.mpr ⟨lOr_v38, (List.forall_mem_cons.mpr ⟨sIFne, (fun _ h => absurd h List.not_mem_nil)⟩)⟩)⟩)⟩)⟩)⟩
theorem kOr_read_57 : Bok "HerbWaters$OpinionReader" prog_8_method_2_code (57, bOr_read_57, 59) := ⟨by decide +kernel, (List.forall_mem_cons.mpr ⟨sC0, (List.forall_mem_cons.mpr ⟨sRI, (fun _ h => absurd h List.not_mem_nil)⟩)⟩)⟩
theorem kOr_read_59 : Bok "HerbWaters$OpinionReader" prog_8_method_2_code (59, bOr_read_59, 65) := ⟨by decide +kernel, (List.forall_mem_cons.mpr ⟨sINC2, (List.forall_mem_cons.mpr ⟨sGO, (fun _ h => absurd h List.not_mem_nil)⟩)⟩)⟩
theorem kOr_read_65 : Bok "HerbWaters$OpinionReader" prog_8_method_2_code (65, bOr_read_65, 67) := ⟨by decide +kernel, (List.forall_mem_cons.mpr ⟨sC0, (List.forall_mem_cons.mpr ⟨sRI, (fun _ h => absurd h List.not_mem_nil)⟩)⟩)⟩
theorem kOr_read : ∀ q ∈ tOr_read, Bok "HerbWaters$OpinionReader" prog_8_method_2_code q := (List.forall_mem_cons.mpr ⟨kOr_read_0, (List.forall_mem_cons.mpr ⟨kOr_read_19, (List.forall_mem_cons.mpr ⟨kOr_read_25, (List.forall_mem_cons.mpr ⟨kOr_read_35, (List.forall_mem_cons.mpr ⟨kOr_read_37, (List.forall_mem_cons.mpr ⟨kOr_read_45, (List.forall_mem_cons.mpr ⟨kOr_read_57, (List.forall_mem_cons.mpr ⟨kOr_read_59, (List.forall_mem_cons.mpr ⟨kOr_read_65, (fun _ h => absurd h List.not_mem_nil)⟩)⟩)⟩)⟩)⟩)⟩)⟩)⟩)⟩)
theorem rOr_read : mOr_read.2.2.2 = some .boolean := rfl
theorem lOr_t42 : Snd "HerbWaters$OpinionReader" (iGS 42 5) := sGS (gtb_mem 1320 (by decide +kernel) rfl)
theorem lOr_v48 : Snd "HerbWaters$OpinionReader" (iCV1 48 7 mTp_takes) := sCV1 _ rfl rfl ok_Tp_takes (gtb_mem 1322 (by decide +kernel) rfl) (gtb_mem 1323 (by decide +kernel) rfl) (gtb_mem 1321 (by decide +kernel) rfl)
theorem lOr_v52 : Snd "HerbWaters$OpinionReader" (iCV1 52 7 mTp_fails) := sCV1 _ rfl rfl ok_Tp_fails (gtb_mem 1187 (by decide +kernel) rfl) (gtb_mem 1188 (by decide +kernel) rfl) (gtb_mem 1325 (by decide +kernel) rfl)
theorem lOr_v55 : Snd "HerbWaters$OpinionReader" (iCV0 55 7 mTp_nextHerb) := sCV0 _ rfl rfl ok_Tp_nextHerb (gtb_mem 1235 (by decide +kernel) rfl) (gtb_mem 1236 (by decide +kernel) rfl) (gtb_mem 1326 (by decide +kernel) rfl)
def mOr_readSum : Mt := (⟨"HerbWaters$OpinionReader", "readSum", "()Z"⟩, prog_8_method_7_code, 5, some .boolean)
theorem ok_Or_readSum : Mok mOr_readSum := ⟨gtb_mem 1330 (by decide +kernel) rfl, gtb_mem 103 (by decide +kernel) rfl, by decide +kernel, by decide⟩
theorem lOr_v59 : Snd "HerbWaters$OpinionReader" (iCV0 59 6 mOr_readSum) := sCV0 _ rfl rfl ok_Or_readSum (gtb_mem 1329 (by decide +kernel) rfl) (gtb_mem 27 (by decide +kernel) rfl) (gtb_mem 1327 (by decide +kernel) rfl)
theorem lOr_t62 : Snd "HerbWaters$OpinionReader" (iGS 62 15) := sGS (gtb_mem 1354 (by decide +kernel) rfl)
def mOr_readCondition : Mt := (⟨"HerbWaters$OpinionReader", "readCondition", "()Z"⟩, prog_8_method_4_code, 4, some .boolean)
theorem ok_Or_readCondition : Mok mOr_readCondition := ⟨gtb_mem 1359 (by decide +kernel) rfl, gtb_mem 103 (by decide +kernel) rfl, by decide +kernel, by decide⟩
theorem lOr_v65 : Snd "HerbWaters$OpinionReader" (iCV0 65 6 mOr_readCondition) := sCV0 _ rfl rfl ok_Or_readCondition (gtb_mem 1358 (by decide +kernel) rfl) (gtb_mem 30 (by decide +kernel) rfl) (gtb_mem 1356 (by decide +kernel) rfl)
theorem lOr_v68 : Snd "HerbWaters$OpinionReader" (iCV2 68 5 mOp_endPart) := sCV2 _ rfl rfl ok_Op_endPart (gtb_mem 1371 (by decide +kernel) rfl) (gtb_mem 1372 (by decide +kernel) rfl) (gtb_mem 1370 (by decide +kernel) rfl)
def bOr_readPart_0 : List Ir := [iLA0, (iGR 15 6 0), (iGS 42 5), (iCV1 48 7 mTp_takes), (iIFne (12) 22)]
def bOr_readPart_13 : List Ir := [iLA0, (iGR 15 6 0), iC1, (iCV1 52 7 mTp_fails), iRI]
def bOr_readPart_22 : List Ir := [iLI1, (iBP 6), (iIClt (12) 37)]
def bOr_readPart_28 : List Ir := [iLA0, (iGR 15 6 0), iC3, (iCV1 52 7 mTp_fails), iRI]
def bOr_readPart_37 : List Ir := [iLA0, (iGR 15 6 0), (iCV0 55 7 mTp_nextHerb), iSI2, iLI2, iCm1, (iICeq (10) 57)]
def bOr_readPart_50 : List Ir := [iLA0, (iCV0 59 6 mOr_readSum), (iIFne (5) 59)]
def bOr_readPart_57 : List Ir := [iC0, iRI]
def bOr_readPart_59 : List Ir := [iLA0, (iGR 15 6 0), (iGS 62 15), (iCV1 48 7 mTp_takes), iSI3, iLI3, (iIFeq (12) 83)]
def bOr_readPart_74 : List Ir := [iLA0, (iCV0 65 6 mOr_readCondition), (iIFne (5) 83)]
def bOr_readPart_81 : List Ir := [iC0, iRI]
def bOr_readPart_83 : List Ir := [iLA0, (iGR 19 6 1), iLI2, iLI3, (iCV2 68 5 mOp_endPart), iC1, iRI]
def tOr_readPart : Tb := [(0, bOr_readPart_0, 13), (13, bOr_readPart_13, 22), (22, bOr_readPart_22, 28), (28, bOr_readPart_28, 37), (37, bOr_readPart_37, 50), (50, bOr_readPart_50, 57), (57, bOr_readPart_57, 59), (59, bOr_readPart_59, 74), (74, bOr_readPart_74, 81), (81, bOr_readPart_81, 83), (83, bOr_readPart_83, 94)]
theorem fOr_readPart_0 : tbf tOr_readPart 0 = some (bOr_readPart_0, 13) := rfl
theorem fOr_readPart_13 : tbf tOr_readPart 13 = some (bOr_readPart_13, 22) := rfl
theorem fOr_readPart_22 : tbf tOr_readPart 22 = some (bOr_readPart_22, 28) := rfl
theorem fOr_readPart_28 : tbf tOr_readPart 28 = some (bOr_readPart_28, 37) := rfl
theorem fOr_readPart_37 : tbf tOr_readPart 37 = some (bOr_readPart_37, 50) := rfl
theorem fOr_readPart_50 : tbf tOr_readPart 50 = some (bOr_readPart_50, 57) := rfl
theorem fOr_readPart_57 : tbf tOr_readPart 57 = some (bOr_readPart_57, 59) := rfl
theorem fOr_readPart_59 : tbf tOr_readPart 59 = some (bOr_readPart_59, 74) := rfl
theorem fOr_readPart_74 : tbf tOr_readPart 74 = some (bOr_readPart_74, 81) := rfl
theorem fOr_readPart_81 : tbf tOr_readPart 81 = some (bOr_readPart_81, 83) := rfl
theorem fOr_readPart_83 : tbf tOr_readPart 83 = some (bOr_readPart_83, 94) := rfl
theorem kOr_readPart_0 : Bok "HerbWaters$OpinionReader" prog_8_method_3_code (0, bOr_readPart_0, 13) := ⟨by decide +kernel, (List.forall_mem_cons.mpr ⟨sLA0, (List.forall_mem_cons.mpr ⟨lOr_g15, (List.forall_mem_cons.mpr ⟨lOr_t42, (List.forall_mem_cons.mpr ⟨lOr_v48, (List.forall_mem_cons.mpr ⟨sIFne, (fun _ h => absurd h List.not_mem_nil)⟩)⟩)⟩)⟩)⟩)⟩
theorem kOr_readPart_13 : Bok "HerbWaters$OpinionReader" prog_8_method_3_code (13, bOr_readPart_13, 22) := ⟨by decide +kernel, (List.forall_mem_cons.mpr ⟨sLA0, (List.forall_mem_cons.mpr ⟨lOr_g15, (List.forall_mem_cons.mpr ⟨sC1, (List.forall_mem_cons.mpr ⟨lOr_v52, (List.forall_mem_cons.mpr ⟨sRI, (fun _ h => absurd h List.not_mem_nil)⟩)⟩)⟩)⟩)⟩)⟩
theorem kOr_readPart_22 : Bok "HerbWaters$OpinionReader" prog_8_method_3_code (22, bOr_readPart_22, 28) := ⟨by decide +kernel, (List.forall_mem_cons.mpr ⟨sLI1, (List.forall_mem_cons.mpr ⟨sBP, (List.forall_mem_cons.mpr ⟨sIClt, (fun _ h => absurd h List.not_mem_nil)⟩)⟩)⟩)⟩
theorem kOr_readPart_28 : Bok "HerbWaters$OpinionReader" prog_8_method_3_code (28, bOr_readPart_28, 37) := ⟨by decide +kernel, (List.forall_mem_cons.mpr ⟨sLA0, (List.forall_mem_cons.mpr ⟨lOr_g15, (List.forall_mem_cons.mpr ⟨sC3, (List.forall_mem_cons.mpr ⟨lOr_v52, (List.forall_mem_cons.mpr ⟨sRI, (fun _ h => absurd h List.not_mem_nil)⟩)⟩)⟩)⟩)⟩)⟩
theorem kOr_readPart_37 : Bok "HerbWaters$OpinionReader" prog_8_method_3_code (37, bOr_readPart_37, 50) := ⟨by decide +kernel, (List.forall_mem_cons.mpr ⟨sLA0, (List.forall_mem_cons.mpr ⟨lOr_g15, (List.forall_mem_cons.mpr ⟨lOr_v55, (List.forall_mem_cons.mpr ⟨sSI2, (List.forall_mem_cons.mpr ⟨sLI2, (List.forall_mem_cons.mpr ⟨sCm1, (List.forall_mem_cons.mpr ⟨sICeq, (fun _ h => absurd h List.not_mem_nil)⟩)⟩)⟩)⟩)⟩)⟩)⟩)⟩
theorem kOr_readPart_50 : Bok "HerbWaters$OpinionReader" prog_8_method_3_code (50, bOr_readPart_50, 57) := ⟨by decide +kernel, (List.forall_mem_cons.mpr ⟨sLA0, (List.forall_mem_cons.mpr ⟨lOr_v59, (List.forall_mem_cons.mpr ⟨sIFne, (fun _ h => absurd h List.not_mem_nil)⟩)⟩)⟩)⟩
theorem kOr_readPart_57 : Bok "HerbWaters$OpinionReader" prog_8_method_3_code (57, bOr_readPart_57, 59) := ⟨by decide +kernel, (List.forall_mem_cons.mpr ⟨sC0, (List.forall_mem_cons.mpr ⟨sRI, (fun _ h => absurd h List.not_mem_nil)⟩)⟩)⟩
theorem kOr_readPart_59 : Bok "HerbWaters$OpinionReader" prog_8_method_3_code (59, bOr_readPart_59, 74) := ⟨by decide +kernel, (List.forall_mem_cons.mpr ⟨sLA0, (List.forall_mem_cons.mpr ⟨lOr_g15, (List.forall_mem_cons.mpr ⟨lOr_t62, (List.forall_mem_cons.mpr ⟨lOr_v48, (List.forall_mem_cons.mpr ⟨sSI3, (List.forall_mem_cons.mpr ⟨sLI3, (List.forall_mem_cons.mpr ⟨sIFeq, (fun _ h => absurd h List.not_mem_nil)⟩)⟩)⟩)⟩)⟩)⟩)⟩)⟩
theorem kOr_readPart_74 : Bok "HerbWaters$OpinionReader" prog_8_method_3_code (74, bOr_readPart_74, 81) := ⟨by decide +kernel, (List.forall_mem_cons.mpr ⟨sLA0, (List.forall_mem_cons.mpr ⟨lOr_v65, (List.forall_mem_cons.mpr ⟨sIFne, (fun _ h => absurd h List.not_mem_nil)⟩)⟩)⟩)⟩
theorem kOr_readPart_81 : Bok "HerbWaters$OpinionReader" prog_8_method_3_code (81, bOr_readPart_81, 83) := ⟨by decide +kernel, (List.forall_mem_cons.mpr ⟨sC0, (List.forall_mem_cons.mpr ⟨sRI, (fun _ h => absurd h List.not_mem_nil)⟩)⟩)⟩
theorem kOr_readPart_83 : Bok "HerbWaters$OpinionReader" prog_8_method_3_code (83, bOr_readPart_83, 94) := ⟨by decide +kernel, (List.forall_mem_cons.mpr ⟨sLA0, (List.forall_mem_cons.mpr ⟨lOr_g19, (List.forall_mem_cons.mpr ⟨sLI2, (List.forall_mem_cons.mpr ⟨sLI3, (List.forall_mem_cons.mpr ⟨lOr_v68, (List.forall_mem_cons.mpr ⟨sC1, (List.forall_mem_cons.mpr ⟨sRI, (fun _ h => absurd h List.not_mem_nil)⟩)⟩)⟩)⟩)⟩)⟩)⟩)⟩
theorem kOr_readPart : ∀ q ∈ tOr_readPart, Bok "HerbWaters$OpinionReader" prog_8_method_3_code q := (List.forall_mem_cons.mpr ⟨kOr_readPart_0, (List.forall_mem_cons.mpr ⟨kOr_readPart_13, (List.forall_mem_cons.mpr ⟨kOr_readPart_22, (List.forall_mem_cons.mpr ⟨kOr_readPart_28, (List.forall_mem_cons.mpr ⟨kOr_readPart_37, (List.forall_mem_cons.mpr ⟨kOr_readPart_50, (List.forall_mem_cons.mpr ⟨kOr_readPart_57, (List.forall_mem_cons.mpr ⟨kOr_readPart_59, (List.forall_mem_cons.mpr ⟨kOr_readPart_74, (List.forall_mem_cons.mpr ⟨kOr_readPart_81, (List.forall_mem_cons.mpr ⟨kOr_readPart_83, (fun _ h => absurd h List.not_mem_nil)⟩)⟩)⟩)⟩)⟩)⟩)⟩)⟩)⟩)⟩)⟩)
theorem rOr_readPart : mOr_readPart.2.2.2 = some .boolean := rfl
