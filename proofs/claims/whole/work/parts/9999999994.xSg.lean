/-! code of the model's constructor; by program (wip/whole/gen_S6.py) -/
def mM_init : Mt := (⟨"HerbWatersModel", "<init>", "()V"⟩, prog_14_method_1_code, 1, none)
theorem ok_M_init : Mok mM_init := ⟨gtb_mem 1704 (by decide +kernel) rfl, gtb_mem 107 (by decide +kernel) rfl, by decide +kernel, by decide⟩
theorem lM_i1 : Snd "HerbWatersModel" (iOI 1) := sOI (gtb_mem 1705 (by decide +kernel) rfl) (gtb_mem 130 (by decide +kernel) rfl) (gtb_mem 131 (by decide +kernel) rfl)
theorem lM_f13 : SndI "HerbWatersModel" (iPRF 13 11 9) := sPRF _ rfl rfl rfl (gtb_mem 1732 (by decide +kernel) rfl)
theorem lM_f17 : SndI "HerbWatersModel" (iPRF 17 11 10) := sPRF _ rfl rfl rfl (gtb_mem 1733 (by decide +kernel) rfl)
theorem lM_f20 : SndI "HerbWatersModel" (iPRF 20 11 11) := sPRF _ rfl rfl rfl (gtb_mem 1734 (by decide +kernel) rfl)
theorem lM_f23 : SndI "HerbWatersModel" (iPRF 23 11 12) := sPRF _ rfl rfl rfl (gtb_mem 1735 (by decide +kernel) rfl)
theorem lM_y26 : Snd "HerbWatersModel" (iMNA 26) := sMNA (gtb_mem 1706 (by decide +kernel) rfl) (gtb_mem 246 (by decide +kernel) rfl)
theorem lM_f28 : SndI "HerbWatersModel" (iPRF 28 11 13) := sPRF _ rfl rfl rfl (gtb_mem 1736 (by decide +kernel) rfl)
theorem lM_f31 : SndI "HerbWatersModel" (iPRF 31 11 14) := sPRF _ rfl rfl rfl (gtb_mem 1737 (by decide +kernel) rfl)
theorem lM_f34 : SndI "HerbWatersModel" (iPRF 34 11 15) := sPRF _ rfl rfl rfl (gtb_mem 1738 (by decide +kernel) rfl)
theorem lM_f37 : SndI "HerbWatersModel" (iPRF 37 11 16) := sPRF _ rfl rfl rfl (gtb_mem 1739 (by decide +kernel) rfl)
theorem lM_f40 : SndI "HerbWatersModel" (iPRF 40 11 17) := sPRF _ rfl rfl rfl (gtb_mem 1740 (by decide +kernel) rfl)
theorem lM_f43 : SndI "HerbWatersModel" (iPRF 43 11 18) := sPRF _ rfl rfl rfl (gtb_mem 1741 (by decide +kernel) rfl)
theorem lM_f47 : SndI "HerbWatersModel" (iPRF 47 11 19) := sPRF _ rfl rfl rfl (gtb_mem 1742 (by decide +kernel) rfl)
theorem lM_f50 : SndI "HerbWatersModel" (iPRF 50 11 20) := sPRF _ rfl rfl rfl (gtb_mem 1743 (by decide +kernel) rfl)
theorem lM_f53 : SndI "HerbWatersModel" (iPRF 53 11 21) := sPRF _ rfl rfl rfl (gtb_mem 1744 (by decide +kernel) rfl)
theorem lM_f56 : SndI "HerbWatersModel" (iPRF 56 11 22) := sPRF _ rfl rfl rfl (gtb_mem 1745 (by decide +kernel) rfl)
theorem lM_f59 : SndI "HerbWatersModel" (iPRF 59 11 23) := sPRF _ rfl rfl rfl (gtb_mem 1746 (by decide +kernel) rfl)
theorem lM_f62 : SndI "HerbWatersModel" (iPRF 62 11 24) := sPRF _ rfl rfl rfl (gtb_mem 1747 (by decide +kernel) rfl)
theorem lM_f65 : SndI "HerbWatersModel" (iPRF 65 11 28) := sPRF _ rfl rfl rfl (gtb_mem 1751 (by decide +kernel) rfl)
theorem lM_f68 : SndI "HerbWatersModel" (iPRF 68 11 29) := sPRF _ rfl rfl rfl (gtb_mem 1752 (by decide +kernel) rfl)
theorem lM_f71 : SndI "HerbWatersModel" (iPRF 71 11 30) := sPRF _ rfl rfl rfl (gtb_mem 1753 (by decide +kernel) rfl)
theorem lM_f74 : SndI "HerbWatersModel" (iPRF 74 11 31) := sPRF _ rfl rfl rfl (gtb_mem 1754 (by decide +kernel) rfl)
theorem lM_f77 : SndI "HerbWatersModel" (iPRF 77 11 32) := sPRF _ rfl rfl rfl (gtb_mem 1755 (by decide +kernel) rfl)
theorem lM_f80 : SndI "HerbWatersModel" (iPRF 80 11 33) := sPRF _ rfl rfl rfl (gtb_mem 1756 (by decide +kernel) rfl)
theorem lM_f83 : SndI "HerbWatersModel" (iPRF 83 11 34) := sPRF _ rfl rfl rfl (gtb_mem 1757 (by decide +kernel) rfl)
theorem lM_f86 : SndI "HerbWatersModel" (iPRF 86 11 35) := sPRF _ rfl rfl rfl (gtb_mem 1758 (by decide +kernel) rfl)
theorem lM_f99 : SndI "HerbWatersModel" (iPRF 99 11 50) := sPRF _ rfl rfl rfl (gtb_mem 1773 (by decide +kernel) rfl)
theorem lM_f102 : SndI "HerbWatersModel" (iPRF 102 11 51) := sPRF _ rfl rfl rfl (gtb_mem 1774 (by decide +kernel) rfl)
theorem lM_f105 : SndI "HerbWatersModel" (iPRF 105 11 52) := sPRF _ rfl rfl rfl (gtb_mem 1775 (by decide +kernel) rfl)
theorem lM_f108 : SndI "HerbWatersModel" (iPRF 108 11 53) := sPRF _ rfl rfl rfl (gtb_mem 1776 (by decide +kernel) rfl)
theorem lM_f111 : SndI "HerbWatersModel" (iPRF 111 11 54) := sPRF _ rfl rfl rfl (gtb_mem 1777 (by decide +kernel) rfl)
theorem lM_f114 : SndI "HerbWatersModel" (iPRF 114 11 55) := sPRF _ rfl rfl rfl (gtb_mem 1778 (by decide +kernel) rfl)
def bM_init_0 : List Ir := [iLA0, (iOI 1)]
def bM_init_4 : List Ir := [iLA0, iCm1, (iPI 9 11 3)]
def bM_init_9 : List Ir := [iLA0, (iSP 600), iNAI, (iPRF 13 11 9)]
def bM_init_18 : List Ir := [iLA0, iC2, iNAI, (iPRF 17 11 10)]
def bM_init_25 : List Ir := [iLA0, iC5, iNAI, (iPRF 20 11 11)]
def bM_init_32 : List Ir := [iLA0, iC5, iNAI, (iPRF 23 11 12)]
def bM_init_39 : List Ir := [iLA0, (iBP 9), (iBP 8), (iMNA 26), (iPRF 28 11 13)]
def bM_init_51 : List Ir := [iLA0, (iBP 9), (iBP 8), (iMNA 26), (iPRF 31 11 14)]
def bM_init_63 : List Ir := [iLA0, (iBP 20), iC3, (iMNA 26), (iPRF 34 11 15)]
def bM_init_74 : List Ir := [iLA0, (iBP 20), iC3, (iMNA 26), (iPRF 37 11 16)]
def bM_init_85 : List Ir := [iLA0, (iBP 9), iNAI, (iPRF 40 11 17)]
def bM_init_93 : List Ir := [iLA0, (iBP 9), iNAZ, (iPRF 43 11 18)]
def bM_init_101 : List Ir := [iLA0, (iBP 9), (iBP 24), (iMNA 26), (iPRF 47 11 19)]
def bM_init_113 : List Ir := [iLA0, (iBP 9), (iSP 320), (iMNA 26), (iPRF 50 11 20)]
def bM_init_126 : List Ir := [iLA0, (iBP 24), iNAI, (iPRF 53 11 21)]
def bM_init_134 : List Ir := [iLA0, (iSP 320), iNAI, (iPRF 56 11 22)]
def bM_init_143 : List Ir := [iLA0, (iSP 160), iNAI, (iPRF 59 11 23)]
def bM_init_152 : List Ir := [iLA0, (iBP 7), iNAI, (iPRF 62 11 24)]
def bM_init_160 : List Ir := [iLA0, (iBP 12), iC2, (iMNA 26), (iPRF 65 11 28)]
def bM_init_171 : List Ir := [iLA0, (iBP 12), iC2, (iMNA 26), (iPRF 68 11 29)]
def bM_init_182 : List Ir := [iLA0, iC3, (iSP 513), (iMNA 26), (iPRF 71 11 30)]
def bM_init_194 : List Ir := [iLA0, (iBP 9), iNAI, (iPRF 74 11 31)]
def bM_init_202 : List Ir := [iLA0, (iSP 502), iNAI, (iPRF 77 11 32)]
def bM_init_211 : List Ir := [iLA0, (iSP 502), iNAI, (iPRF 80 11 33)]
def bM_init_220 : List Ir := [iLA0, (iSP 502), iNAI, (iPRF 83 11 34)]
def bM_init_229 : List Ir := [iLA0, (iSP 502), iNAI, (iPRF 86 11 35)]
def bM_init_238 : List Ir := [iLA0, iCm1, (iPI 89 11 43)]
def bM_init_243 : List Ir := [iLA0, iCm1, (iPI 92 11 46)]
def bM_init_248 : List Ir := [iLA0, iC1, (iPZ 95 11 49)]
def bM_init_253 : List Ir := [iLA0, (iSP 252), iNAI, (iPRF 99 11 50)]
def bM_init_262 : List Ir := [iLA0, (iBP 27), iNAI, (iPRF 102 11 51)]
def bM_init_270 : List Ir := [iLA0, (iBP 100), iNAI, (iPRF 105 11 52)]
def bM_init_278 : List Ir := [iLA0, (iBP 9), iNAI, (iPRF 108 11 53)]
def bM_init_286 : List Ir := [iLA0, (iSP 201), (iSP 441), (iMNA 26), (iPRF 111 11 54)]
def bM_init_300 : List Ir := [iLA0, (iBP 21), (iBP 9), (iMNA 26), (iPRF 114 11 55)]
def bM_init_312 : List Ir := [iLA0, (iCV0 117 11 mM_tellsNothing)]
def bM_init_316 : List Ir := [iLA0, (iCV0 120 11 mM_stands), iRV]
def tM_init : Tb := [(0, bM_init_0, 4), (4, bM_init_4, 9), (9, bM_init_9, 18), (18, bM_init_18, 25), (25, bM_init_25, 32), (32, bM_init_32, 39), (39, bM_init_39, 51), (51, bM_init_51, 63), (63, bM_init_63, 74), (74, bM_init_74, 85), (85, bM_init_85, 93), (93, bM_init_93, 101), (101, bM_init_101, 113), (113, bM_init_113, 126), (126, bM_init_126, 134), (134, bM_init_134, 143), (143, bM_init_143, 152), (152, bM_init_152, 160), (160, bM_init_160, 171), (171, bM_init_171, 182), (182, bM_init_182, 194), (194, bM_init_194, 202), (202, bM_init_202, 211), (211, bM_init_211, 220), (220, bM_init_220, 229), (229, bM_init_229, 238), (238, bM_init_238, 243), (243, bM_init_243, 248), (248, bM_init_248, 253), (253, bM_init_253, 262), (262, bM_init_262, 270), (270, bM_init_270, 278), (278, bM_init_278, 286), (286, bM_init_286, 300), (300, bM_init_300, 312), (312, bM_init_312, 316), (316, bM_init_316, 321)]
theorem fM_init_0 : tbf tM_init 0 = some (bM_init_0, 4) := rfl
theorem fM_init_4 : tbf tM_init 4 = some (bM_init_4, 9) := rfl
theorem fM_init_9 : tbf tM_init 9 = some (bM_init_9, 18) := rfl
theorem fM_init_18 : tbf tM_init 18 = some (bM_init_18, 25) := rfl
theorem fM_init_25 : tbf tM_init 25 = some (bM_init_25, 32) := rfl
theorem fM_init_32 : tbf tM_init 32 = some (bM_init_32, 39) := rfl
theorem fM_init_39 : tbf tM_init 39 = some (bM_init_39, 51) := rfl
theorem fM_init_51 : tbf tM_init 51 = some (bM_init_51, 63) := rfl
theorem fM_init_63 : tbf tM_init 63 = some (bM_init_63, 74) := rfl
theorem fM_init_74 : tbf tM_init 74 = some (bM_init_74, 85) := rfl
theorem fM_init_85 : tbf tM_init 85 = some (bM_init_85, 93) := rfl
theorem fM_init_93 : tbf tM_init 93 = some (bM_init_93, 101) := rfl
theorem fM_init_101 : tbf tM_init 101 = some (bM_init_101, 113) := rfl
theorem fM_init_113 : tbf tM_init 113 = some (bM_init_113, 126) := rfl
theorem fM_init_126 : tbf tM_init 126 = some (bM_init_126, 134) := rfl
theorem fM_init_134 : tbf tM_init 134 = some (bM_init_134, 143) := rfl
theorem fM_init_143 : tbf tM_init 143 = some (bM_init_143, 152) := rfl
theorem fM_init_152 : tbf tM_init 152 = some (bM_init_152, 160) := rfl
theorem fM_init_160 : tbf tM_init 160 = some (bM_init_160, 171) := rfl
theorem fM_init_171 : tbf tM_init 171 = some (bM_init_171, 182) := rfl
theorem fM_init_182 : tbf tM_init 182 = some (bM_init_182, 194) := rfl
theorem fM_init_194 : tbf tM_init 194 = some (bM_init_194, 202) := rfl
theorem fM_init_202 : tbf tM_init 202 = some (bM_init_202, 211) := rfl
theorem fM_init_211 : tbf tM_init 211 = some (bM_init_211, 220) := rfl
theorem fM_init_220 : tbf tM_init 220 = some (bM_init_220, 229) := rfl
theorem fM_init_229 : tbf tM_init 229 = some (bM_init_229, 238) := rfl
theorem fM_init_238 : tbf tM_init 238 = some (bM_init_238, 243) := rfl
theorem fM_init_243 : tbf tM_init 243 = some (bM_init_243, 248) := rfl
theorem fM_init_248 : tbf tM_init 248 = some (bM_init_248, 253) := rfl
theorem fM_init_253 : tbf tM_init 253 = some (bM_init_253, 262) := rfl
theorem fM_init_262 : tbf tM_init 262 = some (bM_init_262, 270) := rfl
theorem fM_init_270 : tbf tM_init 270 = some (bM_init_270, 278) := rfl
theorem fM_init_278 : tbf tM_init 278 = some (bM_init_278, 286) := rfl
theorem fM_init_286 : tbf tM_init 286 = some (bM_init_286, 300) := rfl
theorem fM_init_300 : tbf tM_init 300 = some (bM_init_300, 312) := rfl
theorem fM_init_312 : tbf tM_init 312 = some (bM_init_312, 316) := rfl
theorem fM_init_316 : tbf tM_init 316 = some (bM_init_316, 321) := rfl
theorem kM_init_0 : BokI "HerbWatersModel" prog_14_method_1_code (0, bM_init_0, 4) := ⟨by decide +kernel, (List.forall_mem_cons.mpr ⟨(Snd.i sLA0), (List.forall_mem_cons.mpr ⟨(Snd.i lM_i1), (fun _ h => absurd h List.not_mem_nil)⟩)⟩)⟩
theorem kM_init_4 : BokI "HerbWatersModel" prog_14_method_1_code (4, bM_init_4, 9) := ⟨by decide +kernel, (List.forall_mem_cons.mpr ⟨(Snd.i sLA0), (List.forall_mem_cons.mpr ⟨(Snd.i sCm1), (List.forall_mem_cons.mpr ⟨(Snd.i lM_p9), (fun _ h => absurd h List.not_mem_nil)⟩)⟩)⟩)⟩
theorem kM_init_9 : BokI "HerbWatersModel" prog_14_method_1_code (9, bM_init_9, 18) := ⟨by decide +kernel, (List.forall_mem_cons.mpr ⟨(Snd.i sLA0), (List.forall_mem_cons.mpr ⟨(Snd.i sSP), (List.forall_mem_cons.mpr ⟨(Snd.i (sNAI (gtb_mem 246 (by decide +kernel) rfl))), (List.forall_mem_cons.mpr ⟨lM_f13, (fun _ h => absurd h List.not_mem_nil)⟩)⟩)⟩)⟩)⟩
theorem kM_init_18 : BokI "HerbWatersModel" prog_14_method_1_code (18, bM_init_18, 25) := ⟨by decide +kernel, (List.forall_mem_cons.mpr ⟨(Snd.i sLA0), (List.forall_mem_cons.mpr ⟨(Snd.i sC2), (List.forall_mem_cons.mpr ⟨(Snd.i (sNAI (gtb_mem 246 (by decide +kernel) rfl))), (List.forall_mem_cons.mpr ⟨lM_f17, (fun _ h => absurd h List.not_mem_nil)⟩)⟩)⟩)⟩)⟩
theorem kM_init_25 : BokI "HerbWatersModel" prog_14_method_1_code (25, bM_init_25, 32) := ⟨by decide +kernel, (List.forall_mem_cons.mpr ⟨(Snd.i sLA0), (List.forall_mem_cons.mpr ⟨(Snd.i sC5), (List.forall_mem_cons.mpr ⟨(Snd.i (sNAI (gtb_mem 246 (by decide +kernel) rfl))), (List.forall_mem_cons.mpr ⟨lM_f20, (fun _ h => absurd h List.not_mem_nil)⟩)⟩)⟩)⟩)⟩
theorem kM_init_32 : BokI "HerbWatersModel" prog_14_method_1_code (32, bM_init_32, 39) := ⟨by decide +kernel, (List.forall_mem_cons.mpr ⟨(Snd.i sLA0), (List.forall_mem_cons.mpr ⟨(Snd.i sC5), (List.forall_mem_cons.mpr ⟨(Snd.i (sNAI (gtb_mem 246 (by decide +kernel) rfl))), (List.forall_mem_cons.mpr ⟨lM_f23, (fun _ h => absurd h List.not_mem_nil)⟩)⟩)⟩)⟩)⟩
theorem kM_init_39 : BokI "HerbWatersModel" prog_14_method_1_code (39, bM_init_39, 51) := ⟨by decide +kernel, (List.forall_mem_cons.mpr ⟨(Snd.i sLA0), (List.forall_mem_cons.mpr ⟨(Snd.i sBP), (List.forall_mem_cons.mpr ⟨(Snd.i sBP), (List.forall_mem_cons.mpr ⟨(Snd.i lM_y26), (List.forall_mem_cons.mpr ⟨lM_f28, (fun _ h => absurd h List.not_mem_nil)⟩)⟩)⟩)⟩)⟩)⟩
theorem kM_init_51 : BokI "HerbWatersModel" prog_14_method_1_code (51, bM_init_51, 63) := ⟨by decide +kernel, (List.forall_mem_cons.mpr ⟨(Snd.i sLA0), (List.forall_mem_cons.mpr ⟨(Snd.i sBP), (List.forall_mem_cons.mpr ⟨(Snd.i sBP), (List.forall_mem_cons.mpr ⟨(Snd.i lM_y26), (List.forall_mem_cons.mpr ⟨lM_f31, (fun _ h => absurd h List.not_mem_nil)⟩)⟩)⟩)⟩)⟩)⟩
theorem kM_init_63 : BokI "HerbWatersModel" prog_14_method_1_code (63, bM_init_63, 74) := ⟨by decide +kernel, (List.forall_mem_cons.mpr ⟨(Snd.i sLA0), (List.forall_mem_cons.mpr ⟨(Snd.i sBP), (List.forall_mem_cons.mpr ⟨(Snd.i sC3), (List.forall_mem_cons.mpr ⟨(Snd.i lM_y26), (List.forall_mem_cons.mpr ⟨lM_f34, (fun _ h => absurd h List.not_mem_nil)⟩)⟩)⟩)⟩)⟩)⟩
theorem kM_init_74 : BokI "HerbWatersModel" prog_14_method_1_code (74, bM_init_74, 85) := ⟨by decide +kernel, (List.forall_mem_cons.mpr ⟨(Snd.i sLA0), (List.forall_mem_cons.mpr ⟨(Snd.i sBP), (List.forall_mem_cons.mpr ⟨(Snd.i sC3), (List.forall_mem_cons.mpr ⟨(Snd.i lM_y26), (List.forall_mem_cons.mpr ⟨lM_f37, (fun _ h => absurd h List.not_mem_nil)⟩)⟩)⟩)⟩)⟩)⟩
theorem kM_init_85 : BokI "HerbWatersModel" prog_14_method_1_code (85, bM_init_85, 93) := ⟨by decide +kernel, (List.forall_mem_cons.mpr ⟨(Snd.i sLA0), (List.forall_mem_cons.mpr ⟨(Snd.i sBP), (List.forall_mem_cons.mpr ⟨(Snd.i (sNAI (gtb_mem 246 (by decide +kernel) rfl))), (List.forall_mem_cons.mpr ⟨lM_f40, (fun _ h => absurd h List.not_mem_nil)⟩)⟩)⟩)⟩)⟩
theorem kM_init_93 : BokI "HerbWatersModel" prog_14_method_1_code (93, bM_init_93, 101) := ⟨by decide +kernel, (List.forall_mem_cons.mpr ⟨(Snd.i sLA0), (List.forall_mem_cons.mpr ⟨(Snd.i sBP), (List.forall_mem_cons.mpr ⟨(Snd.i (sNAZ (gtb_mem 1895 (by decide +kernel) rfl))), (List.forall_mem_cons.mpr ⟨lM_f43, (fun _ h => absurd h List.not_mem_nil)⟩)⟩)⟩)⟩)⟩
theorem kM_init_101 : BokI "HerbWatersModel" prog_14_method_1_code (101, bM_init_101, 113) := ⟨by decide +kernel, (List.forall_mem_cons.mpr ⟨(Snd.i sLA0), (List.forall_mem_cons.mpr ⟨(Snd.i sBP), (List.forall_mem_cons.mpr ⟨(Snd.i sBP), (List.forall_mem_cons.mpr ⟨(Snd.i lM_y26), (List.forall_mem_cons.mpr ⟨lM_f47, (fun _ h => absurd h List.not_mem_nil)⟩)⟩)⟩)⟩)⟩)⟩
theorem kM_init_113 : BokI "HerbWatersModel" prog_14_method_1_code (113, bM_init_113, 126) := ⟨by decide +kernel, (List.forall_mem_cons.mpr ⟨(Snd.i sLA0), (List.forall_mem_cons.mpr ⟨(Snd.i sBP), (List.forall_mem_cons.mpr ⟨(Snd.i sSP), (List.forall_mem_cons.mpr ⟨(Snd.i lM_y26), (List.forall_mem_cons.mpr ⟨lM_f50, (fun _ h => absurd h List.not_mem_nil)⟩)⟩)⟩)⟩)⟩)⟩
theorem kM_init_126 : BokI "HerbWatersModel" prog_14_method_1_code (126, bM_init_126, 134) := ⟨by decide +kernel, (List.forall_mem_cons.mpr ⟨(Snd.i sLA0), (List.forall_mem_cons.mpr ⟨(Snd.i sBP), (List.forall_mem_cons.mpr ⟨(Snd.i (sNAI (gtb_mem 246 (by decide +kernel) rfl))), (List.forall_mem_cons.mpr ⟨lM_f53, (fun _ h => absurd h List.not_mem_nil)⟩)⟩)⟩)⟩)⟩
theorem kM_init_134 : BokI "HerbWatersModel" prog_14_method_1_code (134, bM_init_134, 143) := ⟨by decide +kernel, (List.forall_mem_cons.mpr ⟨(Snd.i sLA0), (List.forall_mem_cons.mpr ⟨(Snd.i sSP), (List.forall_mem_cons.mpr ⟨(Snd.i (sNAI (gtb_mem 246 (by decide +kernel) rfl))), (List.forall_mem_cons.mpr ⟨lM_f56, (fun _ h => absurd h List.not_mem_nil)⟩)⟩)⟩)⟩)⟩
theorem kM_init_143 : BokI "HerbWatersModel" prog_14_method_1_code (143, bM_init_143, 152) := ⟨by decide +kernel, (List.forall_mem_cons.mpr ⟨(Snd.i sLA0), (List.forall_mem_cons.mpr ⟨(Snd.i sSP), (List.forall_mem_cons.mpr ⟨(Snd.i (sNAI (gtb_mem 246 (by decide +kernel) rfl))), (List.forall_mem_cons.mpr ⟨lM_f59, (fun _ h => absurd h List.not_mem_nil)⟩)⟩)⟩)⟩)⟩
theorem kM_init_152 : BokI "HerbWatersModel" prog_14_method_1_code (152, bM_init_152, 160) := ⟨by decide +kernel, (List.forall_mem_cons.mpr ⟨(Snd.i sLA0), (List.forall_mem_cons.mpr ⟨(Snd.i sBP), (List.forall_mem_cons.mpr ⟨(Snd.i (sNAI (gtb_mem 246 (by decide +kernel) rfl))), (List.forall_mem_cons.mpr ⟨lM_f62, (fun _ h => absurd h List.not_mem_nil)⟩)⟩)⟩)⟩)⟩
theorem kM_init_160 : BokI "HerbWatersModel" prog_14_method_1_code (160, bM_init_160, 171) := ⟨by decide +kernel, (List.forall_mem_cons.mpr ⟨(Snd.i sLA0), (List.forall_mem_cons.mpr ⟨(Snd.i sBP), (List.forall_mem_cons.mpr ⟨(Snd.i sC2), (List.forall_mem_cons.mpr ⟨(Snd.i lM_y26), (List.forall_mem_cons.mpr ⟨lM_f65, (fun _ h => absurd h List.not_mem_nil)⟩)⟩)⟩)⟩)⟩)⟩
theorem kM_init_171 : BokI "HerbWatersModel" prog_14_method_1_code (171, bM_init_171, 182) := ⟨by decide +kernel, (List.forall_mem_cons.mpr ⟨(Snd.i sLA0), (List.forall_mem_cons.mpr ⟨(Snd.i sBP), (List.forall_mem_cons.mpr ⟨(Snd.i sC2), (List.forall_mem_cons.mpr ⟨(Snd.i lM_y26), (List.forall_mem_cons.mpr ⟨lM_f68, (fun _ h => absurd h List.not_mem_nil)⟩)⟩)⟩)⟩)⟩)⟩
theorem kM_init_182 : BokI "HerbWatersModel" prog_14_method_1_code (182, bM_init_182, 194) := ⟨by decide +kernel, (List.forall_mem_cons.mpr ⟨(Snd.i sLA0), (List.forall_mem_cons.mpr ⟨(Snd.i sC3), (List.forall_mem_cons.mpr ⟨(Snd.i sSP), (List.forall_mem_cons.mpr ⟨(Snd.i lM_y26), (List.forall_mem_cons.mpr ⟨lM_f71, (fun _ h => absurd h List.not_mem_nil)⟩)⟩)⟩)⟩)⟩)⟩
theorem kM_init_194 : BokI "HerbWatersModel" prog_14_method_1_code (194, bM_init_194, 202) := ⟨by decide +kernel, (List.forall_mem_cons.mpr ⟨(Snd.i sLA0), (List.forall_mem_cons.mpr ⟨(Snd.i sBP), (List.forall_mem_cons.mpr ⟨(Snd.i (sNAI (gtb_mem 246 (by decide +kernel) rfl))), (List.forall_mem_cons.mpr ⟨lM_f74, (fun _ h => absurd h List.not_mem_nil)⟩)⟩)⟩)⟩)⟩
theorem kM_init_202 : BokI "HerbWatersModel" prog_14_method_1_code (202, bM_init_202, 211) := ⟨by decide +kernel, (List.forall_mem_cons.mpr ⟨(Snd.i sLA0), (List.forall_mem_cons.mpr ⟨(Snd.i sSP), (List.forall_mem_cons.mpr ⟨(Snd.i (sNAI (gtb_mem 246 (by decide +kernel) rfl))), (List.forall_mem_cons.mpr ⟨lM_f77, (fun _ h => absurd h List.not_mem_nil)⟩)⟩)⟩)⟩)⟩
theorem kM_init_211 : BokI "HerbWatersModel" prog_14_method_1_code (211, bM_init_211, 220) := ⟨by decide +kernel, (List.forall_mem_cons.mpr ⟨(Snd.i sLA0), (List.forall_mem_cons.mpr ⟨(Snd.i sSP), (List.forall_mem_cons.mpr ⟨(Snd.i (sNAI (gtb_mem 246 (by decide +kernel) rfl))), (List.forall_mem_cons.mpr ⟨lM_f80, (fun _ h => absurd h List.not_mem_nil)⟩)⟩)⟩)⟩)⟩
theorem kM_init_220 : BokI "HerbWatersModel" prog_14_method_1_code (220, bM_init_220, 229) := ⟨by decide +kernel, (List.forall_mem_cons.mpr ⟨(Snd.i sLA0), (List.forall_mem_cons.mpr ⟨(Snd.i sSP), (List.forall_mem_cons.mpr ⟨(Snd.i (sNAI (gtb_mem 246 (by decide +kernel) rfl))), (List.forall_mem_cons.mpr ⟨lM_f83, (fun _ h => absurd h List.not_mem_nil)⟩)⟩)⟩)⟩)⟩
theorem kM_init_229 : BokI "HerbWatersModel" prog_14_method_1_code (229, bM_init_229, 238) := ⟨by decide +kernel, (List.forall_mem_cons.mpr ⟨(Snd.i sLA0), (List.forall_mem_cons.mpr ⟨(Snd.i sSP), (List.forall_mem_cons.mpr ⟨(Snd.i (sNAI (gtb_mem 246 (by decide +kernel) rfl))), (List.forall_mem_cons.mpr ⟨lM_f86, (fun _ h => absurd h List.not_mem_nil)⟩)⟩)⟩)⟩)⟩
theorem kM_init_238 : BokI "HerbWatersModel" prog_14_method_1_code (238, bM_init_238, 243) := ⟨by decide +kernel, (List.forall_mem_cons.mpr ⟨(Snd.i sLA0), (List.forall_mem_cons.mpr ⟨(Snd.i sCm1), (List.forall_mem_cons.mpr ⟨(Snd.i lM_p89), (fun _ h => absurd h List.not_mem_nil)⟩)⟩)⟩)⟩
theorem kM_init_243 : BokI "HerbWatersModel" prog_14_method_1_code (243, bM_init_243, 248) := ⟨by decide +kernel, (List.forall_mem_cons.mpr ⟨(Snd.i sLA0), (List.forall_mem_cons.mpr ⟨(Snd.i sCm1), (List.forall_mem_cons.mpr ⟨(Snd.i lM_p92), (fun _ h => absurd h List.not_mem_nil)⟩)⟩)⟩)⟩
theorem kM_init_248 : BokI "HerbWatersModel" prog_14_method_1_code (248, bM_init_248, 253) := ⟨by decide +kernel, (List.forall_mem_cons.mpr ⟨(Snd.i sLA0), (List.forall_mem_cons.mpr ⟨(Snd.i sC1), (List.forall_mem_cons.mpr ⟨(Snd.i lM_p95), (fun _ h => absurd h List.not_mem_nil)⟩)⟩)⟩)⟩
theorem kM_init_253 : BokI "HerbWatersModel" prog_14_method_1_code (253, bM_init_253, 262) := ⟨by decide +kernel, (List.forall_mem_cons.mpr ⟨(Snd.i sLA0), (List.forall_mem_cons.mpr ⟨(Snd.i sSP), (List.forall_mem_cons.mpr ⟨(Snd.i (sNAI (gtb_mem 246 (by decide +kernel) rfl))), (List.forall_mem_cons.mpr ⟨lM_f99, (fun _ h => absurd h List.not_mem_nil)⟩)⟩)⟩)⟩)⟩
theorem kM_init_262 : BokI "HerbWatersModel" prog_14_method_1_code (262, bM_init_262, 270) := ⟨by decide +kernel, (List.forall_mem_cons.mpr ⟨(Snd.i sLA0), (List.forall_mem_cons.mpr ⟨(Snd.i sBP), (List.forall_mem_cons.mpr ⟨(Snd.i (sNAI (gtb_mem 246 (by decide +kernel) rfl))), (List.forall_mem_cons.mpr ⟨lM_f102, (fun _ h => absurd h List.not_mem_nil)⟩)⟩)⟩)⟩)⟩
theorem kM_init_270 : BokI "HerbWatersModel" prog_14_method_1_code (270, bM_init_270, 278) := ⟨by decide +kernel, (List.forall_mem_cons.mpr ⟨(Snd.i sLA0), (List.forall_mem_cons.mpr ⟨(Snd.i sBP), (List.forall_mem_cons.mpr ⟨(Snd.i (sNAI (gtb_mem 246 (by decide +kernel) rfl))), (List.forall_mem_cons.mpr ⟨lM_f105, (fun _ h => absurd h List.not_mem_nil)⟩)⟩)⟩)⟩)⟩
theorem kM_init_278 : BokI "HerbWatersModel" prog_14_method_1_code (278, bM_init_278, 286) := ⟨by decide +kernel, (List.forall_mem_cons.mpr ⟨(Snd.i sLA0), (List.forall_mem_cons.mpr ⟨(Snd.i sBP), (List.forall_mem_cons.mpr ⟨(Snd.i (sNAI (gtb_mem 246 (by decide +kernel) rfl))), (List.forall_mem_cons.mpr ⟨lM_f108, (fun _ h => absurd h List.not_mem_nil)⟩)⟩)⟩)⟩)⟩
theorem kM_init_286 : BokI "HerbWatersModel" prog_14_method_1_code (286, bM_init_286, 300) := ⟨by decide +kernel, (List.forall_mem_cons.mpr ⟨(Snd.i sLA0), (List.forall_mem_cons.mpr ⟨(Snd.i sSP), (List.forall_mem_cons.mpr ⟨(Snd.i sSP), (List.forall_mem_cons.mpr ⟨(Snd.i lM_y26), (List.forall_mem_cons.mpr ⟨lM_f111, (fun _ h => absurd h List.not_mem_nil)⟩)⟩)⟩)⟩)⟩)⟩
theorem kM_init_300 : BokI "HerbWatersModel" prog_14_method_1_code (300, bM_init_300, 312) := ⟨by decide +kernel, (List.forall_mem_cons.mpr ⟨(Snd.i sLA0), (List.forall_mem_cons.mpr ⟨(Snd.i sBP), (List.forall_mem_cons.mpr ⟨(Snd.i sBP), (List.forall_mem_cons.mpr ⟨(Snd.i lM_y26), (List.forall_mem_cons.mpr ⟨lM_f114, (fun _ h => absurd h List.not_mem_nil)⟩)⟩)⟩)⟩)⟩)⟩
theorem kM_init_312 : BokI "HerbWatersModel" prog_14_method_1_code (312, bM_init_312, 316) := ⟨by decide +kernel, (List.forall_mem_cons.mpr ⟨(Snd.i sLA0), (List.forall_mem_cons.mpr ⟨(Snd.i lM_v117), (fun _ h => absurd h List.not_mem_nil)⟩)⟩)⟩
theorem kM_init_316 : BokI "HerbWatersModel" prog_14_method_1_code (316, bM_init_316, 321) := ⟨by decide +kernel, (List.forall_mem_cons.mpr ⟨(Snd.i sLA0), (List.forall_mem_cons.mpr ⟨(Snd.i lM_v120), (List.forall_mem_cons.mpr ⟨(Snd.i sRV), (fun _ h => absurd h List.not_mem_nil)⟩)⟩)⟩)⟩
theorem kM_init : ∀ q ∈ tM_init, BokI "HerbWatersModel" prog_14_method_1_code q := (List.forall_mem_cons.mpr ⟨kM_init_0, (List.forall_mem_cons.mpr ⟨kM_init_4, (List.forall_mem_cons.mpr ⟨kM_init_9, (List.forall_mem_cons.mpr ⟨kM_init_18, (List.forall_mem_cons.mpr ⟨kM_init_25, (List.forall_mem_cons.mpr ⟨kM_init_32, (List.forall_mem_cons.mpr ⟨kM_init_39, (List.forall_mem_cons.mpr ⟨kM_init_51, (List.forall_mem_cons.mpr ⟨kM_init_63, (List.forall_mem_cons.mpr ⟨kM_init_74, (List.forall_mem_cons.mpr ⟨kM_init_85, (List.forall_mem_cons.mpr ⟨kM_init_93, (List.forall_mem_cons.mpr ⟨kM_init_101, (List.forall_mem_cons.mpr ⟨kM_init_113, (List.forall_mem_cons.mpr ⟨kM_init_126, (List.forall_mem_cons.mpr ⟨kM_init_134, (List.forall_mem_cons.mpr ⟨kM_init_143, (List.forall_mem_cons.mpr ⟨kM_init_152, (List.forall_mem_cons.mpr ⟨kM_init_160, (List.forall_mem_cons.mpr ⟨kM_init_171, (List.forall_mem_cons.mpr ⟨kM_init_182, (List.forall_mem_cons.mpr ⟨kM_init_194, (List.forall_mem_cons.mpr ⟨kM_init_202, (List.forall_mem_cons.mpr ⟨kM_init_211, (List.forall_mem_cons.mpr ⟨kM_init_220, (List.forall_mem_cons.mpr ⟨kM_init_229, (List.forall_mem_cons.mpr ⟨kM_init_238, (List.forall_mem_cons.mpr ⟨kM_init_243, (List.forall_mem_cons.mpr ⟨kM_init_248, (List.forall_mem_cons.mpr ⟨kM_init_253, (List.forall_mem_cons.mpr ⟨kM_init_262, (List.forall_mem_cons.mpr ⟨kM_init_270, (List.forall_mem_cons.mpr ⟨kM_init_278, (List.forall_mem_cons.mpr ⟨kM_init_286, (List.forall_mem_cons.mpr ⟨kM_init_300, (List.forall_mem_cons.mpr ⟨kM_init_312, (List.forall_mem_cons.mpr ⟨kM_init_316, (fun _ h => absurd h List.not_mem_nil)⟩)⟩)⟩)⟩)⟩)⟩)⟩)⟩)⟩)⟩)⟩)⟩)⟩)⟩)⟩)⟩)⟩)⟩)⟩)⟩)⟩)⟩)⟩)⟩)⟩)⟩)⟩)⟩)⟩)⟩)⟩)⟩)⟩)⟩)⟩)⟩)⟩)
theorem rM_init : mM_init.2.2.2 = none := rfl
