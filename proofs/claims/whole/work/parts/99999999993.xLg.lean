/-! the law, 7: the start -/
abbrev FL : List Cond := flatC (Jvm.Cond.and given_1 narrow_1)
def wix : List Nat := [98, 104, 107, 110, 113, 116, 119, 122, 125, 128, 131, 134, 137, 140, 143, 146, 149, 152, 155, 158]
def wakl : List Int32 := [0, 1, 2, 3, 4, 5, 6, -1, -1, -1, -1, -1, -1, -1, -1, -1, -1, -1, -1, -1]
def wbcl : List Int32 := [0, 0, 0, 0, 0, 0, 1, 1, 1, 1, 1, 1, 1, 1, 1, 0, 0, 0, 0, 0]
def sTm (k : Nat) : Term := .string "HerbWaters$Word" (wix.getD k 0)
def wTm (k : Nat) : Term := .static "HerbWaters$Word" (wnl.getD k "") "LHerbWaters$Word;"
abbrev vTm (k : Nat) : Term := .field (sTm k) "java/lang/String" "value" "[B"
abbrev aTm : Term := .static "HerbWaters$Word" "ALL" "[LHerbWaters$Word;"
def pEx : List Nat := [217, 222, 228, 235, 243, 252, 262, 310, 352, 337, 403, 422, 385, 368, 323, 442, 508, 485, 463, 298]
def pAs : List Nat := [220, 225, 231, 238, 246, 255, 265, 313, 355, 340, 406, 425, 388, 371, 326, 445, 511, 488, 466, 301]
def pBg : List Nat := [221, 226, 232, 239, 247, 256, 266, 314, 356, 341, 407, 426, 389, 372, 327, 446, 512, 489, 467, 302]
def pTx : List Nat := [219, 224, 230, 237, 245, 254, 264, 312, 354, 339, 405, 424, 387, 370, 325, 444, 510, 487, 465, 300]
def pEl : List Nat := [278, 279, 280, 281, 282, 283, 284, 285, 286, 287, 288, 289, 290, 291, 292, 293, 294, 295, 296, 297]
def pLs : List Nat := [1028, 1030, 1032, 1034, 1042, 1044, 1046, 1195, 1219, 1217, 1250, 1252, 1248, 1229, 1211, 1355, 1369, 1367, 1365, 1185]
def pDf : List Nat := [0, 227, 233, 240, 248, 257, 267, 315, 357, 342, 408, 427, 390, 373, 328, 447, 513, 490, 468, 303, 227, 0, 234, 241, 249, 258, 268, 316, 358, 343, 409, 428, 391, 374, 329, 448, 514, 491, 469, 304, 233, 234, 0, 242, 250, 259, 269, 317, 359, 344, 410, 429, 392, 375, 330, 449, 515, 492, 470, 305, 240, 241, 242, 0, 251, 260, 270, 318, 360, 345, 411, 430, 393, 376, 331, 450, 516, 493, 471, 306, 248, 249, 250, 251, 0, 261, 271, 319, 361, 346, 412, 431, 394, 377, 332, 451, 517, 494, 472, 307, 257, 258, 259, 260, 261, 0, 272, 320, 362, 347, 413, 432, 395, 378, 333, 452, 518, 495, 473, 308, 267, 268, 269, 270, 271, 272, 0, 321, 363, 348, 414, 433, 396, 379, 334, 453, 519, 496, 474, 309, 315, 316, 317, 318, 319, 320, 321, 0, 365, 350, 416, 435, 398, 381, 336, 455, 521, 498, 476, 322, 357, 358, 359, 360, 361, 362, 363, 365, 0, 367, 419, 438, 401, 384, 366, 458, 524, 501, 479, 364, 342, 343, 344, 345, 346, 347, 348, 350, 367, 0, 418, 437, 400, 383, 351, 457, 523, 500, 478, 349, 408, 409, 410, 411, 412, 413, 414, 416, 419, 418, 0, 441, 421, 420, 417, 461, 527, 504, 482, 415, 427, 428, 429, 430, 431, 432, 433, 435, 438, 437, 441, 0, 440, 439, 436, 462, 528, 505, 483, 434, 390, 391, 392, 393, 394, 395, 396, 398, 401, 400, 421, 440, 0, 402, 399, 460, 526, 503, 481, 397, 373, 374, 375, 376, 377, 378, 379, 381, 384, 383, 420, 439, 402, 0, 382, 459, 525, 502, 480, 380, 328, 329, 330, 331, 332, 333, 334, 336, 366, 351, 417, 436, 399, 382, 0, 456, 522, 499, 477, 335, 447, 448, 449, 450, 451, 452, 453, 455, 458, 457, 461, 462, 460, 459, 456, 0, 529, 506, 484, 454, 513, 514, 515, 516, 517, 518, 519, 521, 524, 523, 527, 528, 526, 525, 522, 529, 0, 531, 530, 520, 490, 491, 492, 493, 494, 495, 496, 498, 501, 500, 504, 505, 503, 502, 499, 506, 531, 0, 507, 497, 468, 469, 470, 471, 472, 473, 474, 476, 479, 478, 482, 483, 481, 480, 477, 484, 530, 507, 0, 475, 303, 304, 305, 306, 307, 308, 309, 322, 364, 349, 415, 434, 397, 380, 335, 454, 520, 497, 475, 0]
def pSx : List Nat := [677, 685, 692, 700, 709, 716, 723, 737, 764, 757, 793, 801, 785, 775, 748, 808, 828, 821, 814, 733]
def pSc : List Nat := [678, 686, 693, 701, 710, 717, 724, 738, 765, 758, 794, 802, 786, 776, 749, 809, 829, 822, 815, 734]
def pSa : List Nat := [679, 687, 694, 702, 711, 718, 725, 739, 766, 759, 795, 803, 787, 777, 750, 810, 830, 823, 816, 735]
def pSl : List Nat := [680, 688, 695, 703, 712, 719, 726, 740, 767, 760, 796, 804, 788, 778, 751, 811, 831, 824, 817, 736]
def pSe : List Nat := [681, 682, 683, 684, 0, 0, 0, 689, 690, 691, 0, 0, 0, 0, 696, 697, 698, 699, 0, 0, 0, 704, 705, 706, 707, 708, 0, 0, 713, 714, 715, 0, 0, 0, 0, 720, 721, 722, 0, 0, 0, 0, 727, 728, 729, 730, 731, 732, 0, 741, 742, 743, 744, 745, 746, 747, 768, 769, 770, 771, 772, 773, 774, 761, 762, 763, 0, 0, 0, 0, 797, 798, 799, 800, 0, 0, 0, 805, 806, 807, 0, 0, 0, 0, 789, 790, 791, 792, 0, 0, 0, 779, 780, 781, 782, 783, 784, 0, 752, 753, 754, 755, 756, 0, 0, 812, 813, 0, 0, 0, 0, 0, 832, 833, 0, 0, 0, 0, 0, 825, 826, 827, 0, 0, 0, 0, 818, 819, 820, 0, 0, 0, 0, 0, 0, 0, 0, 0, 0, 0]
theorem m_ex : ∀ i, i < 20 → FL[pEx.getD i 0]? = some (Cond.exactly (wTm i) "HerbWaters$Word") := by decide +kernel
theorem m_as : ∀ i, i < 20 → FL[pAs.getD i 0]? = some (Cond.eq (.field (wTm i) "HerbWaters$Word" "asked" "I") (.int (wakl.getD i 0))) := by decide +kernel
theorem m_bg : ∀ i, i < 20 → FL[pBg.getD i 0]? = some (Cond.eq (.field (wTm i) "HerbWaters$Word" "beginsClause" "Z") (.int (wbcl.getD i 0))) := by decide +kernel
theorem m_tx : ∀ i, i < 20 → FL[pTx.getD i 0]? = some (Cond.eq (.field (wTm i) "HerbWaters$Word" "text" "Ljava/lang/String;") (sTm i)) := by decide +kernel
theorem m_el : ∀ i, i < 20 → FL[pEl.getD i 0]? = some (Cond.eq (.elem aTm (.int (Int32.ofNat i))) (wTm i)) := by decide +kernel
theorem m_ls : ∀ i, i < 20 → lw_tbl[pLs.getD i 0]? = some (Cond.laysStatic "HerbWaters$Word" (wnl.getD i "") "LHerbWaters$Word;") := by decide +kernel
theorem m_df : ∀ i, i < 20 → ∀ j, j < 20 → i ≠ j → FL[pDf.getD (20 * i + j) 0]? = some (Cond.not (.eq (wTm i) (wTm j))) ∨ FL[pDf.getD (20 * i + j) 0]? = some (Cond.not (.eq (wTm j) (wTm i))) := by decide +kernel
theorem m_sx : ∀ i, i < 20 → FL[pSx.getD i 0]? = some (Cond.exactly (sTm i) "java/lang/String") := by decide +kernel
theorem m_sc : ∀ i, i < 20 → FL[pSc.getD i 0]? = some (Cond.eq (.field (sTm i) "java/lang/String" "coder" "B") (.int 0)) := by decide +kernel
theorem m_sa : ∀ i, i < 20 → FL[pSa.getD i 0]? = some (Cond.arrayOf (vTm i) .byte) := by decide +kernel
theorem m_sl : ∀ i, i < 20 → FL[pSl.getD i 0]? = some (Cond.eq (.length (vTm i)) (.int (Int32.ofNat ((wtl.map List.length).getD i 0)))) := by decide +kernel
theorem m_se : ∀ i, i < 20 → ∀ j, j < (wtl.map List.length).getD i 0 → FL[pSe.getD (7 * i + j) 0]? = some (Cond.eq (.elem (vTm i) (.int (Int32.ofNat j))) (.int ((wtl.getD i []).getD j 0))) := by decide +kernel
theorem m_wa : ∀ i, i < 20 → wakl.getD i 0 = wak i ∧ wbcl.getD i 0 = wbc i := by decide +kernel
theorem w_inj : ∀ i, i < 20 → ∀ j, j < 20 → (wtl.map List.length).getD i 0 = (wtl.map List.length).getD j 0 → (∀ k, k < (wtl.map List.length).getD i 0 → (wtl.getD i []).getD k 0 = (wtl.getD j []).getD k 0) → i = j := by decide +kernel
theorem w_l8 : ∀ i, i < 20 → (wtl.map List.length).getD i 0 < 8 := by decide +kernel
section Start
variable {args : Array Value} {s : State}
theorem st_str (at' : ∀ (i : Nat) (w : Cond), FL[i]? = some w → w.before args s = true) (hA : ∀ a : Nat, a < s.heap.size → ¬ s.heap.size ≤ a) : ∃ adK adV : Nat → Nat, vk_S 20 (wtl.map List.length) wtl adK adV (fun q => s.heap.size ≤ q) s s.heap ∧ ∀ i, i < 20 → (sTm i).eval args s none [] s = some (.ref (adK i)) := by
  have h0 : ∀ i : Nat, ∃ q : Nat × Nat, i < 20 → (sTm i).eval args s none [] s = some (.ref q.1) ∧ va_O "java/lang/String" q.1 (fun q => s.heap.size ≤ q) s s.heap ∧ va_OF "java/lang/String" "coder" "B" (.int 0) q.1 (fun q => s.heap.size ≤ q) s s.heap ∧ va_OF "java/lang/String" "value" "[B" (.ref q.2) q.1 (fun q => s.heap.size ≤ q) s s.heap ∧ va_T .byte q.2 ((wtl.map List.length).getD i 0) (fun j => .int ((wtl.getD i []).getD j 0)) (fun q => s.heap.size ≤ q) s s.heap := by
    intro i
    by_cases hi : i < 20
    · obtain ⟨a, c, cA, kA, q1, q2, q3, q4, q5, q6, -⟩ := Cond.exactly_spec (args := args) (first := s) (o := none) (s := s) (idx := []) (t := sTm i) (cls := "java/lang/String") (at' _ _ (m_sx i hi))
      obtain ⟨t, ht, hT⟩ := va_Tof (f := fun j => .int ((wtl.getD i []).getD j 0)) (A := fun q => s.heap.size ≤ q) (N := (wtl.map List.length).getD i 0) (by have := w_l8 i hi; omega) (at' _ _ (m_sa i hi)) (va_eqt (at' _ _ (m_sl i hi))) (fun j hj => va_eqt (at' _ _ (m_se i hi j hj))) hA
      exact ⟨(a, t), fun _ => ⟨q1, ⟨cA, q3, q5, by rw [q6]; exact q2, hA a (Array.getElem?_eq_some_iff.mp q3).1⟩, vk_OFof q1 (va_eqt (at' _ _ (m_sc i hi))) hA, vk_OFof q1 ht hA, hT⟩⟩
    · exact ⟨(0, 0), fun h => absurd h hi⟩
  obtain ⟨f, hf⟩ := Classical.axiomOfChoice h0
  refine ⟨fun i => (f i).1, fun i => (f i).2, ⟨fun i hi => (hf i hi).2, fun i j hi hj e => ?_⟩, fun i hi => (hf i hi).1⟩
  obtain ⟨-, -, -, ⟨cf, k, n, fd, cell, a1, a2, a3, a4, a5, a6⟩, ⟨c1, t1, t2, t3, t4, t5, t6, t7⟩⟩ := hf i hi
  obtain ⟨-, -, -, ⟨cf', k', n', fd', cell', b1, b2, b3, b4, b5, b6⟩, ⟨c2, u1, u2, u3, u4, u5, u6, u7⟩⟩ := hf j hj
  have e' : (f i).1 = (f j).1 := e
  have ef := Option.some.inj (a1.symm.trans b1)
  have efd : fd = fd' := by
    have := congrArg (fun x : ClassId × Class × Nat × Field => x.2.2.2) ef
    exact this
  rw [e'] at a3
  have ec : cell = cell' := Option.some.inj (a3.symm.trans b3)
  subst ec
  subst efd
  have ev : (f i).2 = (f j).2 := by
    have := Option.some.inj (a5.symm.trans b5)
    exact Value.ref.inj this
  rw [ev] at t1
  have ec1 : c1 = c2 := Option.some.inj (t1.symm.trans u1)
  subst ec1
  have l1 := w_l8 i hi
  have l2 := w_l8 j hj
  have en : (wtl.map List.length).getD i 0 = (wtl.map List.length).getD j 0 := by
    have h9 : nI ((wtl.map List.length).getD i 0) = nI ((wtl.map List.length).getD j 0) := t5.symm.trans u5
    rw [nI_eq (by omega) (by omega)] at h9
    exact h9
  refine w_inj i hi j hj en (fun k hk => ?_)
  have := Option.some.inj ((t6 k hk).symm.trans (u6 k (by rw [← en]; exact hk)))
  exact Value.int.inj this
theorem st_wz (hts : ∀ w ∈ lw_tbl, w.before args s = true) (hg : (Jvm.Cond.and given_1 narrow_1).before args s = true) : ∃ ids : Nat → Nat, ∀ Γ : Gm, Γ.1.1 = s.heap.size → (∀ k, 200 ≤ k → Γ.2.2.2.2.1 k = ids k) → WZ Γ s := by
  have hs := flat_of_before _ hg
  have at' : ∀ (i : Nat) (w : Cond), FL[i]? = some w → w.before args s = true := fun i w h => hs w (List.mem_of_getElem? h)
  have tb : ∀ (i : Nat) (w : Cond), lw_tbl[i]? = some w → w.before args s = true := fun i w h => hts w (List.mem_of_getElem? h)
  have hA : ∀ a : Nat, a < s.heap.size → ¬ s.heap.size ≤ a := fun a h => Nat.not_le.mpr h
  have hl20 : wnl.length = 20 := rfl
  obtain ⟨ad, hEn, hev⟩ := va_Enof2 (args := args) (s := s) (E := "HerbWaters$Word") (d := "LHerbWaters$Word;") (nm := wnl) (F := [("HerbWaters$Word", "asked", "I", wakl), ("HerbWaters$Word", "beginsClause", "Z", wbcl)]) (A := fun q => s.heap.size ≤ q)
    (fun i hi => tb _ _ (m_ls i hi)) (tb 113 _ (by decide +kernel)) (fun i hi => at' _ _ (m_ex i hi)) (fun q hq i hi => by
      rcases List.mem_cons.mp hq with rfl | hq
      · exact at' _ _ (m_as i hi)
      · rcases List.mem_cons.mp hq with rfl | hq
        · exact at' _ _ (m_bg i hi)
        · exact absurd hq List.not_mem_nil)
    (fun i j hi hj hn => (m_df i hi j hj hn).imp (fun h => at' _ _ h) (fun h => at' _ _ h)) hA
  obtain ⟨adK, adV, hS, hevS⟩ := st_str at' hA
  have hEf := va_Efof (args := args) (s := s) (N := 20) (E := "HerbWaters$Word") (d0 := "LHerbWaters$Word;") (o := "HerbWaters$Word") (n := "text") (d := "Ljava/lang/String;") (nm := wnl) (v := fun i => .ref (adK i)) (tm := sTm) (ad := ad) (A := fun q => s.heap.size ≤ q) (fun i hi => hev i hi) (fun i hi => at' _ _ (m_tx i hi)) hevS hA
  obtain ⟨tA, hAe, hAT⟩ := va_Tof (args := args) (s := s) (tm := aTm) (ty := .object "HerbWaters$Word") (N := 20) (f := fun j => .ref (ad j)) (A := fun q => s.heap.size ≤ q) (by decide) (at' 275 _ (by decide +kernel)) (va_eqt (at' 276 _ (by decide +kernel))) (fun j hj => va_eqv (at' _ _ (m_el j hj)) (hev j hj)) hA
  refine ⟨fun k => if k < 300 then ad (k - 200) else if k < 400 then adK (k - 300) else if k < 500 then adV (k - 400) else tA, fun Γ hB hI => ?_⟩
  have e1 : ∀ k, k < 20 → wad Γ k = ad k := fun k hk => by
    unfold wad
    rw [hI _ (by omega)]
    dsimp only
    rw [if_pos (by omega), Nat.add_sub_cancel_left]
  have e2 : ∀ k, k < 20 → wst' Γ k = adK k := fun k hk => by
    unfold wst'
    rw [hI _ (by omega)]
    dsimp only
    rw [if_neg (by omega), if_pos (by omega), Nat.add_sub_cancel_left]
  have e3 : ∀ k, k < 20 → wsv Γ k = adV k := fun k hk => by
    unfold wsv
    rw [hI _ (by omega)]
    dsimp only
    rw [if_neg (by omega), if_neg (by omega), if_pos (by omega), Nat.add_sub_cancel_left]
  have e4 : wAL Γ = tA := by
    unfold wAL
    rw [hI _ (by omega)]
    dsimp only
    rw [if_neg (by omega), if_neg (by omega), if_neg (by omega)]
  unfold WZ
  rw [hB, e4]
  refine ⟨fun k hk => ?_, fun i j hi hj e => hEn.2 i j hi hj (by rw [← e1 i hi, ← e1 j hj]; exact e), va_Zref (tb 1154 _ (by decide +kernel)) (tb 113 _ (by decide +kernel)) hAe hA, ?_, ?_, vx_Zqof (tb 708 _ (by decide +kernel)) (tb 108 _ (by decide +kernel)) (at' 4 _ (by decide +kernel)) hA, vx_Zqof (tb 710 _ (by decide +kernel)) (tb 108 _ (by decide +kernel)) (at' 5 _ (by decide +kernel)) hA, va_Zof (tb 731 _ (by decide +kernel)) (tb 114 _ (by decide +kernel)) (va_eqt (at' 6 _ (by decide +kernel))) hA, va_Zqof (tb 813 _ (by decide +kernel)) (tb 116 _ (by decide +kernel)) (at' 7 _ (by decide +kernel)) hA, va_AO.of (tb 501 _ (by decide +kernel)), va_AO.of (tb 248 _ (by decide +kernel)), (show (Cond.arrayOver (.array .int)).before args s = true from (tb 1707 _ (by decide +kernel)))⟩
  · rw [e1 k hk, e2 k hk]
    obtain ⟨h1, h2, h3⟩ := hEn.1 k hk
    have f1 := h3 _ List.mem_cons_self
    have f2 := h3 _ (List.mem_cons_of_mem _ List.mem_cons_self)
    dsimp only at f1 f2
    rw [(m_wa k hk).1] at f1
    rw [(m_wa k hk).2] at f2
    exact ⟨h1, f1, f2, hEf k hk, h2⟩
  · obtain ⟨cell, z1, z2, z3, z4, z5, z6, z7⟩ := hAT
    exact ⟨cell, z1, z2, z3, z4, z5, fun j hj => by show _ = some (Value.ref (wad Γ j)); rw [z6 j hj, e1 j hj], z7⟩
  · refine ⟨fun i hi => ?_, fun i j hi hj e => hS.2 i j hi hj (by rw [← e2 i hi, ← e2 j hj]; exact e)⟩
    rw [e2 i hi, e3 i hi]
    exact hS.1 i hi
theorem wz_mv {Γ : Gm} {U : State} (hB : Γ.1.1 = s.heap.size) (h : WZ Γ s) (hvm : s.vm.Alike U.vm) (hq : ∀ q, q < s.heap.size → U.heap[q]? = s.heap[q]?) : WZ Γ U := by
  have hk : ∀ a : Nat, a < s.heap.size → ¬ (fun q => Γ.1.1 ≤ q) a → U.heap[a]? = s.heap[a]? := fun a h _ => hq a h
  obtain ⟨h1, h2, h3, h4, h5, h6, h7, h8, h9, h10, h11, h12⟩ := h
  exact ⟨fun k hk' => ⟨va_Z.moved hvm ((h1 k hk').1.kept hk), va_OF.moved hvm ((h1 k hk').2.1.kept hk), va_OF.moved hvm ((h1 k hk').2.2.1.kept hk), va_OF.moved hvm ((h1 k hk').2.2.2.1.kept hk), va_O.moved hvm ((h1 k hk').2.2.2.2.kept hk)⟩, h2, va_Z.moved hvm (h3.kept hk), va_T.moved hvm (h4.kept hk), vk_S.moved hvm (h5.kept hk), vx_Zq.moved hvm (h6.kept hk), vx_Zq.moved hvm (h7.kept hk), va_Z.moved hvm (h8.kept hk), va_Zq.moved hvm (h9.kept hk), va_AO.moved hvm h10, va_AO.moved hvm h11, aoa_moved hvm h12⟩
theorem dc_moved {x : MethodName} {U : State} (hvm : s.vm.Alike U.vm) (h : va_Nw (.declares x) s) : va_Nw (.declares x) U := va_tabs rfl (rfl : (s.setVm U.vm).vm = U.vm) (by rw [Cond.declares_setVm hvm]; exact h)
theorem ar_p {ty : FieldType} (hn : ∀ C, ty ≠ .object C) (h : (Cond.arrayClass ty).before args s = true) : ∃ c : ClassId, ArrOfT s c ty ∧ va_RA s c ty := by
  obtain ⟨c, k, comp, h1, h2, h3⟩ := Cond.arrayClass_spec (first := s) (o := none) (idx := []) h
  refine ⟨c, fun N z => ⟨(fun q hq => by cases hq), k, h2, comp, h3⟩, ?_⟩
  cases ty <;> first | exact h1 | exact absurd rfl (hn _)
theorem ar_o {C : String} (h : (Cond.arrayOver (.object C)).before args s = true) : ∃ c : ClassId, ArrOfT s c (.object C) ∧ va_RA s c (.object C) := by
  obtain ⟨comp, c, k, h1, h2, h3, h4, h5⟩ := Cond.arrayOver_spec (first := s) (o := none) (idx := []) h
  exact ⟨c, fun N z => ⟨(fun q hq => by cases hq), k, h3, comp, h4⟩, k, comp, h3, h4, h1, h5⟩
theorem ar_a (h : (Cond.arrayOver (.array .int)).before args s = true) : ∃ c : ClassId, ArrOfT s c (.array .int) ∧ va_RA s c (.array .int) := by
  obtain ⟨comp, c, k, h1, h2, h3, h4, h5⟩ := arrayOver_specB (first := s) (o := none) (idx := []) h
  exact ⟨c, fun N z => ⟨(fun q hq => by cases hq), k, h3, comp, h4⟩, h5⟩
theorem st_cl (hts : ∀ w ∈ lw_tbl, w.before args s = true) : ∀ k : Nat, ∃ x : ClassId × (Nat → Nat), ∀ q : vw_C, hcl[k]? = some q → u_Kn s q.1 q.2.1 q.2.2 x.1 x.2 := by
  have tb : ∀ (i : Nat) (w : Cond), lw_tbl[i]? = some w → w.before args s = true := fun i w h => hts w (List.mem_of_getElem? h)
  have hg : ∀ w ∈ gtb, w.before args s = true := fun w hw => hts w (List.mem_filter.mp hw).1
  intro k
  have key : ∀ (q : vw_C) (n : Nat), hcl[k]? = some q → (Cond.instantiable q.1 n).before args s = true → ∃ x : ClassId × (Nat → Nat), ∀ q : vw_C, hcl[k]? = some q → u_Kn s q.1 q.2.1 q.2.2 x.1 x.2 := fun q n hq hi => by
    obtain ⟨cC, iS, h⟩ := u_known (n := n) hg (clf k q hq).1 hi
    exact ⟨(cC, iS), fun q' hq' => by cases hq.symm.trans hq'; exact h⟩
  match k, key with
  | 0, key => exact key _ 6 rfl (tb 165 _ (by decide +kernel))
  | 1, key => exact key _ 4 rfl (tb 438 _ (by decide +kernel))
  | 2, key => exact key _ 18 rfl (tb 306 _ (by decide +kernel))
  | 3, key => exact key _ 2 rfl (tb 495 _ (by decide +kernel))
  | 4, key => exact key _ 6 rfl (tb 300 _ (by decide +kernel))
  | 5, key => exact key _ 6 rfl (tb 249 _ (by decide +kernel))
  | 6, key => exact key _ 3 rfl (tb 515 _ (by decide +kernel))
  | 7, key => exact key _ 7 rfl (tb 133 _ (by decide +kernel))
  | 8, key => exact key _ 9 rfl (tb 430 _ (by decide +kernel))
  | 9, key => exact key _ 15 rfl (tb 171 _ (by decide +kernel))
  | 10, key => exact key _ 15 rfl (tb 125 _ (by decide +kernel))
  | 11, key => exact key _ 57 rfl (tb 1701 _ (by decide +kernel))
  | k + 12, _ => exact ⟨(0, fun _ => 0), fun q hq => by simp [hcl] at hq⟩
/-- all that the law's walk wants to know of its start -/
theorem st_all (hts : ∀ w ∈ lw_tbl, w.before args s = true) (hg : (Jvm.Cond.and given_1 narrow_1).before args s = true) {b L : Nat} {xs : Nat → Int32} (hL : L ≤ 4096) (hX : va_X b L xs s s.heap) :
    ∃ Γ : Gm, Γ.1 = (s.heap.size, s.heap.size + 133) ∧ Γ.2.1 = s.heap ∧ Γ.2.2.2.1 99 0 = 0 ∧ Kn Γ s ∧ GX Γ ∧ GY Γ ∧ GN Γ ∧ GV Γ b L xs := by
  have hs := flat_of_before _ hg
  have at' : ∀ (i : Nat) (w : Cond), FL[i]? = some w → w.before args s = true := fun i w h => hs w (List.mem_of_getElem? h)
  have tb : ∀ (i : Nat) (w : Cond), lw_tbl[i]? = some w → w.before args s = true := fun i w h => hts w (List.mem_of_getElem? h)
  obtain ⟨ids, hids⟩ := st_wz hts hg
  obtain ⟨f, hf⟩ := Classical.axiomOfChoice (st_cl hts)
  obtain ⟨c1, k1⟩ := ar_p (ty := .int) (fun _ h => by cases h) (tb 246 _ (by decide +kernel))
  obtain ⟨c2, k2⟩ := ar_p (ty := .byte) (fun _ h => by cases h) (tb 163 _ (by decide +kernel))
  obtain ⟨c3, k3⟩ := ar_p (ty := .boolean) (fun _ h => by cases h) (tb 1895 _ (by decide +kernel))
  obtain ⟨c4, k4⟩ := ar_p (ty := .long) (fun _ h => by cases h) (tb 2278 _ (by decide +kernel))
  obtain ⟨c5, k5⟩ := ar_o (C := "HerbWaters$Days") (tb 501 _ (by decide +kernel))
  obtain ⟨c6, k6⟩ := ar_o (C := "HerbWaters$Opinion") (tb 248 _ (by decide +kernel))
  obtain ⟨c7, k7⟩ := ar_a (tb 1707 _ (by decide +kernel))
  obtain ⟨G0, hG0⟩ : ∃ G0 : Gm, G0 = ((s.heap.size, s.heap.size + 133), s.heap, fun k => (f k).1, fun k j => if k = 99 then 0 else (f k).2 j, fun k => if k = 101 then c1 else if k = 102 then c2 else if k = 103 then c3 else if k = 104 then c4 else if k = 105 then c5 else if k = 106 then c6 else if k = 107 then c7 else ids k, fun _ => True) := ⟨_, rfl⟩
  have hz : WZ G0 s := hids G0 (by rw [hG0]) (fun k hk => by rw [hG0]; dsimp only; rw [if_neg (by omega), if_neg (by omega), if_neg (by omega), if_neg (by omega), if_neg (by omega), if_neg (by omega), if_neg (by omega)])
  have hdc : ∀ w ∈ dcs, va_Nw w s := by
    intro w hw
    rcases List.mem_cons.mp hw with rfl | hw
    · exact va_Nw.of rfl (hts _ (List.mem_of_getElem? (i := 685) (by decide +kernel)))
    · rcases List.mem_cons.mp hw with rfl | hw
      · exact va_Nw.of rfl (hts _ (List.mem_of_getElem? (i := 687) (by decide +kernel)))
      · rcases List.mem_cons.mp hw with rfl | hw
        · exact va_Nw.of rfl (hts _ (List.mem_of_getElem? (i := 689) (by decide +kernel)))
        · exact absurd hw List.not_mem_nil
  have hnc : va_Nc iaX nsX s := va_Nc.of (at' 560 _ (by decide +kernel))
  have b0 : G0.1 = (s.heap.size, s.heap.size + 133) := by rw [hG0]
  have b1 : G0.2.1 = s.heap := by rw [hG0]
  have b2 : G0.1.1 = s.heap.size := by rw [b0]
  have b3 : ∀ k, k < 99 → G0.2.2.2.1 k = (f k).2 := fun k hk => by rw [hG0]; funext j; dsimp only; rw [if_neg (by omega)]
  have b4 : ∀ k, G0.2.2.1 k = (f k).1 := fun k => by rw [hG0]
  have b5 : tysG G0 = [(c1, .int), (c2, .byte), (c3, .boolean), (c4, .long), (c5, .object "HerbWaters$Days"), (c6, .object "HerbWaters$Opinion"), (c7, .array .int)] := by rw [hG0]; rfl
  have hq0 : ∀ q, q < s.heap.size → q < G0.1.1 := fun q h => by rw [b2]; exact h
  refine ⟨(G0.1, G0.2.1, G0.2.2.1, G0.2.2.2.1, G0.2.2.2.2.1, fun U => WZ G0 U ∧ (∀ w ∈ dcs, va_Nw w U) ∧ va_Nc iaX nsX U ∧ va_X b L xs U U.heap), b0, b1, by rw [hG0]; dsimp only; rw [if_pos rfl], ⟨⟨fun k q hq => ?_, ?_⟩, fun U' h1 h2 => ?_, fun w hw => ?_⟩, ⟨fun U hU => hU.1, ?_⟩, fun U hU => hU.2.1, fun U hU => hU.2.2.1, hL, fun U hU => hU.2.2.2⟩
  · have hk := hcl_lt hq
    show u_Kn s q.1 q.2.1 q.2.2 (G0.2.2.1 k) (G0.2.2.2.1 k)
    rw [b3 k (by omega), b4]
    exact hf k q hq
  · show ∀ (k : Nat) (q : ClassId × FieldType), (tysG G0)[k]? = some q → ArrOfT s q.1 q.2 ∧ va_RA s q.1 q.2
    rw [b5]
    intro k q hq
    match k, hq with
    | 0, hq => cases hq; exact k1
    | 1, hq => cases hq; exact k2
    | 2, hq => cases hq; exact k3
    | 3, hq => cases hq; exact k4
    | 4, hq => cases hq; exact k5
    | 5, hq => cases hq; exact k6
    | 6, hq => cases hq; exact k7
    | k + 7, hq => simp at hq
  · have h3 : ∀ q, q < s.heap.size → U'.heap[q]? = s.heap[q]? := fun q hq => by
      have := h2 q (hq0 q hq)
      dsimp only at this
      rw [b1] at this
      exact this
    refine ⟨wz_mv b2 hz h1 h3, fun w hw => ?_, va_Nc.moved h1 hnc, va_X.kept (va_X.moved h1 hX) (h3 b ?_)⟩
    · have hd := hdc w hw
      rcases List.mem_cons.mp hw with rfl | hw
      · exact dc_moved h1 hd
      · rcases List.mem_cons.mp hw with rfl | hw
        · exact dc_moved h1 hd
        · rcases List.mem_cons.mp hw with rfl | hw
          · exact dc_moved h1 hd
          · exact absurd hw List.not_mem_nil
    · obtain ⟨scr, z1, -⟩ := hX
      exact (Array.getElem?_eq_some_iff.mp z1).1
  · have hn := (List.mem_filter.mp hw).2
    have h3 := hts w (List.mem_filter.mp hw).1
    cases w <;> first | (cases hn; done) | exact va_Nw.of rfl h3 | (unfold va_Nw; simp only [Cond.before, Cond.holds, Cond.value, State.names, State.poolOf?, State.resolvedAt?] at h3 ⊢; exact h3)
  · exact hz.2.1
end Start
