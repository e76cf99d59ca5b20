def am_cw (M : Nat) : Cond := if (am_hh M).isEmpty then .code (am_y M) (am_cod M) (am_nL M) (am_ret M) else .codeWith (am_y M) (am_cod M) (am_nL M) (am_ret M) (am_hh M)
/-- words of a call -/
def am_cW (q : (Nat × Nat) × (Nat × Nat × Nat)) : List Cond := match q.2.1 with
  | 0 => [.methodLink (am_on q.1.1) q.1.2 (am_y q.2.2.1), .instanceMethod (am_y q.2.2.1), .selects (am_y q.2.2.1).cls (am_y q.2.2.1) (am_y q.2.2.1), .initialized (am_y q.2.2.1).cls]
  | 1 => [.methodLink (am_on q.1.1) q.1.2 (am_y q.2.2.1), .static (am_y q.2.2.1), .initialized (am_y q.2.2.1).cls]
  | 2 => [.methodLink (am_on q.1.1) q.1.2 (am_y q.2.2.1), .static (am_y q.2.2.1), .initialized (am_y q.2.2.1).cls]
  | 3 => [.methodLink (am_on q.1.1) q.1.2 (am_y q.2.2.1), .instanceMethod (am_y q.2.2.1), .initialized (am_y q.2.2.1).cls]
  | 4 => [.instanceMethod (am_y q.2.2.1), .initialized (am_y q.2.2.1).cls]
  | _ => []
theorem am_inT {ws : List Cond} (ps : List Nat) (h : ws = ps.filterMap (fun i => lw_tbl[i]?)) (hg : ws.all goodWord = true) : ∀ w ∈ ws, w ∈ am_T := by
  intro w hw
  refine List.mem_filter.mpr ⟨?_, List.all_eq_true.mp hg w hw⟩
  rw [h] at hw
  obtain ⟨i, -, hi⟩ := List.mem_filterMap.mp hw
  exact List.mem_of_getElem? hi
set_option maxRecDepth 100000 in
theorem am_cI_0 : ∀ w ∈ am_cW ((8, 61), (3, 75, 1)), w ∈ am_T := am_inT [52, 53, 31] rfl rfl
set_option maxRecDepth 100000 in
theorem am_cI_1 : ∀ w ∈ am_cW ((6, 1), (5, 0, 0)), w ∈ am_T := am_inT [] rfl rfl
set_option maxRecDepth 100000 in
theorem am_cI_2 : ∀ w ∈ am_cW ((6, 9), (4, 26, 0)), w ∈ am_T := am_inT [61, 32] rfl rfl
set_option maxRecDepth 100000 in
theorem am_cI_3 : ∀ w ∈ am_cW ((1, 3), (5, 0, 0)), w ∈ am_T := am_inT [] rfl rfl
set_option maxRecDepth 100000 in
theorem am_cI_4 : ∀ w ∈ am_cW ((1, 11), (3, 0, 1)), w ∈ am_T := am_inT [66, 67, 33] rfl rfl
set_option maxRecDepth 100000 in
theorem am_cI_5 : ∀ w ∈ am_cW ((4, 3), (5, 0, 0)), w ∈ am_T := am_inT [] rfl rfl
set_option maxRecDepth 100000 in
theorem am_cI_6 : ∀ w ∈ am_cW ((4, 9), (7, 0, 2)), w ∈ am_T := am_inT [] rfl rfl
set_option maxRecDepth 100000 in
theorem am_cI_7 : ∀ w ∈ am_cW ((6, 18), (4, 11, 0)), w ∈ am_T := am_inT [88, 35] rfl rfl
set_option maxRecDepth 100000 in
theorem am_cI_8 : ∀ w ∈ am_cW ((2, 3), (5, 0, 0)), w ∈ am_T := am_inT [] rfl rfl
set_option maxRecDepth 100000 in
theorem am_cI_9 : ∀ w ∈ am_cW ((2, 11), (3, 0, 1)), w ∈ am_T := am_inT [92, 67, 33] rfl rfl
set_option maxRecDepth 100000 in
theorem am_cI_10 : ∀ w ∈ am_cW ((6, 26), (8, 0, 2)), w ∈ am_T := am_inT [] rfl rfl
set_option maxRecDepth 100000 in
theorem am_cI_11 : ∀ w ∈ am_cW ((6, 32), (7, 0, 2)), w ∈ am_T := am_inT [] rfl rfl
set_option maxRecDepth 100000 in
theorem am_cI_12 : ∀ w ∈ am_cW ((6, 37), (3, 56, 1)), w ∈ am_T := am_inT [106, 107, 36] rfl rfl
set_option maxRecDepth 100000 in
theorem am_cI_13 : ∀ w ∈ am_cW ((5, 3), (5, 0, 0)), w ∈ am_T := am_inT [] rfl rfl
set_option maxRecDepth 100000 in
theorem am_cI_14 : ∀ w ∈ am_cW ((5, 11), (4, 37, 0)), w ∈ am_T := am_inT [113, 37] rfl rfl
set_option maxRecDepth 100000 in
theorem am_cI_15 : ∀ w ∈ am_cW ((3, 3), (5, 0, 0)), w ∈ am_T := am_inT [] rfl rfl
set_option maxRecDepth 100000 in
theorem am_cI_16 : ∀ w ∈ am_cW ((3, 11), (3, 0, 1)), w ∈ am_T := am_inT [117, 67, 33] rfl rfl
set_option maxRecDepth 100000 in
theorem am_cI_17 : ∀ w ∈ am_cW ((5, 20), (3, 0, 1)), w ∈ am_T := am_inT [126, 67, 33] rfl rfl
set_option maxRecDepth 100000 in
theorem am_cI_18 : ∀ w ∈ am_cW ((5, 37), (7, 0, 2)), w ∈ am_T := am_inT [] rfl rfl
set_option maxRecDepth 100000 in
theorem am_cI_19 : ∀ w ∈ am_cW ((6, 49), (3, 21, 1)), w ∈ am_T := am_inT [150, 151, 38] rfl rfl
set_option maxRecDepth 100000 in
theorem am_cI_20 : ∀ w ∈ am_cW ((0, 3), (5, 0, 0)), w ∈ am_T := am_inT [] rfl rfl
set_option maxRecDepth 100000 in
theorem am_cI_21 : ∀ w ∈ am_cW ((0, 17), (3, 0, 1)), w ∈ am_T := am_inT [155, 67, 33] rfl rfl
set_option maxRecDepth 100000 in
theorem am_cI_22 : ∀ w ∈ am_cW ((8, 98), (0, 76, 0)), w ∈ am_T := am_inT [182, 183, 184, 31] rfl rfl
set_option maxRecDepth 100000 in
theorem am_cI_23 : ∀ w ∈ am_cW ((6, 131), (0, 57, 0)), w ∈ am_T := am_inT [186, 187, 188, 36] rfl rfl
set_option maxRecDepth 100000 in
theorem am_cI_24 : ∀ w ∈ am_cW ((6, 113), (0, 58, 1)), w ∈ am_T := am_inT [190, 191, 192, 36] rfl rfl
set_option maxRecDepth 100000 in
theorem am_cI_25 : ∀ w ∈ am_cW ((6, 134), (0, 38, 0)), w ∈ am_T := am_inT [194, 195, 196, 37] rfl rfl
set_option maxRecDepth 100000 in
theorem am_cI_26 : ∀ w ∈ am_cW ((3, 32), (0, 1, 2)), w ∈ am_T := am_inT [198, 199, 200, 33] rfl rfl
set_option maxRecDepth 100000 in
theorem am_cI_27 : ∀ w ∈ am_cW ((3, 36), (0, 2, 1)), w ∈ am_T := am_inT [203, 204, 205, 33] rfl rfl
set_option maxRecDepth 100000 in
theorem am_cI_28 : ∀ w ∈ am_cW ((4, 21), (0, 3, 1)), w ∈ am_T := am_inT [207, 208, 209, 33] rfl rfl
set_option maxRecDepth 100000 in
theorem am_cI_29 : ∀ w ∈ am_cW ((8, 55), (1, 123, 2)), w ∈ am_T := am_inT [211, 212, 30] rfl rfl
set_option maxRecDepth 100000 in
theorem am_cI_30 : ∀ w ∈ am_cW ((8, 67), (2, 124, 3)), w ∈ am_T := am_inT [214, 215, 30] rfl rfl
set_option maxRecDepth 100000 in
theorem am_cI_31 : ∀ w ∈ am_cW ((8, 7), (0, 77, 1)), w ∈ am_T := am_inT [218, 219, 220, 31] rfl rfl
set_option maxRecDepth 100000 in
theorem am_cI_32 : ∀ w ∈ am_cW ((6, 61), (0, 12, 1)), w ∈ am_T := am_inT [290, 291, 292, 35] rfl rfl
set_option maxRecDepth 100000 in
theorem am_cI_33 : ∀ w ∈ am_cW ((2, 32), (0, 4, 2)), w ∈ am_T := am_inT [294, 295, 296, 33] rfl rfl
set_option maxRecDepth 100000 in
theorem am_cI_34 : ∀ w ∈ am_cW ((8, 74), (2, 125, 3)), w ∈ am_T := am_inT [298, 299, 30] rfl rfl
set_option maxRecDepth 100000 in
theorem am_cI_35 : ∀ w ∈ am_cW ((8, 15), (0, 78, 1)), w ∈ am_T := am_inT [302, 303, 304, 31] rfl rfl
set_option maxRecDepth 100000 in
theorem am_cI_36 : ∀ w ∈ am_cW ((6, 65), (0, 79, 0)), w ∈ am_T := am_inT [306, 308, 1, 31] rfl rfl
set_option maxRecDepth 100000 in
theorem am_cI_37 : ∀ w ∈ am_cW ((6, 83), (0, 80, 0)), w ∈ am_T := am_inT [310, 312, 2, 31] rfl rfl
set_option maxRecDepth 100000 in
theorem am_cI_38 : ∀ w ∈ am_cW ((6, 158), (0, 22, 0)), w ∈ am_T := am_inT [314, 315, 316, 38] rfl rfl
set_option maxRecDepth 100000 in
theorem am_cI_39 : ∀ w ∈ am_cW ((6, 166), (0, 13, 0)), w ∈ am_T := am_inT [334, 335, 336, 35] rfl rfl
set_option maxRecDepth 100000 in
theorem am_cI_40 : ∀ w ∈ am_cW ((6, 68), (0, 81, 1)), w ∈ am_T := am_inT [339, 341, 3, 31] rfl rfl
set_option maxRecDepth 100000 in
theorem am_cI_41 : ∀ w ∈ am_cW ((6, 173), (0, 27, 1)), w ∈ am_T := am_inT [343, 344, 345, 32] rfl rfl
set_option maxRecDepth 100000 in
theorem am_cI_42 : ∀ w ∈ am_cW ((1, 24), (0, 14, 0)), w ∈ am_T := am_inT [347, 348, 349, 35] rfl rfl
set_option maxRecDepth 100000 in
theorem am_cI_43 : ∀ w ∈ am_cW ((2, 24), (1, 15, 1)), w ∈ am_T := am_inT [351, 352, 35] rfl rfl
set_option maxRecDepth 100000 in
theorem am_cI_44 : ∀ w ∈ am_cW ((6, 93), (0, 59, 0)), w ∈ am_T := am_inT [354, 355, 356, 36] rfl rfl
set_option maxRecDepth 100000 in
theorem am_cI_45 : ∀ w ∈ am_cW ((6, 176), (0, 60, 2)), w ∈ am_T := am_inT [358, 359, 360, 36] rfl rfl
set_option maxRecDepth 100000 in
theorem am_cI_46 : ∀ w ∈ am_cW ((5, 55), (0, 16, 0)), w ∈ am_T := am_inT [362, 363, 364, 35] rfl rfl
set_option maxRecDepth 100000 in
theorem am_cI_47 : ∀ w ∈ am_cW ((2, 28), (0, 1, 2)), w ∈ am_T := am_inT [366, 199, 200, 33] rfl rfl
set_option maxRecDepth 100000 in
theorem am_cI_48 : ∀ w ∈ am_cW ((5, 60), (0, 61, 1)), w ∈ am_T := am_inT [367, 369, 4, 36] rfl rfl
set_option maxRecDepth 100000 in
theorem am_cI_49 : ∀ w ∈ am_cW ((5, 82), (0, 62, 1)), w ∈ am_T := am_inT [371, 373, 5, 36] rfl rfl
set_option maxRecDepth 100000 in
theorem am_cI_50 : ∀ w ∈ am_cW ((5, 102), (0, 63, 0)), w ∈ am_T := am_inT [375, 376, 377, 36] rfl rfl
set_option maxRecDepth 100000 in
theorem am_cI_51 : ∀ w ∈ am_cW ((5, 47), (0, 3, 1)), w ∈ am_T := am_inT [379, 208, 209, 33] rfl rfl
set_option maxRecDepth 100000 in
theorem am_cI_52 : ∀ w ∈ am_cW ((5, 92), (0, 58, 1)), w ∈ am_T := am_inT [380, 191, 192, 36] rfl rfl
set_option maxRecDepth 100000 in
theorem am_cI_53 : ∀ w ∈ am_cW ((5, 64), (0, 39, 1)), w ∈ am_T := am_inT [381, 382, 383, 37] rfl rfl
set_option maxRecDepth 100000 in
theorem am_cI_54 : ∀ w ∈ am_cW ((3, 39), (0, 40, 0)), w ∈ am_T := am_inT [385, 386, 387, 37] rfl rfl
set_option maxRecDepth 100000 in
theorem am_cI_55 : ∀ w ∈ am_cW ((3, 24), (0, 3, 1)), w ∈ am_T := am_inT [389, 208, 209, 33] rfl rfl
set_option maxRecDepth 100000 in
theorem am_cI_56 : ∀ w ∈ am_cW ((3, 43), (0, 17, 2)), w ∈ am_T := am_inT [390, 391, 392, 35] rfl rfl
set_option maxRecDepth 100000 in
theorem am_cI_57 : ∀ w ∈ am_cW ((2, 36), (0, 3, 1)), w ∈ am_T := am_inT [394, 208, 209, 33] rfl rfl
set_option maxRecDepth 100000 in
theorem am_cI_58 : ∀ w ∈ am_cW ((2, 39), (0, 5, 4)), w ∈ am_T := am_inT [395, 396, 397, 33] rfl rfl
set_option maxRecDepth 100000 in
theorem am_cI_59 : ∀ w ∈ am_cW ((3, 49), (0, 41, 1)), w ∈ am_T := am_inT [399, 401, 6, 37] rfl rfl
set_option maxRecDepth 100000 in
theorem am_cI_60 : ∀ w ∈ am_cW ((3, 88), (1, 15, 1)), w ∈ am_T := am_inT [403, 352, 35] rfl rfl
set_option maxRecDepth 100000 in
theorem am_cI_61 : ∀ w ∈ am_cW ((5, 71), (0, 42, 2)), w ∈ am_T := am_inT [404, 405, 406, 37] rfl rfl
set_option maxRecDepth 100000 in
theorem am_cI_62 : ∀ w ∈ am_cW ((3, 52), (0, 43, 1)), w ∈ am_T := am_inT [408, 410, 7, 37] rfl rfl
set_option maxRecDepth 100000 in
theorem am_cI_63 : ∀ w ∈ am_cW ((3, 55), (0, 6, 2)), w ∈ am_T := am_inT [412, 413, 414, 33] rfl rfl
set_option maxRecDepth 100000 in
theorem am_cI_64 : ∀ w ∈ am_cW ((4, 25), (0, 4, 2)), w ∈ am_T := am_inT [416, 295, 296, 33] rfl rfl
set_option maxRecDepth 100000 in
theorem am_cI_65 : ∀ w ∈ am_cW ((3, 58), (0, 44, 0)), w ∈ am_T := am_inT [417, 418, 419, 37] rfl rfl
set_option maxRecDepth 100000 in
theorem am_cI_66 : ∀ w ∈ am_cW ((5, 75), (0, 14, 0)), w ∈ am_T := am_inT [421, 348, 349, 35] rfl rfl
set_option maxRecDepth 100000 in
theorem am_cI_67 : ∀ w ∈ am_cW ((5, 78), (0, 64, 3)), w ∈ am_T := am_inT [422, 424, 8, 36] rfl rfl
set_option maxRecDepth 100000 in
theorem am_cI_68 : ∀ w ∈ am_cW ((5, 105), (0, 45, 0)), w ∈ am_T := am_inT [426, 427, 428, 37] rfl rfl
set_option maxRecDepth 100000 in
theorem am_cI_69 : ∀ w ∈ am_cW ((5, 107), (0, 46, 2)), w ∈ am_T := am_inT [430, 431, 432, 37] rfl rfl
set_option maxRecDepth 100000 in
theorem am_cI_70 : ∀ w ∈ am_cW ((3, 61), (0, 47, 1)), w ∈ am_T := am_inT [434, 436, 9, 37] rfl rfl
set_option maxRecDepth 100000 in
theorem am_cI_71 : ∀ w ∈ am_cW ((5, 85), (0, 65, 1)), w ∈ am_T := am_inT [438, 440, 10, 36] rfl rfl
set_option maxRecDepth 100000 in
theorem am_cI_72 : ∀ w ∈ am_cW ((5, 110), (0, 66, 0)), w ∈ am_T := am_inT [442, 444, 11, 36] rfl rfl
set_option maxRecDepth 100000 in
theorem am_cI_73 : ∀ w ∈ am_cW ((5, 127), (0, 7, 4)), w ∈ am_T := am_inT [446, 447, 448, 33] rfl rfl
set_option maxRecDepth 100000 in
theorem am_cI_74 : ∀ w ∈ am_cW ((5, 95), (0, 48, 1)), w ∈ am_T := am_inT [450, 451, 452, 37] rfl rfl
set_option maxRecDepth 100000 in
theorem am_cI_75 : ∀ w ∈ am_cW ((3, 84), (0, 8, 1)), w ∈ am_T := am_inT [454, 455, 456, 33] rfl rfl
set_option maxRecDepth 100000 in
theorem am_cI_76 : ∀ w ∈ am_cW ((4, 30), (8, 0, 2)), w ∈ am_T := am_inT [] rfl rfl
set_option maxRecDepth 100000 in
theorem am_cI_77 : ∀ w ∈ am_cW ((4, 33), (6, 0, 5)), w ∈ am_T := am_inT [] rfl rfl
set_option maxRecDepth 100000 in
theorem am_cI_78 : ∀ w ∈ am_cW ((5, 113), (0, 49, 1)), w ∈ am_T := am_inT [462, 463, 464, 37] rfl rfl
set_option maxRecDepth 100000 in
theorem am_cI_79 : ∀ w ∈ am_cW ((3, 78), (0, 9, 0)), w ∈ am_T := am_inT [466, 467, 468, 33] rfl rfl
set_option maxRecDepth 100000 in
theorem am_cI_80 : ∀ w ∈ am_cW ((4, 39), (1, 122, 2)), w ∈ am_T := am_inT [470, 471, 46] rfl rfl
set_option maxRecDepth 100000 in
theorem am_cI_81 : ∀ w ∈ am_cW ((3, 81), (0, 4, 2)), w ∈ am_T := am_inT [473, 295, 296, 33] rfl rfl
set_option maxRecDepth 100000 in
theorem am_cI_82 : ∀ w ∈ am_cW ((5, 116), (0, 50, 3)), w ∈ am_T := am_inT [474, 475, 476, 37] rfl rfl
set_option maxRecDepth 100000 in
theorem am_cI_83 : ∀ w ∈ am_cW ((3, 74), (0, 7, 4)), w ∈ am_T := am_inT [478, 447, 448, 33] rfl rfl
set_option maxRecDepth 100000 in
theorem am_cI_84 : ∀ w ∈ am_cW ((3, 71), (0, 51, 1)), w ∈ am_T := am_inT [479, 481, 12, 37] rfl rfl
set_option maxRecDepth 100000 in
theorem am_cI_85 : ∀ w ∈ am_cW ((5, 120), (0, 44, 0)), w ∈ am_T := am_inT [483, 418, 419, 37] rfl rfl
set_option maxRecDepth 100000 in
theorem am_cI_86 : ∀ w ∈ am_cW ((5, 123), (0, 67, 3)), w ∈ am_T := am_inT [484, 486, 13, 36] rfl rfl
set_option maxRecDepth 100000 in
theorem am_cI_87 : ∀ w ∈ am_cW ((5, 131), (0, 4, 2)), w ∈ am_T := am_inT [488, 295, 296, 33] rfl rfl
set_option maxRecDepth 100000 in
theorem am_cI_88 : ∀ w ∈ am_cW ((5, 88), (0, 52, 2)), w ∈ am_T := am_inT [489, 490, 491, 37] rfl rfl
set_option maxRecDepth 100000 in
theorem am_cI_89 : ∀ w ∈ am_cW ((3, 64), (0, 18, 3)), w ∈ am_T := am_inT [493, 494, 495, 35] rfl rfl
set_option maxRecDepth 100000 in
theorem am_cI_90 : ∀ w ∈ am_cW ((2, 43), (0, 7, 4)), w ∈ am_T := am_inT [497, 447, 448, 33] rfl rfl
set_option maxRecDepth 100000 in
theorem am_cI_91 : ∀ w ∈ am_cW ((2, 47), (0, 6, 2)), w ∈ am_T := am_inT [498, 413, 414, 33] rfl rfl
set_option maxRecDepth 100000 in
theorem am_cI_92 : ∀ w ∈ am_cW ((3, 68), (0, 14, 0)), w ∈ am_T := am_inT [499, 348, 349, 35] rfl rfl
set_option maxRecDepth 100000 in
theorem am_cI_93 : ∀ w ∈ am_cW ((6, 180), (0, 28, 2)), w ∈ am_T := am_inT [500, 501, 502, 32] rfl rfl
set_option maxRecDepth 100000 in
theorem am_cI_94 : ∀ w ∈ am_cW ((1, 30), (0, 18, 3)), w ∈ am_T := am_inT [504, 494, 495, 35] rfl rfl
set_option maxRecDepth 100000 in
theorem am_cI_95 : ∀ w ∈ am_cW ((1, 34), (0, 29, 2)), w ∈ am_T := am_inT [505, 507, 14, 32] rfl rfl
set_option maxRecDepth 100000 in
theorem am_cI_96 : ∀ w ∈ am_cW ((1, 62), (0, 1, 2)), w ∈ am_T := am_inT [509, 199, 200, 33] rfl rfl
set_option maxRecDepth 100000 in
theorem am_cI_97 : ∀ w ∈ am_cW ((1, 38), (0, 4, 2)), w ∈ am_T := am_inT [510, 295, 296, 33] rfl rfl
set_option maxRecDepth 100000 in
theorem am_cI_98 : ∀ w ∈ am_cW ((6, 72), (0, 19, 0)), w ∈ am_T := am_inT [511, 512, 513, 35] rfl rfl
set_option maxRecDepth 100000 in
theorem am_cI_99 : ∀ w ∈ am_cW ((8, 77), (2, 126, 2)), w ∈ am_T := am_inT [515, 516, 30] rfl rfl
set_option maxRecDepth 100000 in
theorem am_cI_100 : ∀ w ∈ am_cW ((8, 21), (0, 82, 0)), w ∈ am_T := am_inT [518, 519, 520, 31] rfl rfl
set_option maxRecDepth 100000 in
theorem am_cI_101 : ∀ w ∈ am_cW ((6, 75), (0, 68, 1)), w ∈ am_T := am_inT [522, 523, 524, 36] rfl rfl
set_option maxRecDepth 100000 in
theorem am_cI_102 : ∀ w ∈ am_cW ((8, 81), (2, 127, 2)), w ∈ am_T := am_inT [526, 527, 30] rfl rfl
set_option maxRecDepth 100000 in
theorem am_cI_103 : ∀ w ∈ am_cW ((8, 25), (0, 83, 0)), w ∈ am_T := am_inT [529, 530, 531, 31] rfl rfl
set_option maxRecDepth 100000 in
theorem am_cI_104 : ∀ w ∈ am_cW ((6, 79), (0, 69, 1)), w ∈ am_T := am_inT [533, 534, 535, 36] rfl rfl
set_option maxRecDepth 100000 in
theorem am_cI_105 : ∀ w ∈ am_cW ((5, 68), (0, 53, 1)), w ∈ am_T := am_inT [537, 538, 539, 37] rfl rfl
set_option maxRecDepth 100000 in
theorem am_cI_106 : ∀ w ∈ am_cW ((8, 84), (2, 128, 2)), w ∈ am_T := am_inT [541, 542, 30] rfl rfl
set_option maxRecDepth 100000 in
theorem am_cI_107 : ∀ w ∈ am_cW ((8, 29), (0, 84, 0)), w ∈ am_T := am_inT [544, 545, 546, 31] rfl rfl
set_option maxRecDepth 100000 in
theorem am_cI_108 : ∀ w ∈ am_cW ((6, 86), (0, 70, 1)), w ∈ am_T := am_inT [548, 549, 550, 36] rfl rfl
set_option maxRecDepth 100000 in
theorem am_cI_109 : ∀ w ∈ am_cW ((5, 99), (0, 8, 1)), w ∈ am_T := am_inT [552, 455, 456, 33] rfl rfl
set_option maxRecDepth 100000 in
theorem am_cI_110 : ∀ w ∈ am_cW ((6, 90), (0, 30, 1)), w ∈ am_T := am_inT [553, 554, 555, 32] rfl rfl
set_option maxRecDepth 100000 in
theorem am_cI_111 : ∀ w ∈ am_cW ((8, 87), (2, 129, 3)), w ∈ am_T := am_inT [557, 558, 30] rfl rfl
set_option maxRecDepth 100000 in
theorem am_cI_112 : ∀ w ∈ am_cW ((8, 32), (0, 85, 1)), w ∈ am_T := am_inT [560, 561, 562, 31] rfl rfl
set_option maxRecDepth 100000 in
theorem am_cI_113 : ∀ w ∈ am_cW ((6, 97), (0, 31, 0)), w ∈ am_T := am_inT [564, 565, 566, 32] rfl rfl
set_option maxRecDepth 100000 in
theorem am_cI_114 : ∀ w ∈ am_cW ((6, 102), (0, 23, 0)), w ∈ am_T := am_inT [569, 570, 571, 38] rfl rfl
set_option maxRecDepth 100000 in
theorem am_cI_115 : ∀ w ∈ am_cW ((0, 36), (0, 9, 0)), w ∈ am_T := am_inT [573, 467, 468, 33] rfl rfl
set_option maxRecDepth 100000 in
theorem am_cI_116 : ∀ w ∈ am_cW ((6, 103), (0, 86, 0)), w ∈ am_T := am_inT [574, 576, 15, 31] rfl rfl
set_option maxRecDepth 100000 in
theorem am_cI_117 : ∀ w ∈ am_cW ((6, 184), (0, 32, 1)), w ∈ am_T := am_inT [578, 579, 580, 32] rfl rfl
set_option maxRecDepth 100000 in
theorem am_cI_118 : ∀ w ∈ am_cW ((1, 45), (0, 3, 1)), w ∈ am_T := am_inT [582, 208, 209, 33] rfl rfl
set_option maxRecDepth 100000 in
theorem am_cI_119 : ∀ w ∈ am_cW ((1, 49), (0, 33, 1)), w ∈ am_T := am_inT [583, 584, 585, 32] rfl rfl
set_option maxRecDepth 100000 in
theorem am_cI_120 : ∀ w ∈ am_cW ((1, 52), (1, 15, 1)), w ∈ am_T := am_inT [587, 352, 35] rfl rfl
set_option maxRecDepth 100000 in
theorem am_cI_121 : ∀ w ∈ am_cW ((6, 187), (0, 34, 2)), w ∈ am_T := am_inT [588, 589, 590, 32] rfl rfl
set_option maxRecDepth 100000 in
theorem am_cI_122 : ∀ w ∈ am_cW ((1, 55), (0, 20, 2)), w ∈ am_T := am_inT [592, 593, 594, 35] rfl rfl
set_option maxRecDepth 100000 in
theorem am_cI_123 : ∀ w ∈ am_cW ((2, 50), (8, 0, 2)), w ∈ am_T := am_inT [] rfl rfl
set_option maxRecDepth 100000 in
theorem am_cI_124 : ∀ w ∈ am_cW ((2, 55), (7, 0, 2)), w ∈ am_T := am_inT [] rfl rfl
set_option maxRecDepth 100000 in
theorem am_cI_125 : ∀ w ∈ am_cW ((6, 191), (0, 35, 1)), w ∈ am_T := am_inT [598, 599, 600, 32] rfl rfl
set_option maxRecDepth 100000 in
theorem am_cI_126 : ∀ w ∈ am_cW ((1, 59), (0, 2, 1)), w ∈ am_T := am_inT [602, 204, 205, 33] rfl rfl
set_option maxRecDepth 100000 in
theorem am_cI_127 : ∀ w ∈ am_cW ((6, 194), (0, 33, 1)), w ∈ am_T := am_inT [603, 584, 585, 32] rfl rfl
set_option maxRecDepth 100000 in
theorem am_cI_128 : ∀ w ∈ am_cW ((8, 90), (2, 130, 4)), w ∈ am_T := am_inT [604, 605, 30] rfl rfl
set_option maxRecDepth 100000 in
theorem am_cI_129 : ∀ w ∈ am_cW ((8, 35), (0, 87, 3)), w ∈ am_T := am_inT [631, 632, 633, 31] rfl rfl
set_option maxRecDepth 100000 in
theorem am_cI_130 : ∀ w ∈ am_cW ((6, 106), (0, 88, 2)), w ∈ am_T := am_inT [635, 637, 16, 31] rfl rfl
set_option maxRecDepth 100000 in
theorem am_cI_131 : ∀ w ∈ am_cW ((6, 110), (0, 89, 1)), w ∈ am_T := am_inT [642, 644, 17, 31] rfl rfl
set_option maxRecDepth 100000 in
theorem am_cI_132 : ∀ w ∈ am_cW ((6, 117), (0, 54, 2)), w ∈ am_T := am_inT [647, 648, 649, 37] rfl rfl
set_option maxRecDepth 100000 in
theorem am_cI_133 : ∀ w ∈ am_cW ((3, 28), (0, 10, 2)), w ∈ am_T := am_inT [651, 652, 653, 33] rfl rfl
set_option maxRecDepth 100000 in
theorem am_cI_134 : ∀ w ∈ am_cW ((6, 122), (0, 24, 3)), w ∈ am_T := am_inT [655, 656, 657, 38] rfl rfl
set_option maxRecDepth 100000 in
theorem am_cI_135 : ∀ w ∈ am_cW ((0, 28), (0, 25, 2)), w ∈ am_T := am_inT [659, 660, 661, 38] rfl rfl
set_option maxRecDepth 100000 in
theorem am_cI_136 : ∀ w ∈ am_cW ((0, 24), (0, 3, 1)), w ∈ am_T := am_inT [663, 208, 209, 33] rfl rfl
set_option maxRecDepth 100000 in
theorem am_cI_137 : ∀ w ∈ am_cW ((0, 32), (0, 4, 2)), w ∈ am_T := am_inT [664, 295, 296, 33] rfl rfl
set_option maxRecDepth 100000 in
theorem am_cI_138 : ∀ w ∈ am_cW ((8, 94), (2, 131, 3)), w ∈ am_T := am_inT [665, 666, 30] rfl rfl
set_option maxRecDepth 100000 in
theorem am_cI_139 : ∀ w ∈ am_cW ((8, 41), (0, 90, 2)), w ∈ am_T := am_inT [668, 669, 670, 31] rfl rfl
set_option maxRecDepth 100000 in
theorem am_cI_140 : ∀ w ∈ am_cW ((6, 130), (0, 36, 2)), w ∈ am_T := am_inT [673, 674, 675, 32] rfl rfl
set_option maxRecDepth 100000 in
theorem am_cI_141 : ∀ w ∈ am_cW ((1, 42), (0, 10, 2)), w ∈ am_T := am_inT [677, 652, 653, 33] rfl rfl
set_option maxRecDepth 100000 in
theorem am_cI_142 : ∀ w ∈ am_cW ((8, 102), (2, 132, 4)), w ∈ am_T := am_inT [678, 679, 30] rfl rfl
set_option maxRecDepth 100000 in
theorem am_cI_143 : ∀ w ∈ am_cW ((8, 45), (0, 91, 2)), w ∈ am_T := am_inT [681, 682, 683, 31] rfl rfl
set_option maxRecDepth 100000 in
theorem am_cI_144 : ∀ w ∈ am_cW ((6, 138), (0, 55, 1)), w ∈ am_T := am_inT [685, 686, 687, 37] rfl rfl
set_option maxRecDepth 100000 in
theorem am_cI_145 : ∀ w ∈ am_cW ((8, 106), (2, 133, 3)), w ∈ am_T := am_inT [689, 690, 30] rfl rfl
set_option maxRecDepth 100000 in
theorem am_cI_146 : ∀ w ∈ am_cW ((8, 49), (0, 92, 1)), w ∈ am_T := am_inT [692, 693, 694, 31] rfl rfl
set_option maxRecDepth 100000 in
theorem am_cI_147 : ∀ w ∈ am_cW ((6, 141), (0, 63, 0)), w ∈ am_T := am_inT [696, 376, 377, 36] rfl rfl
set_option maxRecDepth 100000 in
theorem am_cI_148 : ∀ w ∈ am_cW ((6, 146), (0, 71, 1)), w ∈ am_T := am_inT [698, 699, 700, 36] rfl rfl
set_option maxRecDepth 100000 in
theorem am_cI_149 : ∀ w ∈ am_cW ((8, 109), (2, 134, 3)), w ∈ am_T := am_inT [702, 703, 30] rfl rfl
set_option maxRecDepth 100000 in
theorem am_cI_150 : ∀ w ∈ am_cW ((8, 52), (0, 93, 1)), w ∈ am_T := am_inT [705, 706, 707, 31] rfl rfl
set_option maxRecDepth 100000 in
theorem am_cI_151 : ∀ w ∈ am_cW ((6, 149), (0, 72, 0)), w ∈ am_T := am_inT [709, 710, 711, 36] rfl rfl
set_option maxRecDepth 100000 in
theorem am_cI_152 : ∀ w ∈ am_cW ((6, 152), (0, 73, 0)), w ∈ am_T := am_inT [713, 714, 715, 36] rfl rfl
set_option maxRecDepth 100000 in
theorem am_cI_153 : ∀ w ∈ am_cW ((6, 155), (0, 74, 0)), w ∈ am_T := am_inT [717, 718, 719, 36] rfl rfl
set_option maxRecDepth 100000 in
theorem am_cI_154 : ∀ w ∈ am_cW ((5, 51), (0, 40, 0)), w ∈ am_T := am_inT [721, 386, 387, 37] rfl rfl
set_option maxRecDepth 100000 in
theorem am_cI_155 : ∀ w ∈ am_cW ((8, 66), (3, 94, 1)), w ∈ am_T := am_inT [724, 725, 39] rfl rfl
set_option maxRecDepth 100000 in
theorem am_cI_156 : ∀ w ∈ am_cW ((7, 1), (5, 0, 0)), w ∈ am_T := am_inT [] rfl rfl
set_option maxRecDepth 100000 in
theorem am_cI_157 : ∀ w ∈ am_cW ((7, 63), (0, 95, 2)), w ∈ am_T := am_inT [728, 730, 18, 39] rfl rfl
set_option maxRecDepth 100000 in
theorem am_cI_158 : ∀ w ∈ am_cW ((8, 71), (0, 96, 0)), w ∈ am_T := am_inT [794, 795, 796, 39] rfl rfl
set_option maxRecDepth 100000 in
theorem am_cI_159 : ∀ w ∈ am_cW ((8, 70), (0, 97, 1)), w ∈ am_T := am_inT [798, 799, 800, 39] rfl rfl
set_option maxRecDepth 100000 in
theorem am_cI_160 : ∀ w ∈ am_cW ((7, 71), (1, 98, 3)), w ∈ am_T := am_inT [802, 803, 39] rfl rfl
set_option maxRecDepth 100000 in
theorem am_cI_161 : ∀ w ∈ am_cW ((8, 76), (0, 99, 1)), w ∈ am_T := am_inT [805, 806, 807, 39] rfl rfl
set_option maxRecDepth 100000 in
theorem am_cI_162 : ∀ w ∈ am_cW ((7, 104), (0, 100, 0)), w ∈ am_T := am_inT [809, 811, 19, 39] rfl rfl
set_option maxRecDepth 100000 in
theorem am_cI_163 : ∀ w ∈ am_cW ((7, 78), (0, 101, 0)), w ∈ am_T := am_inT [813, 815, 20, 39] rfl rfl
set_option maxRecDepth 100000 in
theorem am_cI_164 : ∀ w ∈ am_cW ((7, 107), (0, 102, 1)), w ∈ am_T := am_inT [817, 819, 21, 39] rfl rfl
set_option maxRecDepth 100000 in
theorem am_cI_165 : ∀ w ∈ am_cW ((7, 86), (0, 103, 0)), w ∈ am_T := am_inT [821, 823, 22, 39] rfl rfl
set_option maxRecDepth 100000 in
theorem am_cI_166 : ∀ w ∈ am_cW ((7, 90), (0, 104, 0)), w ∈ am_T := am_inT [825, 827, 23, 39] rfl rfl
set_option maxRecDepth 100000 in
theorem am_cI_167 : ∀ w ∈ am_cW ((7, 82), (1, 105, 2)), w ∈ am_T := am_inT [829, 830, 39] rfl rfl
set_option maxRecDepth 100000 in
theorem am_cI_168 : ∀ w ∈ am_cW ((7, 93), (0, 106, 1)), w ∈ am_T := am_inT [833, 835, 24, 39] rfl rfl
set_option maxRecDepth 100000 in
theorem am_cI_169 : ∀ w ∈ am_cW ((7, 97), (0, 107, 1)), w ∈ am_T := am_inT [837, 839, 25, 39] rfl rfl
set_option maxRecDepth 100000 in
theorem am_cI_170 : ∀ w ∈ am_cW ((7, 110), (0, 108, 2)), w ∈ am_T := am_inT [841, 843, 26, 39] rfl rfl
set_option maxRecDepth 100000 in
theorem am_cI_171 : ∀ w ∈ am_cW ((8, 80), (0, 109, 0)), w ∈ am_T := am_inT [845, 846, 847, 39] rfl rfl
set_option maxRecDepth 100000 in
theorem am_cI_172 : ∀ w ∈ am_cW ((8, 83), (0, 110, 0)), w ∈ am_T := am_inT [849, 850, 851, 39] rfl rfl
set_option maxRecDepth 100000 in
theorem am_cI_173 : ∀ w ∈ am_cW ((8, 86), (0, 111, 0)), w ∈ am_T := am_inT [853, 854, 855, 39] rfl rfl
set_option maxRecDepth 100000 in
theorem am_cI_174 : ∀ w ∈ am_cW ((8, 89), (0, 112, 1)), w ∈ am_T := am_inT [857, 858, 859, 39] rfl rfl
set_option maxRecDepth 100000 in
theorem am_cI_175 : ∀ w ∈ am_cW ((7, 113), (0, 113, 2)), w ∈ am_T := am_inT [861, 863, 27, 39] rfl rfl
set_option maxRecDepth 100000 in
theorem am_cI_176 : ∀ w ∈ am_cW ((8, 93), (0, 114, 3)), w ∈ am_T := am_inT [865, 866, 867, 39] rfl rfl
set_option maxRecDepth 100000 in
theorem am_cI_177 : ∀ w ∈ am_cW ((8, 97), (0, 115, 2)), w ∈ am_T := am_inT [869, 870, 871, 39] rfl rfl
set_option maxRecDepth 100000 in
theorem am_cI_178 : ∀ w ∈ am_cW ((8, 101), (0, 116, 0)), w ∈ am_T := am_inT [873, 874, 875, 39] rfl rfl
set_option maxRecDepth 100000 in
theorem am_cI_179 : ∀ w ∈ am_cW ((7, 117), (0, 117, 1)), w ∈ am_T := am_inT [877, 879, 28, 39] rfl rfl
set_option maxRecDepth 100000 in
theorem am_cI_180 : ∀ w ∈ am_cW ((8, 105), (0, 118, 2)), w ∈ am_T := am_inT [881, 882, 883, 39] rfl rfl
set_option maxRecDepth 100000 in
theorem am_cI_181 : ∀ w ∈ am_cW ((8, 108), (0, 119, 1)), w ∈ am_T := am_inT [885, 886, 887, 39] rfl rfl
set_option maxRecDepth 100000 in
theorem am_cI_182 : ∀ w ∈ am_cW ((8, 111), (0, 120, 1)), w ∈ am_T := am_inT [889, 890, 891, 39] rfl rfl
set_option maxRecDepth 100000 in
theorem am_cI_183 : ∀ w ∈ am_cW ((7, 121), (0, 121, 1)), w ∈ am_T := am_inT [893, 895, 29, 39] rfl rfl
def am_cT0 : List ((Nat × Nat) × (Nat × Nat × Nat)) := [((8, 61), (3, 75, 1)), ((6, 1), (5, 0, 0)), ((6, 9), (4, 26, 0)), ((1, 3), (5, 0, 0)), ((1, 11), (3, 0, 1)), ((4, 3), (5, 0, 0)), ((4, 9), (7, 0, 2)), ((6, 18), (4, 11, 0)), ((2, 3), (5, 0, 0)), ((2, 11), (3, 0, 1)), ((6, 26), (8, 0, 2)), ((6, 32), (7, 0, 2)), ((6, 37), (3, 56, 1)), ((5, 3), (5, 0, 0)), ((5, 11), (4, 37, 0)), ((3, 3), (5, 0, 0)), ((3, 11), (3, 0, 1)), ((5, 20), (3, 0, 1)), ((5, 37), (7, 0, 2)), ((6, 49), (3, 21, 1)), ((0, 3), (5, 0, 0)), ((0, 17), (3, 0, 1)), ((8, 98), (0, 76, 0)), ((6, 131), (0, 57, 0)), ((6, 113), (0, 58, 1)), ((6, 134), (0, 38, 0)), ((3, 32), (0, 1, 2)), ((3, 36), (0, 2, 1))]
theorem am_cTi0 : ∀ q ∈ am_cT0, ∀ w ∈ am_cW q, w ∈ am_T := List.forall_mem_cons.mpr ⟨am_cI_0, List.forall_mem_cons.mpr ⟨am_cI_1, List.forall_mem_cons.mpr ⟨am_cI_2, List.forall_mem_cons.mpr ⟨am_cI_3, List.forall_mem_cons.mpr ⟨am_cI_4, List.forall_mem_cons.mpr ⟨am_cI_5, List.forall_mem_cons.mpr ⟨am_cI_6, List.forall_mem_cons.mpr ⟨am_cI_7, List.forall_mem_cons.mpr ⟨am_cI_8, List.forall_mem_cons.mpr ⟨am_cI_9, List.forall_mem_cons.mpr ⟨am_cI_10, List.forall_mem_cons.mpr ⟨am_cI_11, List.forall_mem_cons.mpr ⟨am_cI_12, List.forall_mem_cons.mpr ⟨am_cI_13, List.forall_mem_cons.mpr ⟨am_cI_14, List.forall_mem_cons.mpr ⟨am_cI_15, List.forall_mem_cons.mpr ⟨am_cI_16, List.forall_mem_cons.mpr ⟨am_cI_17, List.forall_mem_cons.mpr ⟨am_cI_18, List.forall_mem_cons.mpr ⟨am_cI_19, List.forall_mem_cons.mpr ⟨am_cI_20, List.forall_mem_cons.mpr ⟨am_cI_21, List.forall_mem_cons.mpr ⟨am_cI_22, List.forall_mem_cons.mpr ⟨am_cI_23, List.forall_mem_cons.mpr ⟨am_cI_24, List.forall_mem_cons.mpr ⟨am_cI_25, List.forall_mem_cons.mpr ⟨am_cI_26, List.forall_mem_cons.mpr ⟨am_cI_27, fun _ h => absurd h List.not_mem_nil⟩⟩⟩⟩⟩⟩⟩⟩⟩⟩⟩⟩⟩⟩⟩⟩⟩⟩⟩⟩⟩⟩⟩⟩⟩⟩⟩⟩
def am_cT1 : List ((Nat × Nat) × (Nat × Nat × Nat)) := [((4, 21), (0, 3, 1)), ((8, 55), (1, 123, 2)), ((8, 67), (2, 124, 3)), ((8, 7), (0, 77, 1)), ((6, 61), (0, 12, 1)), ((2, 32), (0, 4, 2)), ((8, 74), (2, 125, 3)), ((8, 15), (0, 78, 1)), ((6, 65), (0, 79, 0)), ((6, 83), (0, 80, 0)), ((6, 158), (0, 22, 0)), ((6, 166), (0, 13, 0)), ((6, 68), (0, 81, 1)), ((6, 173), (0, 27, 1)), ((1, 24), (0, 14, 0)), ((2, 24), (1, 15, 1)), ((6, 93), (0, 59, 0)), ((6, 176), (0, 60, 2)), ((5, 55), (0, 16, 0)), ((2, 28), (0, 1, 2)), ((5, 60), (0, 61, 1)), ((5, 82), (0, 62, 1)), ((5, 102), (0, 63, 0)), ((5, 47), (0, 3, 1)), ((5, 92), (0, 58, 1)), ((5, 64), (0, 39, 1)), ((3, 39), (0, 40, 0)), ((3, 24), (0, 3, 1))]
theorem am_cTi1 : ∀ q ∈ am_cT1, ∀ w ∈ am_cW q, w ∈ am_T := List.forall_mem_cons.mpr ⟨am_cI_28, List.forall_mem_cons.mpr ⟨am_cI_29, List.forall_mem_cons.mpr ⟨am_cI_30, List.forall_mem_cons.mpr ⟨am_cI_31, List.forall_mem_cons.mpr ⟨am_cI_32, List.forall_mem_cons.mpr ⟨am_cI_33, List.forall_mem_cons.mpr ⟨am_cI_34, List.forall_mem_cons.mpr ⟨am_cI_35, List.forall_mem_cons.mpr ⟨am_cI_36, List.forall_mem_cons.mpr ⟨am_cI_37, List.forall_mem_cons.mpr ⟨am_cI_38, List.forall_mem_cons.mpr ⟨am_cI_39, List.forall_mem_cons.mpr ⟨am_cI_40, List.forall_mem_cons.mpr ⟨am_cI_41, List.forall_mem_cons.mpr ⟨am_cI_42, List.forall_mem_cons.mpr ⟨am_cI_43, List.forall_mem_cons.mpr ⟨am_cI_44, List.forall_mem_cons.mpr ⟨am_cI_45, List.forall_mem_cons.mpr ⟨am_cI_46, List.forall_mem_cons.mpr ⟨am_cI_47, List.forall_mem_cons.mpr ⟨am_cI_48, List.forall_mem_cons.mpr ⟨am_cI_49, List.forall_mem_cons.mpr ⟨am_cI_50, List.forall_mem_cons.mpr ⟨am_cI_51, List.forall_mem_cons.mpr ⟨am_cI_52, List.forall_mem_cons.mpr ⟨am_cI_53, List.forall_mem_cons.mpr ⟨am_cI_54, List.forall_mem_cons.mpr ⟨am_cI_55, fun _ h => absurd h List.not_mem_nil⟩⟩⟩⟩⟩⟩⟩⟩⟩⟩⟩⟩⟩⟩⟩⟩⟩⟩⟩⟩⟩⟩⟩⟩⟩⟩⟩⟩
def am_cT2 : List ((Nat × Nat) × (Nat × Nat × Nat)) := [((3, 43), (0, 17, 2)), ((2, 36), (0, 3, 1)), ((2, 39), (0, 5, 4)), ((3, 49), (0, 41, 1)), ((3, 88), (1, 15, 1)), ((5, 71), (0, 42, 2)), ((3, 52), (0, 43, 1)), ((3, 55), (0, 6, 2)), ((4, 25), (0, 4, 2)), ((3, 58), (0, 44, 0)), ((5, 75), (0, 14, 0)), ((5, 78), (0, 64, 3)), ((5, 105), (0, 45, 0)), ((5, 107), (0, 46, 2)), ((3, 61), (0, 47, 1)), ((5, 85), (0, 65, 1)), ((5, 110), (0, 66, 0)), ((5, 127), (0, 7, 4)), ((5, 95), (0, 48, 1)), ((3, 84), (0, 8, 1)), ((4, 30), (8, 0, 2)), ((4, 33), (6, 0, 5)), ((5, 113), (0, 49, 1)), ((3, 78), (0, 9, 0)), ((4, 39), (1, 122, 2)), ((3, 81), (0, 4, 2)), ((5, 116), (0, 50, 3)), ((3, 74), (0, 7, 4))]
theorem am_cTi2 : ∀ q ∈ am_cT2, ∀ w ∈ am_cW q, w ∈ am_T := List.forall_mem_cons.mpr ⟨am_cI_56, List.forall_mem_cons.mpr ⟨am_cI_57, List.forall_mem_cons.mpr ⟨am_cI_58, List.forall_mem_cons.mpr ⟨am_cI_59, List.forall_mem_cons.mpr ⟨am_cI_60, List.forall_mem_cons.mpr ⟨am_cI_61, List.forall_mem_cons.mpr ⟨am_cI_62, List.forall_mem_cons.mpr ⟨am_cI_63, List.forall_mem_cons.mpr ⟨am_cI_64, List.forall_mem_cons.mpr ⟨am_cI_65, List.forall_mem_cons.mpr ⟨am_cI_66, List.forall_mem_cons.mpr ⟨am_cI_67, List.forall_mem_cons.mpr ⟨am_cI_68, List.forall_mem_cons.mpr ⟨am_cI_69, List.forall_mem_cons.mpr ⟨am_cI_70, List.forall_mem_cons.mpr ⟨am_cI_71, List.forall_mem_cons.mpr ⟨am_cI_72, List.forall_mem_cons.mpr ⟨am_cI_73, List.forall_mem_cons.mpr ⟨am_cI_74, List.forall_mem_cons.mpr ⟨am_cI_75, List.forall_mem_cons.mpr ⟨am_cI_76, List.forall_mem_cons.mpr ⟨am_cI_77, List.forall_mem_cons.mpr ⟨am_cI_78, List.forall_mem_cons.mpr ⟨am_cI_79, List.forall_mem_cons.mpr ⟨am_cI_80, List.forall_mem_cons.mpr ⟨am_cI_81, List.forall_mem_cons.mpr ⟨am_cI_82, List.forall_mem_cons.mpr ⟨am_cI_83, fun _ h => absurd h List.not_mem_nil⟩⟩⟩⟩⟩⟩⟩⟩⟩⟩⟩⟩⟩⟩⟩⟩⟩⟩⟩⟩⟩⟩⟩⟩⟩⟩⟩⟩
def am_cT3 : List ((Nat × Nat) × (Nat × Nat × Nat)) := [((3, 71), (0, 51, 1)), ((5, 120), (0, 44, 0)), ((5, 123), (0, 67, 3)), ((5, 131), (0, 4, 2)), ((5, 88), (0, 52, 2)), ((3, 64), (0, 18, 3)), ((2, 43), (0, 7, 4)), ((2, 47), (0, 6, 2)), ((3, 68), (0, 14, 0)), ((6, 180), (0, 28, 2)), ((1, 30), (0, 18, 3)), ((1, 34), (0, 29, 2)), ((1, 62), (0, 1, 2)), ((1, 38), (0, 4, 2)), ((6, 72), (0, 19, 0)), ((8, 77), (2, 126, 2)), ((8, 21), (0, 82, 0)), ((6, 75), (0, 68, 1)), ((8, 81), (2, 127, 2)), ((8, 25), (0, 83, 0)), ((6, 79), (0, 69, 1)), ((5, 68), (0, 53, 1)), ((8, 84), (2, 128, 2)), ((8, 29), (0, 84, 0)), ((6, 86), (0, 70, 1)), ((5, 99), (0, 8, 1)), ((6, 90), (0, 30, 1)), ((8, 87), (2, 129, 3))]
theorem am_cTi3 : ∀ q ∈ am_cT3, ∀ w ∈ am_cW q, w ∈ am_T := List.forall_mem_cons.mpr ⟨am_cI_84, List.forall_mem_cons.mpr ⟨am_cI_85, List.forall_mem_cons.mpr ⟨am_cI_86, List.forall_mem_cons.mpr ⟨am_cI_87, List.forall_mem_cons.mpr ⟨am_cI_88, List.forall_mem_cons.mpr ⟨am_cI_89, List.forall_mem_cons.mpr ⟨am_cI_90, List.forall_mem_cons.mpr ⟨am_cI_91, List.forall_mem_cons.mpr ⟨am_cI_92, List.forall_mem_cons.mpr ⟨am_cI_93, List.forall_mem_cons.mpr ⟨am_cI_94, List.forall_mem_cons.mpr ⟨am_cI_95, List.forall_mem_cons.mpr ⟨am_cI_96, List.forall_mem_cons.mpr ⟨am_cI_97, List.forall_mem_cons.mpr ⟨am_cI_98, List.forall_mem_cons.mpr ⟨am_cI_99, List.forall_mem_cons.mpr ⟨am_cI_100, List.forall_mem_cons.mpr ⟨am_cI_101, List.forall_mem_cons.mpr ⟨am_cI_102, List.forall_mem_cons.mpr ⟨am_cI_103, List.forall_mem_cons.mpr ⟨am_cI_104, List.forall_mem_cons.mpr ⟨am_cI_105, List.forall_mem_cons.mpr ⟨am_cI_106, List.forall_mem_cons.mpr ⟨am_cI_107, List.forall_mem_cons.mpr ⟨am_cI_108, List.forall_mem_cons.mpr ⟨am_cI_109, List.forall_mem_cons.mpr ⟨am_cI_110, List.forall_mem_cons.mpr ⟨am_cI_111, fun _ h => absurd h List.not_mem_nil⟩⟩⟩⟩⟩⟩⟩⟩⟩⟩⟩⟩⟩⟩⟩⟩⟩⟩⟩⟩⟩⟩⟩⟩⟩⟩⟩⟩
def am_cT4 : List ((Nat × Nat) × (Nat × Nat × Nat)) := [((8, 32), (0, 85, 1)), ((6, 97), (0, 31, 0)), ((6, 102), (0, 23, 0)), ((0, 36), (0, 9, 0)), ((6, 103), (0, 86, 0)), ((6, 184), (0, 32, 1)), ((1, 45), (0, 3, 1)), ((1, 49), (0, 33, 1)), ((1, 52), (1, 15, 1)), ((6, 187), (0, 34, 2)), ((1, 55), (0, 20, 2)), ((2, 50), (8, 0, 2)), ((2, 55), (7, 0, 2)), ((6, 191), (0, 35, 1)), ((1, 59), (0, 2, 1)), ((6, 194), (0, 33, 1)), ((8, 90), (2, 130, 4)), ((8, 35), (0, 87, 3)), ((6, 106), (0, 88, 2)), ((6, 110), (0, 89, 1)), ((6, 117), (0, 54, 2)), ((3, 28), (0, 10, 2)), ((6, 122), (0, 24, 3)), ((0, 28), (0, 25, 2)), ((0, 24), (0, 3, 1)), ((0, 32), (0, 4, 2)), ((8, 94), (2, 131, 3)), ((8, 41), (0, 90, 2))]
theorem am_cTi4 : ∀ q ∈ am_cT4, ∀ w ∈ am_cW q, w ∈ am_T := List.forall_mem_cons.mpr ⟨am_cI_112, List.forall_mem_cons.mpr ⟨am_cI_113, List.forall_mem_cons.mpr ⟨am_cI_114, List.forall_mem_cons.mpr ⟨am_cI_115, List.forall_mem_cons.mpr ⟨am_cI_116, List.forall_mem_cons.mpr ⟨am_cI_117, List.forall_mem_cons.mpr ⟨am_cI_118, List.forall_mem_cons.mpr ⟨am_cI_119, List.forall_mem_cons.mpr ⟨am_cI_120, List.forall_mem_cons.mpr ⟨am_cI_121, List.forall_mem_cons.mpr ⟨am_cI_122, List.forall_mem_cons.mpr ⟨am_cI_123, List.forall_mem_cons.mpr ⟨am_cI_124, List.forall_mem_cons.mpr ⟨am_cI_125, List.forall_mem_cons.mpr ⟨am_cI_126, List.forall_mem_cons.mpr ⟨am_cI_127, List.forall_mem_cons.mpr ⟨am_cI_128, List.forall_mem_cons.mpr ⟨am_cI_129, List.forall_mem_cons.mpr ⟨am_cI_130, List.forall_mem_cons.mpr ⟨am_cI_131, List.forall_mem_cons.mpr ⟨am_cI_132, List.forall_mem_cons.mpr ⟨am_cI_133, List.forall_mem_cons.mpr ⟨am_cI_134, List.forall_mem_cons.mpr ⟨am_cI_135, List.forall_mem_cons.mpr ⟨am_cI_136, List.forall_mem_cons.mpr ⟨am_cI_137, List.forall_mem_cons.mpr ⟨am_cI_138, List.forall_mem_cons.mpr ⟨am_cI_139, fun _ h => absurd h List.not_mem_nil⟩⟩⟩⟩⟩⟩⟩⟩⟩⟩⟩⟩⟩⟩⟩⟩⟩⟩⟩⟩⟩⟩⟩⟩⟩⟩⟩⟩
def am_cT5 : List ((Nat × Nat) × (Nat × Nat × Nat)) := [((6, 130), (0, 36, 2)), ((1, 42), (0, 10, 2)), ((8, 102), (2, 132, 4)), ((8, 45), (0, 91, 2)), ((6, 138), (0, 55, 1)), ((8, 106), (2, 133, 3)), ((8, 49), (0, 92, 1)), ((6, 141), (0, 63, 0)), ((6, 146), (0, 71, 1)), ((8, 109), (2, 134, 3)), ((8, 52), (0, 93, 1)), ((6, 149), (0, 72, 0)), ((6, 152), (0, 73, 0)), ((6, 155), (0, 74, 0)), ((5, 51), (0, 40, 0)), ((8, 66), (3, 94, 1)), ((7, 1), (5, 0, 0)), ((7, 63), (0, 95, 2)), ((8, 71), (0, 96, 0)), ((8, 70), (0, 97, 1)), ((7, 71), (1, 98, 3)), ((8, 76), (0, 99, 1)), ((7, 104), (0, 100, 0)), ((7, 78), (0, 101, 0)), ((7, 107), (0, 102, 1)), ((7, 86), (0, 103, 0)), ((7, 90), (0, 104, 0)), ((7, 82), (1, 105, 2))]
theorem am_cTi5 : ∀ q ∈ am_cT5, ∀ w ∈ am_cW q, w ∈ am_T := List.forall_mem_cons.mpr ⟨am_cI_140, List.forall_mem_cons.mpr ⟨am_cI_141, List.forall_mem_cons.mpr ⟨am_cI_142, List.forall_mem_cons.mpr ⟨am_cI_143, List.forall_mem_cons.mpr ⟨am_cI_144, List.forall_mem_cons.mpr ⟨am_cI_145, List.forall_mem_cons.mpr ⟨am_cI_146, List.forall_mem_cons.mpr ⟨am_cI_147, List.forall_mem_cons.mpr ⟨am_cI_148, List.forall_mem_cons.mpr ⟨am_cI_149, List.forall_mem_cons.mpr ⟨am_cI_150, List.forall_mem_cons.mpr ⟨am_cI_151, List.forall_mem_cons.mpr ⟨am_cI_152, List.forall_mem_cons.mpr ⟨am_cI_153, List.forall_mem_cons.mpr ⟨am_cI_154, List.forall_mem_cons.mpr ⟨am_cI_155, List.forall_mem_cons.mpr ⟨am_cI_156, List.forall_mem_cons.mpr ⟨am_cI_157, List.forall_mem_cons.mpr ⟨am_cI_158, List.forall_mem_cons.mpr ⟨am_cI_159, List.forall_mem_cons.mpr ⟨am_cI_160, List.forall_mem_cons.mpr ⟨am_cI_161, List.forall_mem_cons.mpr ⟨am_cI_162, List.forall_mem_cons.mpr ⟨am_cI_163, List.forall_mem_cons.mpr ⟨am_cI_164, List.forall_mem_cons.mpr ⟨am_cI_165, List.forall_mem_cons.mpr ⟨am_cI_166, List.forall_mem_cons.mpr ⟨am_cI_167, fun _ h => absurd h List.not_mem_nil⟩⟩⟩⟩⟩⟩⟩⟩⟩⟩⟩⟩⟩⟩⟩⟩⟩⟩⟩⟩⟩⟩⟩⟩⟩⟩⟩⟩
def am_cT6 : List ((Nat × Nat) × (Nat × Nat × Nat)) := [((7, 93), (0, 106, 1)), ((7, 97), (0, 107, 1)), ((7, 110), (0, 108, 2)), ((8, 80), (0, 109, 0)), ((8, 83), (0, 110, 0)), ((8, 86), (0, 111, 0)), ((8, 89), (0, 112, 1)), ((7, 113), (0, 113, 2)), ((8, 93), (0, 114, 3)), ((8, 97), (0, 115, 2)), ((8, 101), (0, 116, 0)), ((7, 117), (0, 117, 1)), ((8, 105), (0, 118, 2)), ((8, 108), (0, 119, 1)), ((8, 111), (0, 120, 1)), ((7, 121), (0, 121, 1))]
theorem am_cTi6 : ∀ q ∈ am_cT6, ∀ w ∈ am_cW q, w ∈ am_T := List.forall_mem_cons.mpr ⟨am_cI_168, List.forall_mem_cons.mpr ⟨am_cI_169, List.forall_mem_cons.mpr ⟨am_cI_170, List.forall_mem_cons.mpr ⟨am_cI_171, List.forall_mem_cons.mpr ⟨am_cI_172, List.forall_mem_cons.mpr ⟨am_cI_173, List.forall_mem_cons.mpr ⟨am_cI_174, List.forall_mem_cons.mpr ⟨am_cI_175, List.forall_mem_cons.mpr ⟨am_cI_176, List.forall_mem_cons.mpr ⟨am_cI_177, List.forall_mem_cons.mpr ⟨am_cI_178, List.forall_mem_cons.mpr ⟨am_cI_179, List.forall_mem_cons.mpr ⟨am_cI_180, List.forall_mem_cons.mpr ⟨am_cI_181, List.forall_mem_cons.mpr ⟨am_cI_182, List.forall_mem_cons.mpr ⟨am_cI_183, fun _ h => absurd h List.not_mem_nil⟩⟩⟩⟩⟩⟩⟩⟩⟩⟩⟩⟩⟩⟩⟩⟩
theorem am_cT_in : ∀ q ∈ am_cT, ∀ w ∈ am_cW q, w ∈ am_T := by
  show ∀ q ∈ am_cT0 ++ (am_cT1 ++ (am_cT2 ++ (am_cT3 ++ (am_cT4 ++ (am_cT5 ++ (am_cT6)))))), ∀ w ∈ am_cW q, w ∈ am_T
  exact List.forall_mem_append.mpr ⟨am_cTi0, List.forall_mem_append.mpr ⟨am_cTi1, List.forall_mem_append.mpr ⟨am_cTi2, List.forall_mem_append.mpr ⟨am_cTi3, List.forall_mem_append.mpr ⟨am_cTi4, List.forall_mem_append.mpr ⟨am_cTi5, am_cTi6⟩⟩⟩⟩⟩⟩
set_option maxRecDepth 100000 in
theorem am_cwI_0 : ∀ w ∈ [am_cw 0], w ∈ am_T := am_inT [68] rfl rfl
set_option maxRecDepth 100000 in
theorem am_cwI_1 : ∀ w ∈ [am_cw 1], w ∈ am_T := am_inT [201] rfl rfl
set_option maxRecDepth 100000 in
theorem am_cwI_2 : ∀ w ∈ [am_cw 2], w ∈ am_T := am_inT [206] rfl rfl
set_option maxRecDepth 100000 in
theorem am_cwI_3 : ∀ w ∈ [am_cw 3], w ∈ am_T := am_inT [210] rfl rfl
set_option maxRecDepth 100000 in
theorem am_cwI_4 : ∀ w ∈ [am_cw 4], w ∈ am_T := am_inT [297] rfl rfl
set_option maxRecDepth 100000 in
theorem am_cwI_5 : ∀ w ∈ [am_cw 5], w ∈ am_T := am_inT [398] rfl rfl
set_option maxRecDepth 100000 in
theorem am_cwI_6 : ∀ w ∈ [am_cw 6], w ∈ am_T := am_inT [415] rfl rfl
set_option maxRecDepth 100000 in
theorem am_cwI_7 : ∀ w ∈ [am_cw 7], w ∈ am_T := am_inT [449] rfl rfl
set_option maxRecDepth 100000 in
theorem am_cwI_8 : ∀ w ∈ [am_cw 8], w ∈ am_T := am_inT [457] rfl rfl
set_option maxRecDepth 100000 in
theorem am_cwI_9 : ∀ w ∈ [am_cw 9], w ∈ am_T := am_inT [469] rfl rfl
set_option maxRecDepth 100000 in
theorem am_cwI_10 : ∀ w ∈ [am_cw 10], w ∈ am_T := am_inT [654] rfl rfl
set_option maxRecDepth 100000 in
theorem am_cwI_11 : ∀ w ∈ [am_cw 11], w ∈ am_T := am_inT [89] rfl rfl
set_option maxRecDepth 100000 in
theorem am_cwI_12 : ∀ w ∈ [am_cw 12], w ∈ am_T := am_inT [293] rfl rfl
set_option maxRecDepth 100000 in
theorem am_cwI_13 : ∀ w ∈ [am_cw 13], w ∈ am_T := am_inT [337] rfl rfl
set_option maxRecDepth 100000 in
theorem am_cwI_14 : ∀ w ∈ [am_cw 14], w ∈ am_T := am_inT [350] rfl rfl
set_option maxRecDepth 100000 in
theorem am_cwI_15 : ∀ w ∈ [am_cw 15], w ∈ am_T := am_inT [353] rfl rfl
set_option maxRecDepth 100000 in
theorem am_cwI_16 : ∀ w ∈ [am_cw 16], w ∈ am_T := am_inT [365] rfl rfl
set_option maxRecDepth 100000 in
theorem am_cwI_17 : ∀ w ∈ [am_cw 17], w ∈ am_T := am_inT [393] rfl rfl
set_option maxRecDepth 100000 in
theorem am_cwI_18 : ∀ w ∈ [am_cw 18], w ∈ am_T := am_inT [496] rfl rfl
set_option maxRecDepth 100000 in
theorem am_cwI_19 : ∀ w ∈ [am_cw 19], w ∈ am_T := am_inT [514] rfl rfl
set_option maxRecDepth 100000 in
theorem am_cwI_20 : ∀ w ∈ [am_cw 20], w ∈ am_T := am_inT [595] rfl rfl
set_option maxRecDepth 100000 in
theorem am_cwI_21 : ∀ w ∈ [am_cw 21], w ∈ am_T := am_inT [152] rfl rfl
set_option maxRecDepth 100000 in
theorem am_cwI_22 : ∀ w ∈ [am_cw 22], w ∈ am_T := am_inT [317] rfl rfl
set_option maxRecDepth 100000 in
theorem am_cwI_23 : ∀ w ∈ [am_cw 23], w ∈ am_T := am_inT [572] rfl rfl
set_option maxRecDepth 100000 in
theorem am_cwI_24 : ∀ w ∈ [am_cw 24], w ∈ am_T := am_inT [658] rfl rfl
set_option maxRecDepth 100000 in
theorem am_cwI_25 : ∀ w ∈ [am_cw 25], w ∈ am_T := am_inT [662] rfl rfl
set_option maxRecDepth 100000 in
theorem am_cwI_26 : ∀ w ∈ [am_cw 26], w ∈ am_T := am_inT [62] rfl rfl
set_option maxRecDepth 100000 in
theorem am_cwI_27 : ∀ w ∈ [am_cw 27], w ∈ am_T := am_inT [346] rfl rfl
set_option maxRecDepth 100000 in
theorem am_cwI_28 : ∀ w ∈ [am_cw 28], w ∈ am_T := am_inT [503] rfl rfl
set_option maxRecDepth 100000 in
theorem am_cwI_29 : ∀ w ∈ [am_cw 29], w ∈ am_T := am_inT [508] rfl rfl
set_option maxRecDepth 100000 in
theorem am_cwI_30 : ∀ w ∈ [am_cw 30], w ∈ am_T := am_inT [556] rfl rfl
set_option maxRecDepth 100000 in
theorem am_cwI_31 : ∀ w ∈ [am_cw 31], w ∈ am_T := am_inT [567] rfl rfl
set_option maxRecDepth 100000 in
theorem am_cwI_32 : ∀ w ∈ [am_cw 32], w ∈ am_T := am_inT [581] rfl rfl
set_option maxRecDepth 100000 in
theorem am_cwI_33 : ∀ w ∈ [am_cw 33], w ∈ am_T := am_inT [586] rfl rfl
set_option maxRecDepth 100000 in
theorem am_cwI_34 : ∀ w ∈ [am_cw 34], w ∈ am_T := am_inT [591] rfl rfl
set_option maxRecDepth 100000 in
theorem am_cwI_35 : ∀ w ∈ [am_cw 35], w ∈ am_T := am_inT [601] rfl rfl
set_option maxRecDepth 100000 in
theorem am_cwI_36 : ∀ w ∈ [am_cw 36], w ∈ am_T := am_inT [676] rfl rfl
set_option maxRecDepth 100000 in
theorem am_cwI_37 : ∀ w ∈ [am_cw 37], w ∈ am_T := am_inT [114] rfl rfl
set_option maxRecDepth 100000 in
theorem am_cwI_38 : ∀ w ∈ [am_cw 38], w ∈ am_T := am_inT [197] rfl rfl
set_option maxRecDepth 100000 in
theorem am_cwI_39 : ∀ w ∈ [am_cw 39], w ∈ am_T := am_inT [384] rfl rfl
set_option maxRecDepth 100000 in
theorem am_cwI_40 : ∀ w ∈ [am_cw 40], w ∈ am_T := am_inT [388] rfl rfl
set_option maxRecDepth 100000 in
theorem am_cwI_41 : ∀ w ∈ [am_cw 41], w ∈ am_T := am_inT [402] rfl rfl
set_option maxRecDepth 100000 in
theorem am_cwI_42 : ∀ w ∈ [am_cw 42], w ∈ am_T := am_inT [407] rfl rfl
set_option maxRecDepth 100000 in
theorem am_cwI_43 : ∀ w ∈ [am_cw 43], w ∈ am_T := am_inT [411] rfl rfl
set_option maxRecDepth 100000 in
theorem am_cwI_44 : ∀ w ∈ [am_cw 44], w ∈ am_T := am_inT [420] rfl rfl
set_option maxRecDepth 100000 in
theorem am_cwI_45 : ∀ w ∈ [am_cw 45], w ∈ am_T := am_inT [429] rfl rfl
set_option maxRecDepth 100000 in
theorem am_cwI_46 : ∀ w ∈ [am_cw 46], w ∈ am_T := am_inT [433] rfl rfl
set_option maxRecDepth 100000 in
theorem am_cwI_47 : ∀ w ∈ [am_cw 47], w ∈ am_T := am_inT [437] rfl rfl
set_option maxRecDepth 100000 in
theorem am_cwI_48 : ∀ w ∈ [am_cw 48], w ∈ am_T := am_inT [453] rfl rfl
set_option maxRecDepth 100000 in
theorem am_cwI_49 : ∀ w ∈ [am_cw 49], w ∈ am_T := am_inT [465] rfl rfl
set_option maxRecDepth 100000 in
theorem am_cwI_50 : ∀ w ∈ [am_cw 50], w ∈ am_T := am_inT [477] rfl rfl
set_option maxRecDepth 100000 in
theorem am_cwI_51 : ∀ w ∈ [am_cw 51], w ∈ am_T := am_inT [482] rfl rfl
set_option maxRecDepth 100000 in
theorem am_cwI_52 : ∀ w ∈ [am_cw 52], w ∈ am_T := am_inT [492] rfl rfl
set_option maxRecDepth 100000 in
theorem am_cwI_53 : ∀ w ∈ [am_cw 53], w ∈ am_T := am_inT [540] rfl rfl
set_option maxRecDepth 100000 in
theorem am_cwI_54 : ∀ w ∈ [am_cw 54], w ∈ am_T := am_inT [650] rfl rfl
set_option maxRecDepth 100000 in
theorem am_cwI_55 : ∀ w ∈ [am_cw 55], w ∈ am_T := am_inT [688] rfl rfl
set_option maxRecDepth 100000 in
theorem am_cwI_56 : ∀ w ∈ [am_cw 56], w ∈ am_T := am_inT [108] rfl rfl
set_option maxRecDepth 100000 in
theorem am_cwI_57 : ∀ w ∈ [am_cw 57], w ∈ am_T := am_inT [189] rfl rfl
set_option maxRecDepth 100000 in
theorem am_cwI_58 : ∀ w ∈ [am_cw 58], w ∈ am_T := am_inT [193] rfl rfl
set_option maxRecDepth 100000 in
theorem am_cwI_59 : ∀ w ∈ [am_cw 59], w ∈ am_T := am_inT [357] rfl rfl
set_option maxRecDepth 100000 in
theorem am_cwI_60 : ∀ w ∈ [am_cw 60], w ∈ am_T := am_inT [361] rfl rfl
set_option maxRecDepth 100000 in
theorem am_cwI_61 : ∀ w ∈ [am_cw 61], w ∈ am_T := am_inT [370] rfl rfl
set_option maxRecDepth 100000 in
theorem am_cwI_62 : ∀ w ∈ [am_cw 62], w ∈ am_T := am_inT [374] rfl rfl
set_option maxRecDepth 100000 in
theorem am_cwI_63 : ∀ w ∈ [am_cw 63], w ∈ am_T := am_inT [378] rfl rfl
set_option maxRecDepth 100000 in
theorem am_cwI_64 : ∀ w ∈ [am_cw 64], w ∈ am_T := am_inT [425] rfl rfl
set_option maxRecDepth 100000 in
theorem am_cwI_65 : ∀ w ∈ [am_cw 65], w ∈ am_T := am_inT [441] rfl rfl
set_option maxRecDepth 100000 in
theorem am_cwI_66 : ∀ w ∈ [am_cw 66], w ∈ am_T := am_inT [445] rfl rfl
set_option maxRecDepth 100000 in
theorem am_cwI_67 : ∀ w ∈ [am_cw 67], w ∈ am_T := am_inT [487] rfl rfl
set_option maxRecDepth 100000 in
theorem am_cwI_68 : ∀ w ∈ [am_cw 68], w ∈ am_T := am_inT [525] rfl rfl
set_option maxRecDepth 100000 in
theorem am_cwI_69 : ∀ w ∈ [am_cw 69], w ∈ am_T := am_inT [536] rfl rfl
set_option maxRecDepth 100000 in
theorem am_cwI_70 : ∀ w ∈ [am_cw 70], w ∈ am_T := am_inT [551] rfl rfl
set_option maxRecDepth 100000 in
theorem am_cwI_71 : ∀ w ∈ [am_cw 71], w ∈ am_T := am_inT [701] rfl rfl
set_option maxRecDepth 100000 in
theorem am_cwI_72 : ∀ w ∈ [am_cw 72], w ∈ am_T := am_inT [712] rfl rfl
set_option maxRecDepth 100000 in
theorem am_cwI_73 : ∀ w ∈ [am_cw 73], w ∈ am_T := am_inT [716] rfl rfl
set_option maxRecDepth 100000 in
theorem am_cwI_74 : ∀ w ∈ [am_cw 74], w ∈ am_T := am_inT [720] rfl rfl
set_option maxRecDepth 100000 in
theorem am_cwI_75 : ∀ w ∈ [am_cw 75], w ∈ am_T := am_inT [54] rfl rfl
set_option maxRecDepth 100000 in
theorem am_cwI_76 : ∀ w ∈ [am_cw 76], w ∈ am_T := am_inT [185] rfl rfl
set_option maxRecDepth 100000 in
theorem am_cwI_77 : ∀ w ∈ [am_cw 77], w ∈ am_T := am_inT [221] rfl rfl
set_option maxRecDepth 100000 in
theorem am_cwI_78 : ∀ w ∈ [am_cw 78], w ∈ am_T := am_inT [305] rfl rfl
set_option maxRecDepth 100000 in
theorem am_cwI_79 : ∀ w ∈ [am_cw 79], w ∈ am_T := am_inT [309] rfl rfl
set_option maxRecDepth 100000 in
theorem am_cwI_80 : ∀ w ∈ [am_cw 80], w ∈ am_T := am_inT [313] rfl rfl
set_option maxRecDepth 100000 in
theorem am_cwI_81 : ∀ w ∈ [am_cw 81], w ∈ am_T := am_inT [342] rfl rfl
set_option maxRecDepth 100000 in
theorem am_cwI_82 : ∀ w ∈ [am_cw 82], w ∈ am_T := am_inT [521] rfl rfl
set_option maxRecDepth 100000 in
theorem am_cwI_83 : ∀ w ∈ [am_cw 83], w ∈ am_T := am_inT [532] rfl rfl
set_option maxRecDepth 100000 in
theorem am_cwI_84 : ∀ w ∈ [am_cw 84], w ∈ am_T := am_inT [547] rfl rfl
set_option maxRecDepth 100000 in
theorem am_cwI_85 : ∀ w ∈ [am_cw 85], w ∈ am_T := am_inT [563] rfl rfl
set_option maxRecDepth 100000 in
theorem am_cwI_86 : ∀ w ∈ [am_cw 86], w ∈ am_T := am_inT [577] rfl rfl
set_option maxRecDepth 100000 in
theorem am_cwI_87 : ∀ w ∈ [am_cw 87], w ∈ am_T := am_inT [634] rfl rfl
set_option maxRecDepth 100000 in
theorem am_cwI_88 : ∀ w ∈ [am_cw 88], w ∈ am_T := am_inT [638] rfl rfl
set_option maxRecDepth 100000 in
theorem am_cwI_89 : ∀ w ∈ [am_cw 89], w ∈ am_T := am_inT [645] rfl rfl
set_option maxRecDepth 100000 in
theorem am_cwI_90 : ∀ w ∈ [am_cw 90], w ∈ am_T := am_inT [671] rfl rfl
set_option maxRecDepth 100000 in
theorem am_cwI_91 : ∀ w ∈ [am_cw 91], w ∈ am_T := am_inT [684] rfl rfl
set_option maxRecDepth 100000 in
theorem am_cwI_92 : ∀ w ∈ [am_cw 92], w ∈ am_T := am_inT [695] rfl rfl
set_option maxRecDepth 100000 in
theorem am_cwI_93 : ∀ w ∈ [am_cw 93], w ∈ am_T := am_inT [708] rfl rfl
set_option maxRecDepth 100000 in
theorem am_cwI_94 : ∀ w ∈ [am_cw 94], w ∈ am_T := am_inT [726] rfl rfl
set_option maxRecDepth 100000 in
theorem am_cwI_95 : ∀ w ∈ [am_cw 95], w ∈ am_T := am_inT [731] rfl rfl
set_option maxRecDepth 100000 in
theorem am_cwI_96 : ∀ w ∈ [am_cw 96], w ∈ am_T := am_inT [797] rfl rfl
set_option maxRecDepth 100000 in
theorem am_cwI_97 : ∀ w ∈ [am_cw 97], w ∈ am_T := am_inT [801] rfl rfl
set_option maxRecDepth 100000 in
theorem am_cwI_98 : ∀ w ∈ [am_cw 98], w ∈ am_T := am_inT [804] rfl rfl
set_option maxRecDepth 100000 in
theorem am_cwI_99 : ∀ w ∈ [am_cw 99], w ∈ am_T := am_inT [808] rfl rfl
set_option maxRecDepth 100000 in
theorem am_cwI_100 : ∀ w ∈ [am_cw 100], w ∈ am_T := am_inT [812] rfl rfl
set_option maxRecDepth 100000 in
theorem am_cwI_101 : ∀ w ∈ [am_cw 101], w ∈ am_T := am_inT [816] rfl rfl
set_option maxRecDepth 100000 in
theorem am_cwI_102 : ∀ w ∈ [am_cw 102], w ∈ am_T := am_inT [820] rfl rfl
set_option maxRecDepth 100000 in
theorem am_cwI_103 : ∀ w ∈ [am_cw 103], w ∈ am_T := am_inT [824] rfl rfl
set_option maxRecDepth 100000 in
theorem am_cwI_104 : ∀ w ∈ [am_cw 104], w ∈ am_T := am_inT [828] rfl rfl
set_option maxRecDepth 100000 in
theorem am_cwI_105 : ∀ w ∈ [am_cw 105], w ∈ am_T := am_inT [831] rfl rfl
set_option maxRecDepth 100000 in
theorem am_cwI_106 : ∀ w ∈ [am_cw 106], w ∈ am_T := am_inT [836] rfl rfl
set_option maxRecDepth 100000 in
theorem am_cwI_107 : ∀ w ∈ [am_cw 107], w ∈ am_T := am_inT [840] rfl rfl
set_option maxRecDepth 100000 in
theorem am_cwI_108 : ∀ w ∈ [am_cw 108], w ∈ am_T := am_inT [844] rfl rfl
set_option maxRecDepth 100000 in
theorem am_cwI_109 : ∀ w ∈ [am_cw 109], w ∈ am_T := am_inT [848] rfl rfl
set_option maxRecDepth 100000 in
theorem am_cwI_110 : ∀ w ∈ [am_cw 110], w ∈ am_T := am_inT [852] rfl rfl
set_option maxRecDepth 100000 in
theorem am_cwI_111 : ∀ w ∈ [am_cw 111], w ∈ am_T := am_inT [856] rfl rfl
set_option maxRecDepth 100000 in
theorem am_cwI_112 : ∀ w ∈ [am_cw 112], w ∈ am_T := am_inT [860] rfl rfl
set_option maxRecDepth 100000 in
theorem am_cwI_113 : ∀ w ∈ [am_cw 113], w ∈ am_T := am_inT [864] rfl rfl
set_option maxRecDepth 100000 in
theorem am_cwI_114 : ∀ w ∈ [am_cw 114], w ∈ am_T := am_inT [868] rfl rfl
set_option maxRecDepth 100000 in
theorem am_cwI_115 : ∀ w ∈ [am_cw 115], w ∈ am_T := am_inT [872] rfl rfl
set_option maxRecDepth 100000 in
theorem am_cwI_116 : ∀ w ∈ [am_cw 116], w ∈ am_T := am_inT [876] rfl rfl
set_option maxRecDepth 100000 in
theorem am_cwI_117 : ∀ w ∈ [am_cw 117], w ∈ am_T := am_inT [880] rfl rfl
set_option maxRecDepth 100000 in
theorem am_cwI_118 : ∀ w ∈ [am_cw 118], w ∈ am_T := am_inT [884] rfl rfl
set_option maxRecDepth 100000 in
theorem am_cwI_119 : ∀ w ∈ [am_cw 119], w ∈ am_T := am_inT [888] rfl rfl
set_option maxRecDepth 100000 in
theorem am_cwI_120 : ∀ w ∈ [am_cw 120], w ∈ am_T := am_inT [892] rfl rfl
set_option maxRecDepth 100000 in
theorem am_cwI_121 : ∀ w ∈ [am_cw 121], w ∈ am_T := am_inT [896] rfl rfl
set_option maxRecDepth 100000 in
theorem am_cwI_122 : ∀ w ∈ [am_cw 122], w ∈ am_T := am_inT [472] rfl rfl
set_option maxRecDepth 100000 in
theorem am_cwI_123 : ∀ w ∈ [am_cw 123], w ∈ am_T := am_inT [213] rfl rfl
set_option maxRecDepth 100000 in
theorem am_cwI_124 : ∀ w ∈ [am_cw 124], w ∈ am_T := am_inT [216] rfl rfl
set_option maxRecDepth 100000 in
theorem am_cwI_125 : ∀ w ∈ [am_cw 125], w ∈ am_T := am_inT [300] rfl rfl
set_option maxRecDepth 100000 in
theorem am_cwI_126 : ∀ w ∈ [am_cw 126], w ∈ am_T := am_inT [517] rfl rfl
set_option maxRecDepth 100000 in
theorem am_cwI_127 : ∀ w ∈ [am_cw 127], w ∈ am_T := am_inT [528] rfl rfl
set_option maxRecDepth 100000 in
theorem am_cwI_128 : ∀ w ∈ [am_cw 128], w ∈ am_T := am_inT [543] rfl rfl
set_option maxRecDepth 100000 in
theorem am_cwI_129 : ∀ w ∈ [am_cw 129], w ∈ am_T := am_inT [559] rfl rfl
set_option maxRecDepth 100000 in
theorem am_cwI_130 : ∀ w ∈ [am_cw 130], w ∈ am_T := am_inT [606] rfl rfl
set_option maxRecDepth 100000 in
theorem am_cwI_131 : ∀ w ∈ [am_cw 131], w ∈ am_T := am_inT [667] rfl rfl
set_option maxRecDepth 100000 in
theorem am_cwI_132 : ∀ w ∈ [am_cw 132], w ∈ am_T := am_inT [680] rfl rfl
set_option maxRecDepth 100000 in
theorem am_cwI_133 : ∀ w ∈ [am_cw 133], w ∈ am_T := am_inT [691] rfl rfl
set_option maxRecDepth 100000 in
theorem am_cwI_134 : ∀ w ∈ [am_cw 134], w ∈ am_T := am_inT [704] rfl rfl
theorem am_cw_in : ∀ M, M < 135 → am_cw M ∈ am_T := fun M h => match M, h with
  | 0, _ => am_cwI_0 _ List.mem_cons_self
  | 1, _ => am_cwI_1 _ List.mem_cons_self
  | 2, _ => am_cwI_2 _ List.mem_cons_self
  | 3, _ => am_cwI_3 _ List.mem_cons_self
  | 4, _ => am_cwI_4 _ List.mem_cons_self
  | 5, _ => am_cwI_5 _ List.mem_cons_self
  | 6, _ => am_cwI_6 _ List.mem_cons_self
  | 7, _ => am_cwI_7 _ List.mem_cons_self
  | 8, _ => am_cwI_8 _ List.mem_cons_self
  | 9, _ => am_cwI_9 _ List.mem_cons_self
  | 10, _ => am_cwI_10 _ List.mem_cons_self
  | 11, _ => am_cwI_11 _ List.mem_cons_self
  | 12, _ => am_cwI_12 _ List.mem_cons_self
  | 13, _ => am_cwI_13 _ List.mem_cons_self
  | 14, _ => am_cwI_14 _ List.mem_cons_self
  | 15, _ => am_cwI_15 _ List.mem_cons_self
  | 16, _ => am_cwI_16 _ List.mem_cons_self
  | 17, _ => am_cwI_17 _ List.mem_cons_self
  | 18, _ => am_cwI_18 _ List.mem_cons_self
  | 19, _ => am_cwI_19 _ List.mem_cons_self
  | 20, _ => am_cwI_20 _ List.mem_cons_self
  | 21, _ => am_cwI_21 _ List.mem_cons_self
  | 22, _ => am_cwI_22 _ List.mem_cons_self
  | 23, _ => am_cwI_23 _ List.mem_cons_self
  | 24, _ => am_cwI_24 _ List.mem_cons_self
  | 25, _ => am_cwI_25 _ List.mem_cons_self
  | 26, _ => am_cwI_26 _ List.mem_cons_self
  | 27, _ => am_cwI_27 _ List.mem_cons_self
  | 28, _ => am_cwI_28 _ List.mem_cons_self
  | 29, _ => am_cwI_29 _ List.mem_cons_self
  | 30, _ => am_cwI_30 _ List.mem_cons_self
  | 31, _ => am_cwI_31 _ List.mem_cons_self
  | 32, _ => am_cwI_32 _ List.mem_cons_self
  | 33, _ => am_cwI_33 _ List.mem_cons_self
  | 34, _ => am_cwI_34 _ List.mem_cons_self
  | 35, _ => am_cwI_35 _ List.mem_cons_self
  | 36, _ => am_cwI_36 _ List.mem_cons_self
  | 37, _ => am_cwI_37 _ List.mem_cons_self
  | 38, _ => am_cwI_38 _ List.mem_cons_self
  | 39, _ => am_cwI_39 _ List.mem_cons_self
  | 40, _ => am_cwI_40 _ List.mem_cons_self
  | 41, _ => am_cwI_41 _ List.mem_cons_self
  | 42, _ => am_cwI_42 _ List.mem_cons_self
  | 43, _ => am_cwI_43 _ List.mem_cons_self
  | 44, _ => am_cwI_44 _ List.mem_cons_self
  | 45, _ => am_cwI_45 _ List.mem_cons_self
  | 46, _ => am_cwI_46 _ List.mem_cons_self
  | 47, _ => am_cwI_47 _ List.mem_cons_self
  | 48, _ => am_cwI_48 _ List.mem_cons_self
  | 49, _ => am_cwI_49 _ List.mem_cons_self
  | 50, _ => am_cwI_50 _ List.mem_cons_self
  | 51, _ => am_cwI_51 _ List.mem_cons_self
  | 52, _ => am_cwI_52 _ List.mem_cons_self
  | 53, _ => am_cwI_53 _ List.mem_cons_self
  | 54, _ => am_cwI_54 _ List.mem_cons_self
  | 55, _ => am_cwI_55 _ List.mem_cons_self
  | 56, _ => am_cwI_56 _ List.mem_cons_self
  | 57, _ => am_cwI_57 _ List.mem_cons_self
  | 58, _ => am_cwI_58 _ List.mem_cons_self
  | 59, _ => am_cwI_59 _ List.mem_cons_self
  | 60, _ => am_cwI_60 _ List.mem_cons_self
  | 61, _ => am_cwI_61 _ List.mem_cons_self
  | 62, _ => am_cwI_62 _ List.mem_cons_self
  | 63, _ => am_cwI_63 _ List.mem_cons_self
  | 64, _ => am_cwI_64 _ List.mem_cons_self
  | 65, _ => am_cwI_65 _ List.mem_cons_self
  | 66, _ => am_cwI_66 _ List.mem_cons_self
  | 67, _ => am_cwI_67 _ List.mem_cons_self
  | 68, _ => am_cwI_68 _ List.mem_cons_self
  | 69, _ => am_cwI_69 _ List.mem_cons_self
  | 70, _ => am_cwI_70 _ List.mem_cons_self
  | 71, _ => am_cwI_71 _ List.mem_cons_self
  | 72, _ => am_cwI_72 _ List.mem_cons_self
  | 73, _ => am_cwI_73 _ List.mem_cons_self
  | 74, _ => am_cwI_74 _ List.mem_cons_self
  | 75, _ => am_cwI_75 _ List.mem_cons_self
  | 76, _ => am_cwI_76 _ List.mem_cons_self
  | 77, _ => am_cwI_77 _ List.mem_cons_self
  | 78, _ => am_cwI_78 _ List.mem_cons_self
  | 79, _ => am_cwI_79 _ List.mem_cons_self
  | 80, _ => am_cwI_80 _ List.mem_cons_self
  | 81, _ => am_cwI_81 _ List.mem_cons_self
  | 82, _ => am_cwI_82 _ List.mem_cons_self
  | 83, _ => am_cwI_83 _ List.mem_cons_self
  | 84, _ => am_cwI_84 _ List.mem_cons_self
  | 85, _ => am_cwI_85 _ List.mem_cons_self
  | 86, _ => am_cwI_86 _ List.mem_cons_self
  | 87, _ => am_cwI_87 _ List.mem_cons_self
  | 88, _ => am_cwI_88 _ List.mem_cons_self
  | 89, _ => am_cwI_89 _ List.mem_cons_self
  | 90, _ => am_cwI_90 _ List.mem_cons_self
  | 91, _ => am_cwI_91 _ List.mem_cons_self
  | 92, _ => am_cwI_92 _ List.mem_cons_self
  | 93, _ => am_cwI_93 _ List.mem_cons_self
  | 94, _ => am_cwI_94 _ List.mem_cons_self
  | 95, _ => am_cwI_95 _ List.mem_cons_self
  | 96, _ => am_cwI_96 _ List.mem_cons_self
  | 97, _ => am_cwI_97 _ List.mem_cons_self
  | 98, _ => am_cwI_98 _ List.mem_cons_self
  | 99, _ => am_cwI_99 _ List.mem_cons_self
  | 100, _ => am_cwI_100 _ List.mem_cons_self
  | 101, _ => am_cwI_101 _ List.mem_cons_self
  | 102, _ => am_cwI_102 _ List.mem_cons_self
  | 103, _ => am_cwI_103 _ List.mem_cons_self
  | 104, _ => am_cwI_104 _ List.mem_cons_self
  | 105, _ => am_cwI_105 _ List.mem_cons_self
  | 106, _ => am_cwI_106 _ List.mem_cons_self
  | 107, _ => am_cwI_107 _ List.mem_cons_self
  | 108, _ => am_cwI_108 _ List.mem_cons_self
  | 109, _ => am_cwI_109 _ List.mem_cons_self
  | 110, _ => am_cwI_110 _ List.mem_cons_self
  | 111, _ => am_cwI_111 _ List.mem_cons_self
  | 112, _ => am_cwI_112 _ List.mem_cons_self
  | 113, _ => am_cwI_113 _ List.mem_cons_self
  | 114, _ => am_cwI_114 _ List.mem_cons_self
  | 115, _ => am_cwI_115 _ List.mem_cons_self
  | 116, _ => am_cwI_116 _ List.mem_cons_self
  | 117, _ => am_cwI_117 _ List.mem_cons_self
  | 118, _ => am_cwI_118 _ List.mem_cons_self
  | 119, _ => am_cwI_119 _ List.mem_cons_self
  | 120, _ => am_cwI_120 _ List.mem_cons_self
  | 121, _ => am_cwI_121 _ List.mem_cons_self
  | 122, _ => am_cwI_122 _ List.mem_cons_self
  | 123, _ => am_cwI_123 _ List.mem_cons_self
  | 124, _ => am_cwI_124 _ List.mem_cons_self
  | 125, _ => am_cwI_125 _ List.mem_cons_self
  | 126, _ => am_cwI_126 _ List.mem_cons_self
  | 127, _ => am_cwI_127 _ List.mem_cons_self
  | 128, _ => am_cwI_128 _ List.mem_cons_self
  | 129, _ => am_cwI_129 _ List.mem_cons_self
  | 130, _ => am_cwI_130 _ List.mem_cons_self
  | 131, _ => am_cwI_131 _ List.mem_cons_self
  | 132, _ => am_cwI_132 _ List.mem_cons_self
  | 133, _ => am_cwI_133 _ List.mem_cons_self
  | 134, _ => am_cwI_134 _ List.mem_cons_self
  | n + 135, h => absurd h (by omega)
def am_cG (q : (Nat × Nat) × (Nat × Nat × Nat)) : Bool := match q.2.1 with
  | 0 => decide (q.2.2.1 < 135) && (am_hh q.2.2.1).isEmpty && decide (am_own q.2.2.1 < 8) && decide ((am_y q.2.2.1).cls = am_CN (am_own q.2.2.1)) && decide ((parseMethodDescriptor (am_y q.2.2.1).desc).map (fun d => d.parameters.length) = some q.2.2.2)
  | 1 => decide (q.2.2.1 < 135) && (am_hh q.2.2.1).isEmpty && decide ((parseMethodDescriptor (am_y q.2.2.1).desc).map (fun d => d.parameters.length) = some q.2.2.2)
  | 2 => decide (q.2.2.1 < 135) && !(am_hh q.2.2.1).isEmpty && decide ((parseMethodDescriptor (am_y q.2.2.1).desc).map (fun d => d.parameters.length) = some q.2.2.2)
  | 3 => decide (q.2.2.1 < 135) && (am_hh q.2.2.1).isEmpty && decide ((am_y q.2.2.1).name = "<init>") && decide (am_ret q.2.2.1 = none) && decide ((parseMethodDescriptor (am_y q.2.2.1).desc).map (fun d => d.parameters.length) = some q.2.2.2)
  | 4 => decide (q.2.2.1 < 135) && (am_hh q.2.2.1).isEmpty && decide ((am_y q.2.2.1).name = "<init>") && decide (am_ret q.2.2.1 = none) && decide ((am_on q.1.1, q.1.2, am_y q.2.2.1) ∈ am_nw) && decide ((parseMethodDescriptor (am_y q.2.2.1).desc).map (fun d => d.parameters.length) = some q.2.2.2)
  | _ => true
theorem am_cT_ok : ∀ q ∈ am_cT, am_cG q = true := by decide +kernel
theorem am_yG : ∀ M, M < 136 → (am_y M).cls ≠ "java/lang/invoke/MethodHandle" ∧ (am_y M).cls ≠ "java/lang/invoke/VarHandle" ∧ am_nL M ≤ 20 := by decide +kernel
theorem am_yO : ∀ M, M < 136 → (am_y M).cls = am_on (am_own M) := by decide +kernel
theorem am_yP : ∀ M, M < 136 → _root_.Jvm.plainName (am_y M).cls = true := by decide +kernel
theorem am_xT_ok : ∀ q ∈ am_xT, Cond.classLink (am_on q.1.1) q.1.2 (am_en q.2) ∈ am_T ∧ q.2 < 3 ∧ q.1.2 ≠ 0 := by decide +kernel
def am_nms (E : Nat) : List String := match E with
  | 2 => ["java/lang/IndexOutOfBoundsException", "java/lang/RuntimeException", "java/lang/Exception"]
  | _ => ["java/lang/RuntimeException", "java/lang/Exception"]
theorem am_iT_own : ∀ q ∈ am_iT, q.1.1 = 6 ∧ q.2 < 3 := by decide +kernel
theorem am_iT_at : ∀ q ∈ am_iT, ∀ w ∈ vx_atS (am_on q.1.1) q.1.2 (am_en q.2) (am_nms q.2), w ∈ am_T ∨ w ∈ am_bw ∨ w ∈ am_dw.map Cond.declares := by decide +kernel
theorem am_iT_good : ∀ q ∈ am_iT, ∀ w ∈ vx_atS (am_on q.1.1) q.1.2 (am_en q.2) (am_nms q.2), vx_ot w = true := by decide +kernel
theorem am_sT_ok : ∀ q ∈ am_sT, q.1 = 6 ∧ ∃ t, (q.2, t) ∈ am_sR := by
  intro q hq
  have h : ∀ q ∈ am_sT, q.1 = 6 ∧ q.2 ∈ am_sR.map Prod.fst := by decide +kernel
  refine ⟨(h q hq).1, ?_⟩
  obtain ⟨x, hx, he⟩ := List.mem_map.mp (h q hq).2
  exact ⟨x.2, by rw [← he]; exact hx⟩
theorem am_en_ok : ∀ E, E < 3 → Bundle.fit (am_en E) = true ∧ (∀ n ∈ am_nms E, Bundle.fit n = true) ∧ Cond.initialized (am_en E) ∈ am_T ∧ am_en E ∈ am_ens ∧ (am_nms E).length ≤ 3 ∧ Cond.castable (am_en E) (am_en E) ∈ am_bw := by decide +kernel
theorem am_en_ne : ∀ E, E < 3 → ∀ F, F < 3 → E ≠ F → am_en E ≠ am_en F := by decide +kernel
