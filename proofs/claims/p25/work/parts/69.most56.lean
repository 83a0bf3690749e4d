def Lmo_115 : List (Nat × List Int) := [(27, [100000, 12, 24, 0, 12, 0, 0, 0, 0, 100, 0, 0, 0, 0, 6, 0, 0, 0, 40, 0, 0, 0, 0, 0, 0, 0, 0, 6, 0, 0, 40, 0, 0, 0, 0, 0, 0, 0, 0, 0, 0, 0]), (28, [0, 38, 75, 122, 168, 213, 257, 300, 342, 383, 423, 462, 38, 0, 37, 84, 130, 175, 219, 262, 304, 345, 385, 424, 75, 37, 0, 47, 93, 138, 182, 225, 267, 308, 348, 387, 122, 84, 47, 0, 46, 91, 135, 178, 220, 261, 301, 340, 168, 130, 93, 46, 0, 45, 89, 132, 174, 215, 255, 294, 213, 175, 138, 91, 45, 0, 44, 87, 129, 170, 210, 249, 257, 219, 182, 135, 89, 44, 0, 43, 85, 126, 166, 205, 300, 262, 225, 178, 132, 87, 43, 0, 42, 83, 123, 162, 342, 304, 267, 220, 174, 129, 85, 42, 0, 41, 81, 120, 383, 345, 308, 261, 215, 170, 126, 83, 41, 0, 40, 79, 423, 385, 348, 301, 255, 210, 166, 123, 81, 40, 0, 39, 462, 424, 387, 340, 294, 249, 205, 162, 120, 79, 39, 0]), (29, [0, 0, 0, 0, 0, 0, 0, 0, 0, 0, 0, 4]), (30, [0, 0, 0, 0, 0, 0, 0, 0, 0, 0, 0, 0, 0, 0, 0, 0, 0, 0, 0, 0, 0, 0, 0, 0, 0, 0, 0, 0, 0, 0, 0, 0, 0, 0, 0, 0, 0, 0, 0, 0, 0, 0, 0, 0, 1, 250, 499, 748]), (31, [0, 0, 0, 0, 0, 0, 0, 0, 0, 0, 0, 0, 0, 0, 0, 0, 0, 0, 0, 0, 0, 0, 0, 0, 0, 0, 0, 0, 0, 0, 0, 0, 0, 0, 0, 0, 0, 0, 0, 0, 0, 0, 0, 0, 249, 498, 747, 996]), (32, [0, 0, 0, 0, 0, 0, 0, 0, 0, 0, 0, 0, 0, 0, 0, 0, 0, 0, 0, 0, 0, 0, 0, 0, 0, 0, 0, 0, 0, 0, 0, 0, 0, 0, 0, 0, 0, 0, 0, 0, 0, 0, 0, 0, 11, 11, 11, 11]), (33, [11, 11, 11, 11, 11, 11, 11, 11, 11, 11, 11, 11, 11, 11, 11, 11, 11, 11, 11, 11, 11, 11, 11, 11, 11, 11, 11, 11, 11, 11, 11, 11, 11, 11, 11, 11, 11, 11, 11, 11, 11, 11, 11, 11, 11, 11, 11, 11, 11, 11, 11, 11, 11, 11, 11, 11, 11, 11, 11, 11, 11, 11, 11, 11, 11, 11, 11, 11, 11, 11, 11, 11, 11, 11, 11, 11, 11, 11, 11, 11, 11, 11, 11, 11, 11, 11, 11, 11, 11, 11, 11, 11, 11, 11, 11, 11, 11, 11, 11, 11]), (34, [0, 1, 0, 1, 0, 1, 0, 1, 0, 1, 0, 1, 0, 1, 0, 1, 0, 1, 0, 1, 0, 1, 0, 1, 0, 1, 0, 1, 0, 1, 0, 1, 0, 1, 0, 1, 0, 1, 0, 1, 0, 1, 0, 1, 0, 1, 0, 1, 0, 1, 0, 1, 0, 1, 0, 1, 0, 1, 0, 1, 0, 1, 0, 1, 0, 1, 0, 1, 0, 1, 0, 1, 0, 1, 0, 1, 0, 1, 0, 1, 0, 1, 0, 1, 0, 1, 0, 1, 0, 1, 0, 1, 0, 1, 0, 1, 0, 1, 0, 1]), (35, [0, 0, 0, 0, 0, 0, 0, 0, 0, 0, 0, 0, 0, 0, 0, 0, 0, 0, 0, 0, 0, 0, 0, 0, 0, 0, 0, 0, 0, 0, 0, 0, 0, 0, 0, 0, 0, 0, 0, 0, 0, 0, 0, 0, 0, 0, 0, 0, 0, 0, 0, 0, 0, 0, 0, 0, 0, 0, 0, 0, 0, 0, 0, 0, 0, 0, 0, 0, 0, 0, 0, 0, 0, 0, 0, 0, 0, 0, 0, 0, 0, 0, 0, 0, 0, 0, 0, 0, 0, 0, 0, 0, 0, 0, 0, 0, 0, 0, 0, (-1)]), (36, [0, 1, 2, 3, 4, 5, 6, 7, 8, 9, 10, 11, 12, 13, 14, 15, 16, 17, 18, 19, 20, 21, 22, 23, 24, 25, 26, 27, 28, 29]), (37, [11, 11, 11, 11, 11, 11]), (38, [535, 536, 526, 535, 535, 525]), (39, [(-1), (-1), (-1), (-1), (-1), (-1)]), (40, [0, 1, 0, 1, 0, 1, 0, 1, 0, 1, 0, 1, 0, 1, 0, 1, 0, 1, 0, 1, 0, 1, 0, 1, 0, 1, 0, 1, 0, 1, 0, 1, 0, 1, 0, 1, 0, 1, 0, 1]), (41, [1, 2, 3, 4, 5, 6, 7, 8, 9, 10, 11, 12, 13, 14, 15, 16, 17, 18, 19, 20, 21, 22, 23, 24, 25, 26, 27, 28, 29, 30, 31, 32, 33, 34, 35, 36, 37, 38, 39, 40]), (42, [2, 2, 2, 2, 2, 2, 2, 2, 2, 2, 2, 2, 2, 2, 2, 2, 2, 2, 2, 2, 2, 2, 2, 2, 2, 2, 2, 2, 2, 2, 2, 2, 2, 2, 2, 2, 2, 2, 2, 2]), (43, [11, 11, 11, 11, 11, 11, 11, 11, 11, 11, 11, 11, 11, 11, 11, 11, 11, 11, 11, 11, 11, 11, 11, 11, 11, 11, 11, 11, 11, 11, 11, 11, 11, 11, 11, 11, 11, 11, 11, 11]), (44, [11, 11, 11, 11, 11, 11, 11, 11, 11, 11, 11, 11, 11, 11, 11, 11, 11, 11, 11, 11, 11, 11, 11, 11, 11, 11, 11, 11, 11, 11, 11, 11, 11, 11, 11, 11, 11, 11, 11, 11]), (45, [0, 1, 2, 3, 4, 5, 1, 3, 5, 0, 2, 4, 3, 0, 1, 4, 5, 2, 0, 3, 4, 1, 2, 5, 3, 0, 1, 4, 5, 2, 0, 3, 4, 1, 2, 5, 3, 0, 1, 4]), (46, [463, 462, 463, 462, 463, 462, 473, 472, 473, 473, 474, 473, 483, 483, 484, 483, 484, 484, 494, 493, 494, 494, 495, 494, 504, 504, 505, 504, 505, 505, 515, 514, 515, 515, 516, 515, 525, 525, 526, 525]), (47, [1, 0, 1, 0, 1, 0, 1, 0, 1, 0, 1, 0, 1, 0, 1, 0, 1, 0, 1, 0, 1, 0, 1, 0, 1, 0, 1, 0, 1, 0, 1, 0, 1, 0, 1, 0, 1, 0, 1, 0]), (48, [11, 11, 11, 11, 11, 11]), (49, [0, 0, 9, 0, 0, 9, 0, 0, 9, 0, 0, 9, 0, 0, 9, 0, 0, 9]), (50, [1, 1, 1, 1, 1, 1, 1, 1, 1, 1, 1, 1, 1, 1, 1, 1, 1, 1, 1, 1, 1, 1, 1, 1, 1, 1, 1, 1, 1, 1, 1, 1, 1, 1, 1, 1, 1, 1, 1, 1]), (51, [1, 1, 1, 1, 1, 1, 1, 1, 1, 1, 1, 1, 1, 1, 1, 1, 1, 1, 1, 1, 1, 1, 1, 1, 1, 1, 1, 1, 1, 1, 1, 1, 1, 1, 1, 1, 1, 1, 1, 1]), (52, [2, 2, 2, 2, 2, 2, 2, 2, 2, 2, 2, 2, 2, 2, 2, 2, 2, 2, 2, 2, 2, 2, 2, 2, 2, 2, 2, 2, 2, 2, 2, 2, 2, 2, 2, 2, 2, 2, 2, 2]), (53, [3, 3, 3, 3, 3, 3, 3, 3, 3, 3, 3, 3, 3, 3, 3, 3, 3, 3, 3, 3, 3, 3, 3, 3, 3, 3, 3, 3, 3, 3, 3, 3, 3, 3, 3, 3, 3, 3, 3, 3]), (54, [11, 11, 11, 11, 11, 11, 11, 11, 11, 11, 11, 11, 11, 11, 11, 11, 11, 11, 11, 11, 11, 11, 11, 11, 11, 11, 11, 11, 11, 11, 11, 11, 11, 11, 11, 11, 11, 11, 11, 11]), (55, [0, 0, 0, 0, 0, 0, 0, 0, 0, 1, 1, 1, 1, 1, 1, 1, 1, 1, 2, 2, 2, 2, 2, 2, 2, 2, 2, 3, 3, 3, 3, 3, 3, 3, 3, 3, 4, 4, 4, 4]), (56, [2, 2, 2, 2, 2, 2, 2, 2, 2, 2, 2, 2, 2, 2, 2, 2, 2, 2, 2, 2, 2, 2, 2, 2, 2, 2, 2, 2, 2, 2, 2, 2, 2, 2, 2, 2, 2, 2, 2, 2]), (57, [1440, 1440, 1440, 1440, 1440, 1440, 1440, 1440, 1440, 1440, 1440, 1440, 1440, 1440, 1440, 1440, 1440, 1440, 1440, 1440, 1440, 1440, 1440, 1440, 1440, 1440, 1440, 1440, 1440, 1440, 1440, 1440, 1440, 1440, 1440, 1440, 1440, 1440, 1440, 1440]), (58, [0, 0, 0, 0, 0, 0, 0, 0, 0, 0, 0, 0, 0, 0, 0, 0, 0, 0, 0, 0, 0, 0, 0, 0, 0, 0, 0, 0, 0, 0, 0, 0, 0, 0, 0, 0, 0, 0, 0, 0])]
def Smo_115 : IT := pat (aft 9 (172, 634, [some (vr 0 0), some (vi 462), some (vi 34)], [], [], Smo_114b, 316)) Lmo_115
theorem cmo_115 : ckl 9 (172, 634, [some (vr 0 0), some (vi 462), some (vi 34)], [], [], Smo_114b, 316) 172 649 [some (vr 0 0), some (vi 462), some (vi 34)] [] [] 317 Lmo_115 = true := by decide +kernel
set_option maxRecDepth 16384 in
theorem sg_most {J : IT} {gs : List fr} {c0 z0 : Nat} {out : oP} (h : Ln J 172 649 [some (vr 0 0), some (vi 462), some (vi 34)] [] gs Smo_115 (317 + c0) (6 * 317 + z0) out) : Ln J 172 8 [some (vr 0 0), none, none] [] gs S0 (0 + c0) (6 * 0 + z0) out := by
  refine ckl_ok (J := J) (gs := gs) (c0 := c0) (z0 := z0) (out := out) cmo_1 ?_
  refine ckl_ok (J := J) (gs := gs) (c0 := c0) (z0 := z0) (out := out) cmo_2 ?_
  refine ckl_ok (J := J) (gs := gs) (c0 := c0) (z0 := z0) (out := out) cmo_3 ?_
  refine ckl_ok (J := J) (gs := gs) (c0 := c0) (z0 := z0) (out := out) cmo_4 ?_
  refine ckl_ok (J := J) (gs := gs) (c0 := c0) (z0 := z0) (out := out) cmo_5 ?_
  refine ckl_ok (J := J) (gs := gs) (c0 := c0) (z0 := z0) (out := out) cmo_6 ?_
  refine ckl_ok (J := J) (gs := gs) (c0 := c0) (z0 := z0) (out := out) cmo_7 ?_
  refine ckl_ok (J := J) (gs := gs) (c0 := c0) (z0 := z0) (out := out) cmo_8 ?_
  refine ckl_ok (J := J) (gs := gs) (c0 := c0) (z0 := z0) (out := out) cmo_9 ?_
  refine ckl_ok (J := J) (gs := gs) (c0 := c0) (z0 := z0) (out := out) cmo_10 ?_
  refine ckl_ok (J := J) (gs := gs) (c0 := c0) (z0 := z0) (out := out) cmo_11 ?_
  refine ckl_ok (J := J) (gs := gs) (c0 := c0) (z0 := z0) (out := out) cmo_12 ?_
  refine ckl_ok (J := J) (gs := gs) (c0 := c0) (z0 := z0) (out := out) cmo_13 ?_
  refine ckl_ok (J := J) (gs := gs) (c0 := c0) (z0 := z0) (out := out) cmo_14 ?_
  refine ckl_ok (J := J) (gs := gs) (c0 := c0) (z0 := z0) (out := out) cmo_15 ?_
  refine ckl_ok (J := J) (gs := gs) (c0 := c0) (z0 := z0) (out := out) cmo_16 ?_
  refine ckl_ok (J := J) (gs := gs) (c0 := c0) (z0 := z0) (out := out) cmo_17 ?_
  refine ckl_ok (J := J) (gs := gs) (c0 := c0) (z0 := z0) (out := out) cmo_18 ?_
  refine ckl_ok (J := J) (gs := gs) (c0 := c0) (z0 := z0) (out := out) cmo_19 ?_
  refine ckl_ok (J := J) (gs := gs) (c0 := c0) (z0 := z0) (out := out) cmo_20 ?_
  refine ckl_ok (J := J) (gs := gs) (c0 := c0) (z0 := z0) (out := out) cmo_21 ?_
  refine ckl_ok (J := J) (gs := gs) (c0 := c0) (z0 := z0) (out := out) cmo_22 ?_
  refine ckl_ok (J := J) (gs := gs) (c0 := c0) (z0 := z0) (out := out) cmo_23 ?_
  refine ckl_ok (J := J) (gs := gs) (c0 := c0) (z0 := z0) (out := out) cmo_24 ?_
  refine ckl_ok (J := J) (gs := gs) (c0 := c0) (z0 := z0) (out := out) cmo_25 ?_
  refine ckl_ok (J := J) (gs := gs) (c0 := c0) (z0 := z0) (out := out) cmo_26 ?_
  refine ckl_ok (J := J) (gs := gs) (c0 := c0) (z0 := z0) (out := out) cmo_27 ?_
  refine ckl_ok (J := J) (gs := gs) (c0 := c0) (z0 := z0) (out := out) cmo_28 ?_
  refine ckl_ok (J := J) (gs := gs) (c0 := c0) (z0 := z0) (out := out) cmo_29 ?_
  refine ckl_ok (J := J) (gs := gs) (c0 := c0) (z0 := z0) (out := out) cmo_30 ?_
  refine ckl_ok (J := J) (gs := gs) (c0 := c0) (z0 := z0) (out := out) cmo_31 ?_
  refine ckl_ok (J := J) (gs := gs) (c0 := c0) (z0 := z0) (out := out) cmo_32 ?_
  refine ckl_ok (J := J) (gs := gs) (c0 := c0) (z0 := z0) (out := out) cmo_33 ?_
  refine ckl_ok (J := J) (gs := gs) (c0 := c0) (z0 := z0) (out := out) cmo_34 ?_
  refine ckl_ok (J := J) (gs := gs) (c0 := c0) (z0 := z0) (out := out) cmo_35 ?_
  refine ckl_ok (J := J) (gs := gs) (c0 := c0) (z0 := z0) (out := out) cmo_36 ?_
  refine ckl_ok (J := J) (gs := gs) (c0 := c0) (z0 := z0) (out := out) cmo_37 ?_
  refine ckl_ok (J := J) (gs := gs) (c0 := c0) (z0 := z0) (out := out) cmo_38 ?_
  refine ckl_ok (J := J) (gs := gs) (c0 := c0) (z0 := z0) (out := out) cmo_39 ?_
  refine ckl_ok (J := J) (gs := gs) (c0 := c0) (z0 := z0) (out := out) cmo_40 ?_
  refine ckl_ok (J := J) (gs := gs) (c0 := c0) (z0 := z0) (out := out) cmo_41 ?_
  refine ckl_ok (J := J) (gs := gs) (c0 := c0) (z0 := z0) (out := out) cmo_42 ?_
  refine ckl_ok (J := J) (gs := gs) (c0 := c0) (z0 := z0) (out := out) cmo_43 ?_
  refine ckl_ok (J := J) (gs := gs) (c0 := c0) (z0 := z0) (out := out) cmo_44 ?_
  refine ckl_ok (J := J) (gs := gs) (c0 := c0) (z0 := z0) (out := out) cmo_45 ?_
  refine ckl_ok (J := J) (gs := gs) (c0 := c0) (z0 := z0) (out := out) cmo_46 ?_
  refine ckl_ok (J := J) (gs := gs) (c0 := c0) (z0 := z0) (out := out) cmo_47 ?_
  refine ckl_ok (J := J) (gs := gs) (c0 := c0) (z0 := z0) (out := out) cmo_48 ?_
  refine ckl_ok (J := J) (gs := gs) (c0 := c0) (z0 := z0) (out := out) cmo_49 ?_
  refine ckl_ok (J := J) (gs := gs) (c0 := c0) (z0 := z0) (out := out) cmo_50 ?_
  refine ckl_ok (J := J) (gs := gs) (c0 := c0) (z0 := z0) (out := out) cmo_51 ?_
  refine ckl_ok (J := J) (gs := gs) (c0 := c0) (z0 := z0) (out := out) cmo_52 ?_
  refine ckl_ok (J := J) (gs := gs) (c0 := c0) (z0 := z0) (out := out) cmo_53 ?_
  refine ckl_ok (J := J) (gs := gs) (c0 := c0) (z0 := z0) (out := out) cmo_54 ?_
  refine ckl_ok (J := J) (gs := gs) (c0 := c0) (z0 := z0) (out := out) cmo_55 ?_
  refine ckl_ok (J := J) (gs := gs) (c0 := c0) (z0 := z0) (out := out) cmo_56 ?_
  refine ckl_ok (J := J) (gs := gs) (c0 := c0) (z0 := z0) (out := out) cmo_57 ?_
  refine ckl_ok (J := J) (gs := gs) (c0 := c0) (z0 := z0) (out := out) cmo_58 ?_
  refine ckl_ok (J := J) (gs := gs) (c0 := c0) (z0 := z0) (out := out) cmo_59 ?_
  refine ckl_ok (J := J) (gs := gs) (c0 := c0) (z0 := z0) (out := out) cmo_60 ?_
  refine ckl_ok (J := J) (gs := gs) (c0 := c0) (z0 := z0) (out := out) cmo_61 ?_
  refine ckl_ok (J := J) (gs := gs) (c0 := c0) (z0 := z0) (out := out) cmo_62 ?_
  refine ckl_ok (J := J) (gs := gs) (c0 := c0) (z0 := z0) (out := out) cmo_63 ?_
  refine ckl_ok (J := J) (gs := gs) (c0 := c0) (z0 := z0) (out := out) cmo_64 ?_
  refine ckl_ok (J := J) (gs := gs) (c0 := c0) (z0 := z0) (out := out) cmo_65 ?_
  refine ckl_ok (J := J) (gs := gs) (c0 := c0) (z0 := z0) (out := out) cmo_66 ?_
  refine ckl_ok (J := J) (gs := gs) (c0 := c0) (z0 := z0) (out := out) cmo_67 ?_
  refine ckl_ok (J := J) (gs := gs) (c0 := c0) (z0 := z0) (out := out) cmo_68 ?_
  refine ckl_ok (J := J) (gs := gs) (c0 := c0) (z0 := z0) (out := out) cmo_69 ?_
  refine ckl_ok (J := J) (gs := gs) (c0 := c0) (z0 := z0) (out := out) cmo_70 ?_
  refine ckl_ok (J := J) (gs := gs) (c0 := c0) (z0 := z0) (out := out) cmo_71 ?_
  refine ckl_ok (J := J) (gs := gs) (c0 := c0) (z0 := z0) (out := out) cmo_72 ?_
  refine ckl_ok (J := J) (gs := gs) (c0 := c0) (z0 := z0) (out := out) cmo_73 ?_
  refine ckl_ok (J := J) (gs := gs) (c0 := c0) (z0 := z0) (out := out) cmo_74 ?_
  refine ckl_ok (J := J) (gs := gs) (c0 := c0) (z0 := z0) (out := out) cmo_75 ?_
  refine ckl_ok (J := J) (gs := gs) (c0 := c0) (z0 := z0) (out := out) cmo_76 ?_
  refine ckl_ok (J := J) (gs := gs) (c0 := c0) (z0 := z0) (out := out) cmo_77 ?_
  refine ckl_ok (J := J) (gs := gs) (c0 := c0) (z0 := z0) (out := out) cmo_78 ?_
  refine ckl_ok (J := J) (gs := gs) (c0 := c0) (z0 := z0) (out := out) cmo_79a ?_
  refine pass_q (J := J) (gs := gs) (c0 := c0) (z0 := z0) (out := out) (mm := 3000) (v := 3000) (S := Smo_79a) (S2 := Smo_79_19) (pc2 := 538) (c1 := 277) rfl rfl rfl (by decide +kernel) (by decide +kernel) emo_79 rfl rfl ?_
  refine ckl_ok (J := J) (gs := gs) (c0 := c0) (z0 := z0) (out := out) cmo_79b ?_
  refine ckl_ok (J := J) (gs := gs) (c0 := c0) (z0 := z0) (out := out) cmo_80a ?_
  refine pass_q (J := J) (gs := gs) (c0 := c0) (z0 := z0) (out := out) (mm := 3000) (v := 6000) (S := Smo_80a) (S2 := Smo_80_2) (pc2 := 538) (c1 := 278) rfl rfl rfl (by decide +kernel) (by decide +kernel) emo_80 rfl rfl ?_
  refine ckl_ok (J := J) (gs := gs) (c0 := c0) (z0 := z0) (out := out) cmo_80b ?_
  refine ckl_ok (J := J) (gs := gs) (c0 := c0) (z0 := z0) (out := out) cmo_81a ?_
  refine pass_q (J := J) (gs := gs) (c0 := c0) (z0 := z0) (out := out) (mm := 3000) (v := 9000) (S := Smo_81a) (S2 := Smo_81_0) (pc2 := 538) (c1 := 279) rfl rfl rfl (by decide +kernel) (by decide +kernel) emo_81 rfl rfl ?_
  refine ckl_ok (J := J) (gs := gs) (c0 := c0) (z0 := z0) (out := out) cmo_81b ?_
  refine ckl_ok (J := J) (gs := gs) (c0 := c0) (z0 := z0) (out := out) cmo_82a ?_
  refine pass_q (J := J) (gs := gs) (c0 := c0) (z0 := z0) (out := out) (mm := 3000) (v := 12000) (S := Smo_82a) (S2 := Smo_82_0) (pc2 := 538) (c1 := 280) rfl rfl rfl (by decide +kernel) (by decide +kernel) emo_82 rfl rfl ?_
  refine ckl_ok (J := J) (gs := gs) (c0 := c0) (z0 := z0) (out := out) cmo_82b ?_
  refine ckl_ok (J := J) (gs := gs) (c0 := c0) (z0 := z0) (out := out) cmo_83a ?_
  refine pass_q (J := J) (gs := gs) (c0 := c0) (z0 := z0) (out := out) (mm := 3000) (v := 15000) (S := Smo_83a) (S2 := Smo_83_0) (pc2 := 538) (c1 := 281) rfl rfl rfl (by decide +kernel) (by decide +kernel) emo_83 rfl rfl ?_
  refine ckl_ok (J := J) (gs := gs) (c0 := c0) (z0 := z0) (out := out) cmo_83b ?_
  refine ckl_ok (J := J) (gs := gs) (c0 := c0) (z0 := z0) (out := out) cmo_84a ?_
  refine pass_q (J := J) (gs := gs) (c0 := c0) (z0 := z0) (out := out) (mm := 3000) (v := 18000) (S := Smo_84a) (S2 := Smo_84_0) (pc2 := 538) (c1 := 282) rfl rfl rfl (by decide +kernel) (by decide +kernel) emo_84 rfl rfl ?_
  refine ckl_ok (J := J) (gs := gs) (c0 := c0) (z0 := z0) (out := out) cmo_84b ?_
  refine ckl_ok (J := J) (gs := gs) (c0 := c0) (z0 := z0) (out := out) cmo_85a ?_
  refine pass_q (J := J) (gs := gs) (c0 := c0) (z0 := z0) (out := out) (mm := 3000) (v := 21000) (S := Smo_85a) (S2 := Smo_85_0) (pc2 := 538) (c1 := 283) rfl rfl rfl (by decide +kernel) (by decide +kernel) emo_85 rfl rfl ?_
  refine ckl_ok (J := J) (gs := gs) (c0 := c0) (z0 := z0) (out := out) cmo_85b ?_
  refine ckl_ok (J := J) (gs := gs) (c0 := c0) (z0 := z0) (out := out) cmo_86a ?_
  refine pass_q (J := J) (gs := gs) (c0 := c0) (z0 := z0) (out := out) (mm := 3000) (v := 24000) (S := Smo_86a) (S2 := Smo_86_0) (pc2 := 538) (c1 := 284) rfl rfl rfl (by decide +kernel) (by decide +kernel) emo_86 rfl rfl ?_
  refine ckl_ok (J := J) (gs := gs) (c0 := c0) (z0 := z0) (out := out) cmo_86b ?_
  refine ckl_ok (J := J) (gs := gs) (c0 := c0) (z0 := z0) (out := out) cmo_87a ?_
  refine pass_q (J := J) (gs := gs) (c0 := c0) (z0 := z0) (out := out) (mm := 3000) (v := 27000) (S := Smo_87a) (S2 := Smo_87_0) (pc2 := 538) (c1 := 285) rfl rfl rfl (by decide +kernel) (by decide +kernel) emo_87 rfl rfl ?_
  refine ckl_ok (J := J) (gs := gs) (c0 := c0) (z0 := z0) (out := out) cmo_87b ?_
  refine ckl_ok (J := J) (gs := gs) (c0 := c0) (z0 := z0) (out := out) cmo_88a ?_
  refine pass_q (J := J) (gs := gs) (c0 := c0) (z0 := z0) (out := out) (mm := 3000) (v := 30000) (S := Smo_88a) (S2 := Smo_88_0) (pc2 := 538) (c1 := 286) rfl rfl rfl (by decide +kernel) (by decide +kernel) emo_88 rfl rfl ?_
  refine ckl_ok (J := J) (gs := gs) (c0 := c0) (z0 := z0) (out := out) cmo_88b ?_
  refine ckl_ok (J := J) (gs := gs) (c0 := c0) (z0 := z0) (out := out) cmo_89a ?_
  refine pass_q (J := J) (gs := gs) (c0 := c0) (z0 := z0) (out := out) (mm := 3000) (v := 33000) (S := Smo_89a) (S2 := Smo_89_0) (pc2 := 538) (c1 := 287) rfl rfl rfl (by decide +kernel) (by decide +kernel) emo_89 rfl rfl ?_
  refine ckl_ok (J := J) (gs := gs) (c0 := c0) (z0 := z0) (out := out) cmo_89b ?_
  refine ckl_ok (J := J) (gs := gs) (c0 := c0) (z0 := z0) (out := out) cmo_90a ?_
  refine pass_q (J := J) (gs := gs) (c0 := c0) (z0 := z0) (out := out) (mm := 3000) (v := 36000) (S := Smo_90a) (S2 := Smo_90_0) (pc2 := 538) (c1 := 288) rfl rfl rfl (by decide +kernel) (by decide +kernel) emo_90 rfl rfl ?_
  refine ckl_ok (J := J) (gs := gs) (c0 := c0) (z0 := z0) (out := out) cmo_90b ?_
  refine ckl_ok (J := J) (gs := gs) (c0 := c0) (z0 := z0) (out := out) cmo_91a ?_
  refine pass_q (J := J) (gs := gs) (c0 := c0) (z0 := z0) (out := out) (mm := 3000) (v := 39000) (S := Smo_91a) (S2 := Smo_91_0) (pc2 := 538) (c1 := 289) rfl rfl rfl (by decide +kernel) (by decide +kernel) emo_91 rfl rfl ?_
  refine ckl_ok (J := J) (gs := gs) (c0 := c0) (z0 := z0) (out := out) cmo_91b ?_
  refine ckl_ok (J := J) (gs := gs) (c0 := c0) (z0 := z0) (out := out) cmo_92a ?_
  refine pass_q (J := J) (gs := gs) (c0 := c0) (z0 := z0) (out := out) (mm := 3000) (v := 42000) (S := Smo_92a) (S2 := Smo_92_0) (pc2 := 538) (c1 := 290) rfl rfl rfl (by decide +kernel) (by decide +kernel) emo_92 rfl rfl ?_
  refine ckl_ok (J := J) (gs := gs) (c0 := c0) (z0 := z0) (out := out) cmo_92b ?_
  refine ckl_ok (J := J) (gs := gs) (c0 := c0) (z0 := z0) (out := out) cmo_93a ?_
  refine pass_q (J := J) (gs := gs) (c0 := c0) (z0 := z0) (out := out) (mm := 3000) (v := 45000) (S := Smo_93a) (S2 := Smo_93_0) (pc2 := 538) (c1 := 291) rfl rfl rfl (by decide +kernel) (by decide +kernel) emo_93 rfl rfl ?_
  refine ckl_ok (J := J) (gs := gs) (c0 := c0) (z0 := z0) (out := out) cmo_93b ?_
  refine ckl_ok (J := J) (gs := gs) (c0 := c0) (z0 := z0) (out := out) cmo_94a ?_
  refine pass_q (J := J) (gs := gs) (c0 := c0) (z0 := z0) (out := out) (mm := 3000) (v := 48000) (S := Smo_94a) (S2 := Smo_94_0) (pc2 := 538) (c1 := 292) rfl rfl rfl (by decide +kernel) (by decide +kernel) emo_94 rfl rfl ?_
  refine ckl_ok (J := J) (gs := gs) (c0 := c0) (z0 := z0) (out := out) cmo_94b ?_
  refine ckl_ok (J := J) (gs := gs) (c0 := c0) (z0 := z0) (out := out) cmo_95a ?_
  refine pass_q (J := J) (gs := gs) (c0 := c0) (z0 := z0) (out := out) (mm := 3000) (v := 51000) (S := Smo_95a) (S2 := Smo_95_0) (pc2 := 538) (c1 := 293) rfl rfl rfl (by decide +kernel) (by decide +kernel) emo_95 rfl rfl ?_
  refine ckl_ok (J := J) (gs := gs) (c0 := c0) (z0 := z0) (out := out) cmo_95b ?_
  refine ckl_ok (J := J) (gs := gs) (c0 := c0) (z0 := z0) (out := out) cmo_96a ?_
  refine pass_q (J := J) (gs := gs) (c0 := c0) (z0 := z0) (out := out) (mm := 3000) (v := 54000) (S := Smo_96a) (S2 := Smo_96_0) (pc2 := 538) (c1 := 294) rfl rfl rfl (by decide +kernel) (by decide +kernel) emo_96 rfl rfl ?_
  refine ckl_ok (J := J) (gs := gs) (c0 := c0) (z0 := z0) (out := out) cmo_96b ?_
  refine ckl_ok (J := J) (gs := gs) (c0 := c0) (z0 := z0) (out := out) cmo_97a ?_
  refine pass_q (J := J) (gs := gs) (c0 := c0) (z0 := z0) (out := out) (mm := 3000) (v := 57000) (S := Smo_97a) (S2 := Smo_97_0) (pc2 := 538) (c1 := 295) rfl rfl rfl (by decide +kernel) (by decide +kernel) emo_97 rfl rfl ?_
  refine ckl_ok (J := J) (gs := gs) (c0 := c0) (z0 := z0) (out := out) cmo_97b ?_
  refine ckl_ok (J := J) (gs := gs) (c0 := c0) (z0 := z0) (out := out) cmo_98a ?_
  refine pass_q (J := J) (gs := gs) (c0 := c0) (z0 := z0) (out := out) (mm := 3000) (v := 60000) (S := Smo_98a) (S2 := Smo_98_0) (pc2 := 538) (c1 := 296) rfl rfl rfl (by decide +kernel) (by decide +kernel) emo_98 rfl rfl ?_
  refine ckl_ok (J := J) (gs := gs) (c0 := c0) (z0 := z0) (out := out) cmo_98b ?_
  refine ckl_ok (J := J) (gs := gs) (c0 := c0) (z0 := z0) (out := out) cmo_99a ?_
  refine pass_q (J := J) (gs := gs) (c0 := c0) (z0 := z0) (out := out) (mm := 3000) (v := 63000) (S := Smo_99a) (S2 := Smo_99_0) (pc2 := 538) (c1 := 297) rfl rfl rfl (by decide +kernel) (by decide +kernel) emo_99 rfl rfl ?_
  refine ckl_ok (J := J) (gs := gs) (c0 := c0) (z0 := z0) (out := out) cmo_99b ?_
  refine ckl_ok (J := J) (gs := gs) (c0 := c0) (z0 := z0) (out := out) cmo_100a ?_
  refine pass_q (J := J) (gs := gs) (c0 := c0) (z0 := z0) (out := out) (mm := 3000) (v := 66000) (S := Smo_100a) (S2 := Smo_100_0) (pc2 := 538) (c1 := 298) rfl rfl rfl (by decide +kernel) (by decide +kernel) emo_100 rfl rfl ?_
  refine ckl_ok (J := J) (gs := gs) (c0 := c0) (z0 := z0) (out := out) cmo_100b ?_
  refine ckl_ok (J := J) (gs := gs) (c0 := c0) (z0 := z0) (out := out) cmo_101a ?_
  refine pass_q (J := J) (gs := gs) (c0 := c0) (z0 := z0) (out := out) (mm := 3000) (v := 69000) (S := Smo_101a) (S2 := Smo_101_0) (pc2 := 538) (c1 := 299) rfl rfl rfl (by decide +kernel) (by decide +kernel) emo_101 rfl rfl ?_
  refine ckl_ok (J := J) (gs := gs) (c0 := c0) (z0 := z0) (out := out) cmo_101b ?_
  refine ckl_ok (J := J) (gs := gs) (c0 := c0) (z0 := z0) (out := out) cmo_102a ?_
  refine pass_q (J := J) (gs := gs) (c0 := c0) (z0 := z0) (out := out) (mm := 3000) (v := 72000) (S := Smo_102a) (S2 := Smo_102_0) (pc2 := 538) (c1 := 300) rfl rfl rfl (by decide +kernel) (by decide +kernel) emo_102 rfl rfl ?_
  refine ckl_ok (J := J) (gs := gs) (c0 := c0) (z0 := z0) (out := out) cmo_102b ?_
  refine ckl_ok (J := J) (gs := gs) (c0 := c0) (z0 := z0) (out := out) cmo_103a ?_
  refine pass_q (J := J) (gs := gs) (c0 := c0) (z0 := z0) (out := out) (mm := 3000) (v := 75000) (S := Smo_103a) (S2 := Smo_103_0) (pc2 := 538) (c1 := 301) rfl rfl rfl (by decide +kernel) (by decide +kernel) emo_103 rfl rfl ?_
  refine ckl_ok (J := J) (gs := gs) (c0 := c0) (z0 := z0) (out := out) cmo_103b ?_
  refine ckl_ok (J := J) (gs := gs) (c0 := c0) (z0 := z0) (out := out) cmo_104a ?_
  refine pass_q (J := J) (gs := gs) (c0 := c0) (z0 := z0) (out := out) (mm := 3000) (v := 78000) (S := Smo_104a) (S2 := Smo_104_0) (pc2 := 538) (c1 := 302) rfl rfl rfl (by decide +kernel) (by decide +kernel) emo_104 rfl rfl ?_
  refine ckl_ok (J := J) (gs := gs) (c0 := c0) (z0 := z0) (out := out) cmo_104b ?_
  refine ckl_ok (J := J) (gs := gs) (c0 := c0) (z0 := z0) (out := out) cmo_105a ?_
  refine pass_q (J := J) (gs := gs) (c0 := c0) (z0 := z0) (out := out) (mm := 3000) (v := 81000) (S := Smo_105a) (S2 := Smo_105_0) (pc2 := 538) (c1 := 303) rfl rfl rfl (by decide +kernel) (by decide +kernel) emo_105 rfl rfl ?_
  refine ckl_ok (J := J) (gs := gs) (c0 := c0) (z0 := z0) (out := out) cmo_105b ?_
  refine ckl_ok (J := J) (gs := gs) (c0 := c0) (z0 := z0) (out := out) cmo_106a ?_
  refine pass_q (J := J) (gs := gs) (c0 := c0) (z0 := z0) (out := out) (mm := 3000) (v := 84000) (S := Smo_106a) (S2 := Smo_106_0) (pc2 := 538) (c1 := 304) rfl rfl rfl (by decide +kernel) (by decide +kernel) emo_106 rfl rfl ?_
  refine ckl_ok (J := J) (gs := gs) (c0 := c0) (z0 := z0) (out := out) cmo_106b ?_
  refine ckl_ok (J := J) (gs := gs) (c0 := c0) (z0 := z0) (out := out) cmo_107a ?_
  refine pass_q (J := J) (gs := gs) (c0 := c0) (z0 := z0) (out := out) (mm := 3000) (v := 87000) (S := Smo_107a) (S2 := Smo_107_0) (pc2 := 538) (c1 := 305) rfl rfl rfl (by decide +kernel) (by decide +kernel) emo_107 rfl rfl ?_
  refine ckl_ok (J := J) (gs := gs) (c0 := c0) (z0 := z0) (out := out) cmo_107b ?_
  refine ckl_ok (J := J) (gs := gs) (c0 := c0) (z0 := z0) (out := out) cmo_108a ?_
  refine pass_q (J := J) (gs := gs) (c0 := c0) (z0 := z0) (out := out) (mm := 3000) (v := 90000) (S := Smo_108a) (S2 := Smo_108_0) (pc2 := 538) (c1 := 306) rfl rfl rfl (by decide +kernel) (by decide +kernel) emo_108 rfl rfl ?_
  refine ckl_ok (J := J) (gs := gs) (c0 := c0) (z0 := z0) (out := out) cmo_108b ?_
  refine ckl_ok (J := J) (gs := gs) (c0 := c0) (z0 := z0) (out := out) cmo_109a ?_
  refine pass_q (J := J) (gs := gs) (c0 := c0) (z0 := z0) (out := out) (mm := 3000) (v := 93000) (S := Smo_109a) (S2 := Smo_109_0) (pc2 := 538) (c1 := 307) rfl rfl rfl (by decide +kernel) (by decide +kernel) emo_109 rfl rfl ?_
  refine ckl_ok (J := J) (gs := gs) (c0 := c0) (z0 := z0) (out := out) cmo_109b ?_
  refine ckl_ok (J := J) (gs := gs) (c0 := c0) (z0 := z0) (out := out) cmo_110a ?_
  refine pass_q (J := J) (gs := gs) (c0 := c0) (z0 := z0) (out := out) (mm := 3000) (v := 96000) (S := Smo_110a) (S2 := Smo_110_0) (pc2 := 538) (c1 := 308) rfl rfl rfl (by decide +kernel) (by decide +kernel) emo_110 rfl rfl ?_
  refine ckl_ok (J := J) (gs := gs) (c0 := c0) (z0 := z0) (out := out) cmo_110b ?_
  refine ckl_ok (J := J) (gs := gs) (c0 := c0) (z0 := z0) (out := out) cmo_111a ?_
  refine pass_q (J := J) (gs := gs) (c0 := c0) (z0 := z0) (out := out) (mm := 3000) (v := 99000) (S := Smo_111a) (S2 := Smo_111_0) (pc2 := 538) (c1 := 309) rfl rfl rfl (by decide +kernel) (by decide +kernel) emo_111 rfl rfl ?_
  refine ckl_ok (J := J) (gs := gs) (c0 := c0) (z0 := z0) (out := out) cmo_111b ?_
  refine ckl_ok (J := J) (gs := gs) (c0 := c0) (z0 := z0) (out := out) cmo_112 ?_
  refine ckl_ok (J := J) (gs := gs) (c0 := c0) (z0 := z0) (out := out) cmo_113 ?_
  refine ckl_ok (J := J) (gs := gs) (c0 := c0) (z0 := z0) (out := out) cmo_114a ?_
  refine pass_q (J := J) (gs := gs) (c0 := c0) (z0 := z0) (out := out) (mm := 1000) (v := 100000) (S := Smo_114a) (S2 := Smo_114_0) (pc2 := 629) (c1 := 316) rfl rfl rfl (by decide +kernel) (by decide +kernel) emo_114 rfl rfl ?_
  refine ckl_ok (J := J) (gs := gs) (c0 := c0) (z0 := z0) (out := out) cmo_114b ?_
  refine ckl_ok (J := J) (gs := gs) (c0 := c0) (z0 := z0) (out := out) cmo_115 ?_
  exact h
