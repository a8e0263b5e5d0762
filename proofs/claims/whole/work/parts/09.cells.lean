/-! the cells behind the constructors: their shapes, the references that never change -/
def am_NN : Nat := 336
def am_shl : List (Nat × Nat) := [(0, 11), (0, 8), (1, 400), (0, 10), (0, 3), (1, 16), (1, 16), (1, 16), (1, 16), (1, 16), (1, 10), (1, 10), (1, 10), (1, 60), (1, 10), (1, 10), (1, 2), (0, 1), (1, 12), (1, 12), (1, 12), (1, 12), (1, 400), (1, 8), (1, 40), (0, 5), (1, 10), (1, 10), (1, 10), (1, 10), (1, 10), (1, 120), (1, 40), (1, 40), (1, 40), (1, 60), (1, 60), (1, 60), (1, 60), (1, 60), (0, 10), (0, 5), (1, 10), (1, 10), (1, 10), (1, 10), (1, 10), (1, 120), (1, 40), (1, 40), (1, 40), (1, 60), (1, 60), (1, 60), (1, 60), (1, 60), (0, 10), (0, 3), (1, 16), (1, 16), (1, 16), (1, 16), (1, 16), (1, 10), (1, 10), (1, 10), (1, 60), (1, 10), (1, 10), (1, 2), (0, 1), (1, 12), (1, 12), (1, 12), (1, 12), (1, 400), (1, 8), (1, 40), (0, 5), (1, 10), (1, 10), (1, 10), (1, 10), (1, 10), (1, 120), (1, 40), (1, 40), (1, 40), (1, 60), (1, 60), (1, 60), (1, 60), (1, 60), (0, 10), (0, 3), (1, 16), (1, 16), (1, 16), (1, 16), (1, 16), (1, 10), (1, 10), (1, 10), (1, 60), (1, 10), (1, 10), (1, 2), (0, 1), (1, 12), (1, 12), (1, 12), (1, 12), (1, 400), (1, 8), (1, 40), (0, 5), (1, 10), (1, 10), (1, 10), (1, 10), (1, 10), (1, 120), (1, 40), (1, 40), (1, 40), (1, 60), (1, 60), (1, 60), (1, 60), (1, 60), (0, 9), (0, 2), (0, 4), (5, 12), (0, 5), (1, 10), (1, 10), (1, 10), (1, 10), (1, 10), (1, 120), (1, 40), (1, 40), (1, 40), (1, 60), (1, 60), (1, 60), (1, 60), (1, 60), (0, 5), (1, 10), (1, 10), (1, 10), (1, 10), (1, 10), (1, 120), (1, 40), (1, 40), (1, 40), (1, 60), (1, 60), (1, 60), (1, 60), (1, 60), (0, 5), (1, 10), (1, 10), (1, 10), (1, 10), (1, 10), (1, 120), (1, 40), (1, 40), (1, 40), (1, 60), (1, 60), (1, 60), (1, 60), (1, 60), (0, 5), (1, 10), (1, 10), (1, 10), (1, 10), (1, 10), (1, 120), (1, 40), (1, 40), (1, 40), (1, 60), (1, 60), (1, 60), (1, 60), (1, 60), (0, 5), (1, 10), (1, 10), (1, 10), (1, 10), (1, 10), (1, 120), (1, 40), (1, 40), (1, 40), (1, 60), (1, 60), (1, 60), (1, 60), (1, 60), (0, 5), (1, 10), (1, 10), (1, 10), (1, 10), (1, 10), (1, 120), (1, 40), (1, 40), (1, 40), (1, 60), (1, 60), (1, 60), (1, 60), (1, 60), (0, 5), (1, 10), (1, 10), (1, 10), (1, 10), (1, 10), (1, 120), (1, 40), (1, 40), (1, 40), (1, 60), (1, 60), (1, 60), (1, 60), (1, 60), (0, 5), (1, 10), (1, 10), (1, 10), (1, 10), (1, 10), (1, 120), (1, 40), (1, 40), (1, 40), (1, 60), (1, 60), (1, 60), (1, 60), (1, 60), (0, 5), (1, 10), (1, 10), (1, 10), (1, 10), (1, 10), (1, 120), (1, 40), (1, 40), (1, 40), (1, 60), (1, 60), (1, 60), (1, 60), (1, 60), (0, 5), (1, 10), (1, 10), (1, 10), (1, 10), (1, 10), (1, 120), (1, 40), (1, 40), (1, 40), (1, 60), (1, 60), (1, 60), (1, 60), (1, 60), (0, 5), (1, 10), (1, 10), (1, 10), (1, 10), (1, 10), (1, 120), (1, 40), (1, 40), (1, 40), (1, 60), (1, 60), (1, 60), (1, 60), (1, 60), (0, 5), (1, 10), (1, 10), (1, 10), (1, 10), (1, 10), (1, 120), (1, 40), (1, 40), (1, 40), (1, 60), (1, 60), (1, 60), (1, 60), (1, 60), (0, 6), (1, 10), (0, 7), (1, 488), (0, 0), (1, 8), (1, 8), (1, 1024), (0, 12), (1, 2429), (1, 1580), (1, 1580), (1, 731), (1, 8772), (2, 400), (1, 5), (1, 400), (3, 32768), (3, 256), (1, 8), (1, 9216), (4, 1)]
def am_SH : am_Sh := fun i => am_shl.getD i (9, 0)
abbrev am_VV (ad : Nat → Nat) : am_V := (ad, am_NN, am_SH)
def am_rfl : List (Nat × Nat × Nat) := [(0, 0, 1), (0, 1, 3), (0, 2, 40), (0, 3, 56), (0, 4, 93), (0, 5, 130), (0, 6, 131), (0, 7, 132), (0, 8, 314), (0, 9, 316), (0, 10, 318), (1, 0, 2), (3, 0, 4), (3, 1, 17), (3, 2, 25), (4, 4, 5), (4, 5, 6), (4, 6, 7), (4, 7, 8), (4, 8, 9), (4, 9, 10), (4, 10, 11), (4, 11, 12), (4, 12, 13), (4, 13, 14), (4, 14, 15), (4, 15, 16), (17, 2, 18), (17, 3, 19), (17, 4, 20), (17, 5, 21), (17, 6, 22), (17, 7, 23), (17, 8, 24), (25, 5, 26), (25, 6, 27), (25, 7, 28), (25, 8, 29), (25, 9, 30), (25, 10, 31), (25, 11, 32), (25, 12, 33), (25, 13, 34), (25, 14, 35), (25, 15, 36), (25, 16, 37), (25, 17, 38), (25, 18, 39), (40, 0, 4), (40, 1, 17), (40, 2, 41), (41, 5, 42), (41, 6, 43), (41, 7, 44), (41, 8, 45), (41, 9, 46), (41, 10, 47), (41, 11, 48), (41, 12, 49), (41, 13, 50), (41, 14, 51), (41, 15, 52), (41, 16, 53), (41, 17, 54), (41, 18, 55), (56, 0, 57), (56, 1, 70), (56, 2, 78), (57, 4, 58), (57, 5, 59), (57, 6, 60), (57, 7, 61), (57, 8, 62), (57, 9, 63), (57, 10, 64), (57, 11, 65), (57, 12, 66), (57, 13, 67), (57, 14, 68), (57, 15, 69), (70, 2, 71), (70, 3, 72), (70, 4, 73), (70, 5, 74), (70, 6, 75), (70, 7, 76), (70, 8, 77), (78, 5, 79), (78, 6, 80), (78, 7, 81), (78, 8, 82), (78, 9, 83), (78, 10, 84), (78, 11, 85), (78, 12, 86), (78, 13, 87), (78, 14, 88), (78, 15, 89), (78, 16, 90), (78, 17, 91), (78, 18, 92), (93, 0, 94), (93, 1, 107), (93, 2, 115), (94, 4, 95), (94, 5, 96), (94, 6, 97), (94, 7, 98), (94, 8, 99), (94, 9, 100), (94, 10, 101), (94, 11, 102), (94, 12, 103), (94, 13, 104), (94, 14, 105), (94, 15, 106), (107, 2, 108), (107, 3, 109), (107, 4, 110), (107, 5, 111), (107, 6, 112), (107, 7, 113), (107, 8, 114), (115, 5, 116), (115, 6, 117), (115, 7, 118), (115, 8, 119), (115, 9, 120), (115, 10, 121), (115, 11, 122), (115, 12, 123), (115, 13, 124), (115, 14, 125), (115, 15, 126), (115, 16, 127), (115, 17, 128), (115, 18, 129), (130, 0, 1), (130, 1, 56), (130, 2, 57), (131, 0, 1), (131, 1, 70), (132, 0, 133), (134, 5, 135), (134, 6, 136), (134, 7, 137), (134, 8, 138), (134, 9, 139), (134, 10, 140), (134, 11, 141), (134, 12, 142), (134, 13, 143), (134, 14, 144), (134, 15, 145), (134, 16, 146), (134, 17, 147), (134, 18, 148), (149, 5, 150), (149, 6, 151), (149, 7, 152), (149, 8, 153), (149, 9, 154), (149, 10, 155), (149, 11, 156), (149, 12, 157), (149, 13, 158), (149, 14, 159), (149, 15, 160), (149, 16, 161), (149, 17, 162), (149, 18, 163), (164, 5, 165), (164, 6, 166), (164, 7, 167), (164, 8, 168), (164, 9, 169), (164, 10, 170), (164, 11, 171), (164, 12, 172), (164, 13, 173), (164, 14, 174), (164, 15, 175), (164, 16, 176), (164, 17, 177), (164, 18, 178), (179, 5, 180), (179, 6, 181), (179, 7, 182), (179, 8, 183), (179, 9, 184), (179, 10, 185), (179, 11, 186), (179, 12, 187), (179, 13, 188), (179, 14, 189), (179, 15, 190), (179, 16, 191), (179, 17, 192), (179, 18, 193), (194, 5, 195), (194, 6, 196), (194, 7, 197), (194, 8, 198), (194, 9, 199), (194, 10, 200), (194, 11, 201), (194, 12, 202), (194, 13, 203), (194, 14, 204), (194, 15, 205), (194, 16, 206), (194, 17, 207), (194, 18, 208), (209, 5, 210), (209, 6, 211), (209, 7, 212), (209, 8, 213), (209, 9, 214), (209, 10, 215), (209, 11, 216), (209, 12, 217), (209, 13, 218), (209, 14, 219), (209, 15, 220), (209, 16, 221), (209, 17, 222), (209, 18, 223), (224, 5, 225), (224, 6, 226), (224, 7, 227), (224, 8, 228), (224, 9, 229), (224, 10, 230), (224, 11, 231), (224, 12, 232), (224, 13, 233), (224, 14, 234), (224, 15, 235), (224, 16, 236), (224, 17, 237), (224, 18, 238), (239, 5, 240), (239, 6, 241), (239, 7, 242), (239, 8, 243), (239, 9, 244), (239, 10, 245), (239, 11, 246), (239, 12, 247), (239, 13, 248), (239, 14, 249), (239, 15, 250), (239, 16, 251), (239, 17, 252), (239, 18, 253), (254, 5, 255), (254, 6, 256), (254, 7, 257), (254, 8, 258), (254, 9, 259), (254, 10, 260), (254, 11, 261), (254, 12, 262), (254, 13, 263), (254, 14, 264), (254, 15, 265), (254, 16, 266), (254, 17, 267), (254, 18, 268), (269, 5, 270), (269, 6, 271), (269, 7, 272), (269, 8, 273), (269, 9, 274), (269, 10, 275), (269, 11, 276), (269, 12, 277), (269, 13, 278), (269, 14, 279), (269, 15, 280), (269, 16, 281), (269, 17, 282), (269, 18, 283), (284, 5, 285), (284, 6, 286), (284, 7, 287), (284, 8, 288), (284, 9, 289), (284, 10, 290), (284, 11, 291), (284, 12, 292), (284, 13, 293), (284, 14, 294), (284, 15, 295), (284, 16, 296), (284, 17, 297), (284, 18, 298), (299, 5, 300), (299, 6, 301), (299, 7, 302), (299, 8, 303), (299, 9, 304), (299, 10, 305), (299, 11, 306), (299, 12, 307), (299, 13, 308), (299, 14, 309), (299, 15, 310), (299, 16, 311), (299, 17, 312), (299, 18, 313), (314, 0, 3), (314, 1, 4), (314, 2, 25), (314, 3, 315), (316, 0, 3), (316, 1, 317), (318, 0, 3), (318, 1, 319), (318, 2, 320), (318, 3, 321), (322, 1, 323), (322, 2, 324), (322, 3, 325), (322, 4, 326), (322, 5, 327), (322, 8, 328), (322, 15, 329), (322, 17, 330), (322, 18, 331), (322, 19, 332), (322, 20, 333), (322, 21, 334)]
def am_rs (r : am_R) : Prop := ∀ q ∈ am_rfl, r q.1 q.2.1 = .ref q.2.2
theorem rf_0_0 {r : am_R} (h : am_rs r) : r 0 0 = .ref 1 := h (0, 0, 1) (List.mem_of_getElem? (i := 0) rfl)
theorem rf_0_1 {r : am_R} (h : am_rs r) : r 0 1 = .ref 3 := h (0, 1, 3) (List.mem_of_getElem? (i := 1) rfl)
theorem rf_0_2 {r : am_R} (h : am_rs r) : r 0 2 = .ref 40 := h (0, 2, 40) (List.mem_of_getElem? (i := 2) rfl)
theorem rf_0_3 {r : am_R} (h : am_rs r) : r 0 3 = .ref 56 := h (0, 3, 56) (List.mem_of_getElem? (i := 3) rfl)
theorem rf_0_4 {r : am_R} (h : am_rs r) : r 0 4 = .ref 93 := h (0, 4, 93) (List.mem_of_getElem? (i := 4) rfl)
theorem rf_0_5 {r : am_R} (h : am_rs r) : r 0 5 = .ref 130 := h (0, 5, 130) (List.mem_of_getElem? (i := 5) rfl)
theorem rf_0_6 {r : am_R} (h : am_rs r) : r 0 6 = .ref 131 := h (0, 6, 131) (List.mem_of_getElem? (i := 6) rfl)
theorem rf_0_7 {r : am_R} (h : am_rs r) : r 0 7 = .ref 132 := h (0, 7, 132) (List.mem_of_getElem? (i := 7) rfl)
theorem rf_0_8 {r : am_R} (h : am_rs r) : r 0 8 = .ref 314 := h (0, 8, 314) (List.mem_of_getElem? (i := 8) rfl)
theorem rf_0_9 {r : am_R} (h : am_rs r) : r 0 9 = .ref 316 := h (0, 9, 316) (List.mem_of_getElem? (i := 9) rfl)
theorem rf_0_10 {r : am_R} (h : am_rs r) : r 0 10 = .ref 318 := h (0, 10, 318) (List.mem_of_getElem? (i := 10) rfl)
theorem rf_1_0 {r : am_R} (h : am_rs r) : r 1 0 = .ref 2 := h (1, 0, 2) (List.mem_of_getElem? (i := 11) rfl)
theorem rf_3_0 {r : am_R} (h : am_rs r) : r 3 0 = .ref 4 := h (3, 0, 4) (List.mem_of_getElem? (i := 12) rfl)
theorem rf_3_1 {r : am_R} (h : am_rs r) : r 3 1 = .ref 17 := h (3, 1, 17) (List.mem_of_getElem? (i := 13) rfl)
theorem rf_3_2 {r : am_R} (h : am_rs r) : r 3 2 = .ref 25 := h (3, 2, 25) (List.mem_of_getElem? (i := 14) rfl)
theorem rf_4_4 {r : am_R} (h : am_rs r) : r 4 4 = .ref 5 := h (4, 4, 5) (List.mem_of_getElem? (i := 15) rfl)
theorem rf_4_5 {r : am_R} (h : am_rs r) : r 4 5 = .ref 6 := h (4, 5, 6) (List.mem_of_getElem? (i := 16) rfl)
theorem rf_4_6 {r : am_R} (h : am_rs r) : r 4 6 = .ref 7 := h (4, 6, 7) (List.mem_of_getElem? (i := 17) rfl)
theorem rf_4_7 {r : am_R} (h : am_rs r) : r 4 7 = .ref 8 := h (4, 7, 8) (List.mem_of_getElem? (i := 18) rfl)
theorem rf_4_8 {r : am_R} (h : am_rs r) : r 4 8 = .ref 9 := h (4, 8, 9) (List.mem_of_getElem? (i := 19) rfl)
theorem rf_4_9 {r : am_R} (h : am_rs r) : r 4 9 = .ref 10 := h (4, 9, 10) (List.mem_of_getElem? (i := 20) rfl)
theorem rf_4_10 {r : am_R} (h : am_rs r) : r 4 10 = .ref 11 := h (4, 10, 11) (List.mem_of_getElem? (i := 21) rfl)
theorem rf_4_11 {r : am_R} (h : am_rs r) : r 4 11 = .ref 12 := h (4, 11, 12) (List.mem_of_getElem? (i := 22) rfl)
theorem rf_4_12 {r : am_R} (h : am_rs r) : r 4 12 = .ref 13 := h (4, 12, 13) (List.mem_of_getElem? (i := 23) rfl)
theorem rf_4_13 {r : am_R} (h : am_rs r) : r 4 13 = .ref 14 := h (4, 13, 14) (List.mem_of_getElem? (i := 24) rfl)
theorem rf_4_14 {r : am_R} (h : am_rs r) : r 4 14 = .ref 15 := h (4, 14, 15) (List.mem_of_getElem? (i := 25) rfl)
theorem rf_4_15 {r : am_R} (h : am_rs r) : r 4 15 = .ref 16 := h (4, 15, 16) (List.mem_of_getElem? (i := 26) rfl)
theorem rf_17_2 {r : am_R} (h : am_rs r) : r 17 2 = .ref 18 := h (17, 2, 18) (List.mem_of_getElem? (i := 27) rfl)
theorem rf_17_3 {r : am_R} (h : am_rs r) : r 17 3 = .ref 19 := h (17, 3, 19) (List.mem_of_getElem? (i := 28) rfl)
theorem rf_17_4 {r : am_R} (h : am_rs r) : r 17 4 = .ref 20 := h (17, 4, 20) (List.mem_of_getElem? (i := 29) rfl)
theorem rf_17_5 {r : am_R} (h : am_rs r) : r 17 5 = .ref 21 := h (17, 5, 21) (List.mem_of_getElem? (i := 30) rfl)
theorem rf_17_6 {r : am_R} (h : am_rs r) : r 17 6 = .ref 22 := h (17, 6, 22) (List.mem_of_getElem? (i := 31) rfl)
theorem rf_17_7 {r : am_R} (h : am_rs r) : r 17 7 = .ref 23 := h (17, 7, 23) (List.mem_of_getElem? (i := 32) rfl)
theorem rf_17_8 {r : am_R} (h : am_rs r) : r 17 8 = .ref 24 := h (17, 8, 24) (List.mem_of_getElem? (i := 33) rfl)
theorem rf_25_5 {r : am_R} (h : am_rs r) : r 25 5 = .ref 26 := h (25, 5, 26) (List.mem_of_getElem? (i := 34) rfl)
theorem rf_25_6 {r : am_R} (h : am_rs r) : r 25 6 = .ref 27 := h (25, 6, 27) (List.mem_of_getElem? (i := 35) rfl)
theorem rf_25_7 {r : am_R} (h : am_rs r) : r 25 7 = .ref 28 := h (25, 7, 28) (List.mem_of_getElem? (i := 36) rfl)
theorem rf_25_8 {r : am_R} (h : am_rs r) : r 25 8 = .ref 29 := h (25, 8, 29) (List.mem_of_getElem? (i := 37) rfl)
theorem rf_25_9 {r : am_R} (h : am_rs r) : r 25 9 = .ref 30 := h (25, 9, 30) (List.mem_of_getElem? (i := 38) rfl)
theorem rf_25_10 {r : am_R} (h : am_rs r) : r 25 10 = .ref 31 := h (25, 10, 31) (List.mem_of_getElem? (i := 39) rfl)
theorem rf_25_11 {r : am_R} (h : am_rs r) : r 25 11 = .ref 32 := h (25, 11, 32) (List.mem_of_getElem? (i := 40) rfl)
theorem rf_25_12 {r : am_R} (h : am_rs r) : r 25 12 = .ref 33 := h (25, 12, 33) (List.mem_of_getElem? (i := 41) rfl)
theorem rf_25_13 {r : am_R} (h : am_rs r) : r 25 13 = .ref 34 := h (25, 13, 34) (List.mem_of_getElem? (i := 42) rfl)
theorem rf_25_14 {r : am_R} (h : am_rs r) : r 25 14 = .ref 35 := h (25, 14, 35) (List.mem_of_getElem? (i := 43) rfl)
theorem rf_25_15 {r : am_R} (h : am_rs r) : r 25 15 = .ref 36 := h (25, 15, 36) (List.mem_of_getElem? (i := 44) rfl)
theorem rf_25_16 {r : am_R} (h : am_rs r) : r 25 16 = .ref 37 := h (25, 16, 37) (List.mem_of_getElem? (i := 45) rfl)
theorem rf_25_17 {r : am_R} (h : am_rs r) : r 25 17 = .ref 38 := h (25, 17, 38) (List.mem_of_getElem? (i := 46) rfl)
theorem rf_25_18 {r : am_R} (h : am_rs r) : r 25 18 = .ref 39 := h (25, 18, 39) (List.mem_of_getElem? (i := 47) rfl)
theorem rf_40_0 {r : am_R} (h : am_rs r) : r 40 0 = .ref 4 := h (40, 0, 4) (List.mem_of_getElem? (i := 48) rfl)
theorem rf_40_1 {r : am_R} (h : am_rs r) : r 40 1 = .ref 17 := h (40, 1, 17) (List.mem_of_getElem? (i := 49) rfl)
theorem rf_40_2 {r : am_R} (h : am_rs r) : r 40 2 = .ref 41 := h (40, 2, 41) (List.mem_of_getElem? (i := 50) rfl)
theorem rf_41_5 {r : am_R} (h : am_rs r) : r 41 5 = .ref 42 := h (41, 5, 42) (List.mem_of_getElem? (i := 51) rfl)
theorem rf_41_6 {r : am_R} (h : am_rs r) : r 41 6 = .ref 43 := h (41, 6, 43) (List.mem_of_getElem? (i := 52) rfl)
theorem rf_41_7 {r : am_R} (h : am_rs r) : r 41 7 = .ref 44 := h (41, 7, 44) (List.mem_of_getElem? (i := 53) rfl)
theorem rf_41_8 {r : am_R} (h : am_rs r) : r 41 8 = .ref 45 := h (41, 8, 45) (List.mem_of_getElem? (i := 54) rfl)
theorem rf_41_9 {r : am_R} (h : am_rs r) : r 41 9 = .ref 46 := h (41, 9, 46) (List.mem_of_getElem? (i := 55) rfl)
theorem rf_41_10 {r : am_R} (h : am_rs r) : r 41 10 = .ref 47 := h (41, 10, 47) (List.mem_of_getElem? (i := 56) rfl)
theorem rf_41_11 {r : am_R} (h : am_rs r) : r 41 11 = .ref 48 := h (41, 11, 48) (List.mem_of_getElem? (i := 57) rfl)
theorem rf_41_12 {r : am_R} (h : am_rs r) : r 41 12 = .ref 49 := h (41, 12, 49) (List.mem_of_getElem? (i := 58) rfl)
theorem rf_41_13 {r : am_R} (h : am_rs r) : r 41 13 = .ref 50 := h (41, 13, 50) (List.mem_of_getElem? (i := 59) rfl)
theorem rf_41_14 {r : am_R} (h : am_rs r) : r 41 14 = .ref 51 := h (41, 14, 51) (List.mem_of_getElem? (i := 60) rfl)
theorem rf_41_15 {r : am_R} (h : am_rs r) : r 41 15 = .ref 52 := h (41, 15, 52) (List.mem_of_getElem? (i := 61) rfl)
theorem rf_41_16 {r : am_R} (h : am_rs r) : r 41 16 = .ref 53 := h (41, 16, 53) (List.mem_of_getElem? (i := 62) rfl)
theorem rf_41_17 {r : am_R} (h : am_rs r) : r 41 17 = .ref 54 := h (41, 17, 54) (List.mem_of_getElem? (i := 63) rfl)
theorem rf_41_18 {r : am_R} (h : am_rs r) : r 41 18 = .ref 55 := h (41, 18, 55) (List.mem_of_getElem? (i := 64) rfl)
theorem rf_56_0 {r : am_R} (h : am_rs r) : r 56 0 = .ref 57 := h (56, 0, 57) (List.mem_of_getElem? (i := 65) rfl)
theorem rf_56_1 {r : am_R} (h : am_rs r) : r 56 1 = .ref 70 := h (56, 1, 70) (List.mem_of_getElem? (i := 66) rfl)
theorem rf_56_2 {r : am_R} (h : am_rs r) : r 56 2 = .ref 78 := h (56, 2, 78) (List.mem_of_getElem? (i := 67) rfl)
theorem rf_57_4 {r : am_R} (h : am_rs r) : r 57 4 = .ref 58 := h (57, 4, 58) (List.mem_of_getElem? (i := 68) rfl)
theorem rf_57_5 {r : am_R} (h : am_rs r) : r 57 5 = .ref 59 := h (57, 5, 59) (List.mem_of_getElem? (i := 69) rfl)
theorem rf_57_6 {r : am_R} (h : am_rs r) : r 57 6 = .ref 60 := h (57, 6, 60) (List.mem_of_getElem? (i := 70) rfl)
theorem rf_57_7 {r : am_R} (h : am_rs r) : r 57 7 = .ref 61 := h (57, 7, 61) (List.mem_of_getElem? (i := 71) rfl)
theorem rf_57_8 {r : am_R} (h : am_rs r) : r 57 8 = .ref 62 := h (57, 8, 62) (List.mem_of_getElem? (i := 72) rfl)
theorem rf_57_9 {r : am_R} (h : am_rs r) : r 57 9 = .ref 63 := h (57, 9, 63) (List.mem_of_getElem? (i := 73) rfl)
theorem rf_57_10 {r : am_R} (h : am_rs r) : r 57 10 = .ref 64 := h (57, 10, 64) (List.mem_of_getElem? (i := 74) rfl)
theorem rf_57_11 {r : am_R} (h : am_rs r) : r 57 11 = .ref 65 := h (57, 11, 65) (List.mem_of_getElem? (i := 75) rfl)
theorem rf_57_12 {r : am_R} (h : am_rs r) : r 57 12 = .ref 66 := h (57, 12, 66) (List.mem_of_getElem? (i := 76) rfl)
theorem rf_57_13 {r : am_R} (h : am_rs r) : r 57 13 = .ref 67 := h (57, 13, 67) (List.mem_of_getElem? (i := 77) rfl)
theorem rf_57_14 {r : am_R} (h : am_rs r) : r 57 14 = .ref 68 := h (57, 14, 68) (List.mem_of_getElem? (i := 78) rfl)
theorem rf_57_15 {r : am_R} (h : am_rs r) : r 57 15 = .ref 69 := h (57, 15, 69) (List.mem_of_getElem? (i := 79) rfl)
theorem rf_70_2 {r : am_R} (h : am_rs r) : r 70 2 = .ref 71 := h (70, 2, 71) (List.mem_of_getElem? (i := 80) rfl)
theorem rf_70_3 {r : am_R} (h : am_rs r) : r 70 3 = .ref 72 := h (70, 3, 72) (List.mem_of_getElem? (i := 81) rfl)
theorem rf_70_4 {r : am_R} (h : am_rs r) : r 70 4 = .ref 73 := h (70, 4, 73) (List.mem_of_getElem? (i := 82) rfl)
theorem rf_70_5 {r : am_R} (h : am_rs r) : r 70 5 = .ref 74 := h (70, 5, 74) (List.mem_of_getElem? (i := 83) rfl)
theorem rf_70_6 {r : am_R} (h : am_rs r) : r 70 6 = .ref 75 := h (70, 6, 75) (List.mem_of_getElem? (i := 84) rfl)
theorem rf_70_7 {r : am_R} (h : am_rs r) : r 70 7 = .ref 76 := h (70, 7, 76) (List.mem_of_getElem? (i := 85) rfl)
theorem rf_70_8 {r : am_R} (h : am_rs r) : r 70 8 = .ref 77 := h (70, 8, 77) (List.mem_of_getElem? (i := 86) rfl)
theorem rf_78_5 {r : am_R} (h : am_rs r) : r 78 5 = .ref 79 := h (78, 5, 79) (List.mem_of_getElem? (i := 87) rfl)
theorem rf_78_6 {r : am_R} (h : am_rs r) : r 78 6 = .ref 80 := h (78, 6, 80) (List.mem_of_getElem? (i := 88) rfl)
theorem rf_78_7 {r : am_R} (h : am_rs r) : r 78 7 = .ref 81 := h (78, 7, 81) (List.mem_of_getElem? (i := 89) rfl)
theorem rf_78_8 {r : am_R} (h : am_rs r) : r 78 8 = .ref 82 := h (78, 8, 82) (List.mem_of_getElem? (i := 90) rfl)
theorem rf_78_9 {r : am_R} (h : am_rs r) : r 78 9 = .ref 83 := h (78, 9, 83) (List.mem_of_getElem? (i := 91) rfl)
theorem rf_78_10 {r : am_R} (h : am_rs r) : r 78 10 = .ref 84 := h (78, 10, 84) (List.mem_of_getElem? (i := 92) rfl)
theorem rf_78_11 {r : am_R} (h : am_rs r) : r 78 11 = .ref 85 := h (78, 11, 85) (List.mem_of_getElem? (i := 93) rfl)
theorem rf_78_12 {r : am_R} (h : am_rs r) : r 78 12 = .ref 86 := h (78, 12, 86) (List.mem_of_getElem? (i := 94) rfl)
theorem rf_78_13 {r : am_R} (h : am_rs r) : r 78 13 = .ref 87 := h (78, 13, 87) (List.mem_of_getElem? (i := 95) rfl)
theorem rf_78_14 {r : am_R} (h : am_rs r) : r 78 14 = .ref 88 := h (78, 14, 88) (List.mem_of_getElem? (i := 96) rfl)
theorem rf_78_15 {r : am_R} (h : am_rs r) : r 78 15 = .ref 89 := h (78, 15, 89) (List.mem_of_getElem? (i := 97) rfl)
theorem rf_78_16 {r : am_R} (h : am_rs r) : r 78 16 = .ref 90 := h (78, 16, 90) (List.mem_of_getElem? (i := 98) rfl)
theorem rf_78_17 {r : am_R} (h : am_rs r) : r 78 17 = .ref 91 := h (78, 17, 91) (List.mem_of_getElem? (i := 99) rfl)
theorem rf_78_18 {r : am_R} (h : am_rs r) : r 78 18 = .ref 92 := h (78, 18, 92) (List.mem_of_getElem? (i := 100) rfl)
theorem rf_93_0 {r : am_R} (h : am_rs r) : r 93 0 = .ref 94 := h (93, 0, 94) (List.mem_of_getElem? (i := 101) rfl)
theorem rf_93_1 {r : am_R} (h : am_rs r) : r 93 1 = .ref 107 := h (93, 1, 107) (List.mem_of_getElem? (i := 102) rfl)
theorem rf_93_2 {r : am_R} (h : am_rs r) : r 93 2 = .ref 115 := h (93, 2, 115) (List.mem_of_getElem? (i := 103) rfl)
theorem rf_94_4 {r : am_R} (h : am_rs r) : r 94 4 = .ref 95 := h (94, 4, 95) (List.mem_of_getElem? (i := 104) rfl)
theorem rf_94_5 {r : am_R} (h : am_rs r) : r 94 5 = .ref 96 := h (94, 5, 96) (List.mem_of_getElem? (i := 105) rfl)
theorem rf_94_6 {r : am_R} (h : am_rs r) : r 94 6 = .ref 97 := h (94, 6, 97) (List.mem_of_getElem? (i := 106) rfl)
theorem rf_94_7 {r : am_R} (h : am_rs r) : r 94 7 = .ref 98 := h (94, 7, 98) (List.mem_of_getElem? (i := 107) rfl)
theorem rf_94_8 {r : am_R} (h : am_rs r) : r 94 8 = .ref 99 := h (94, 8, 99) (List.mem_of_getElem? (i := 108) rfl)
theorem rf_94_9 {r : am_R} (h : am_rs r) : r 94 9 = .ref 100 := h (94, 9, 100) (List.mem_of_getElem? (i := 109) rfl)
theorem rf_94_10 {r : am_R} (h : am_rs r) : r 94 10 = .ref 101 := h (94, 10, 101) (List.mem_of_getElem? (i := 110) rfl)
theorem rf_94_11 {r : am_R} (h : am_rs r) : r 94 11 = .ref 102 := h (94, 11, 102) (List.mem_of_getElem? (i := 111) rfl)
theorem rf_94_12 {r : am_R} (h : am_rs r) : r 94 12 = .ref 103 := h (94, 12, 103) (List.mem_of_getElem? (i := 112) rfl)
theorem rf_94_13 {r : am_R} (h : am_rs r) : r 94 13 = .ref 104 := h (94, 13, 104) (List.mem_of_getElem? (i := 113) rfl)
theorem rf_94_14 {r : am_R} (h : am_rs r) : r 94 14 = .ref 105 := h (94, 14, 105) (List.mem_of_getElem? (i := 114) rfl)
theorem rf_94_15 {r : am_R} (h : am_rs r) : r 94 15 = .ref 106 := h (94, 15, 106) (List.mem_of_getElem? (i := 115) rfl)
theorem rf_107_2 {r : am_R} (h : am_rs r) : r 107 2 = .ref 108 := h (107, 2, 108) (List.mem_of_getElem? (i := 116) rfl)
theorem rf_107_3 {r : am_R} (h : am_rs r) : r 107 3 = .ref 109 := h (107, 3, 109) (List.mem_of_getElem? (i := 117) rfl)
theorem rf_107_4 {r : am_R} (h : am_rs r) : r 107 4 = .ref 110 := h (107, 4, 110) (List.mem_of_getElem? (i := 118) rfl)
theorem rf_107_5 {r : am_R} (h : am_rs r) : r 107 5 = .ref 111 := h (107, 5, 111) (List.mem_of_getElem? (i := 119) rfl)
theorem rf_107_6 {r : am_R} (h : am_rs r) : r 107 6 = .ref 112 := h (107, 6, 112) (List.mem_of_getElem? (i := 120) rfl)
theorem rf_107_7 {r : am_R} (h : am_rs r) : r 107 7 = .ref 113 := h (107, 7, 113) (List.mem_of_getElem? (i := 121) rfl)
theorem rf_107_8 {r : am_R} (h : am_rs r) : r 107 8 = .ref 114 := h (107, 8, 114) (List.mem_of_getElem? (i := 122) rfl)
theorem rf_115_5 {r : am_R} (h : am_rs r) : r 115 5 = .ref 116 := h (115, 5, 116) (List.mem_of_getElem? (i := 123) rfl)
theorem rf_115_6 {r : am_R} (h : am_rs r) : r 115 6 = .ref 117 := h (115, 6, 117) (List.mem_of_getElem? (i := 124) rfl)
theorem rf_115_7 {r : am_R} (h : am_rs r) : r 115 7 = .ref 118 := h (115, 7, 118) (List.mem_of_getElem? (i := 125) rfl)
theorem rf_115_8 {r : am_R} (h : am_rs r) : r 115 8 = .ref 119 := h (115, 8, 119) (List.mem_of_getElem? (i := 126) rfl)
theorem rf_115_9 {r : am_R} (h : am_rs r) : r 115 9 = .ref 120 := h (115, 9, 120) (List.mem_of_getElem? (i := 127) rfl)
theorem rf_115_10 {r : am_R} (h : am_rs r) : r 115 10 = .ref 121 := h (115, 10, 121) (List.mem_of_getElem? (i := 128) rfl)
theorem rf_115_11 {r : am_R} (h : am_rs r) : r 115 11 = .ref 122 := h (115, 11, 122) (List.mem_of_getElem? (i := 129) rfl)
theorem rf_115_12 {r : am_R} (h : am_rs r) : r 115 12 = .ref 123 := h (115, 12, 123) (List.mem_of_getElem? (i := 130) rfl)
theorem rf_115_13 {r : am_R} (h : am_rs r) : r 115 13 = .ref 124 := h (115, 13, 124) (List.mem_of_getElem? (i := 131) rfl)
theorem rf_115_14 {r : am_R} (h : am_rs r) : r 115 14 = .ref 125 := h (115, 14, 125) (List.mem_of_getElem? (i := 132) rfl)
theorem rf_115_15 {r : am_R} (h : am_rs r) : r 115 15 = .ref 126 := h (115, 15, 126) (List.mem_of_getElem? (i := 133) rfl)
theorem rf_115_16 {r : am_R} (h : am_rs r) : r 115 16 = .ref 127 := h (115, 16, 127) (List.mem_of_getElem? (i := 134) rfl)
theorem rf_115_17 {r : am_R} (h : am_rs r) : r 115 17 = .ref 128 := h (115, 17, 128) (List.mem_of_getElem? (i := 135) rfl)
theorem rf_115_18 {r : am_R} (h : am_rs r) : r 115 18 = .ref 129 := h (115, 18, 129) (List.mem_of_getElem? (i := 136) rfl)
theorem rf_130_0 {r : am_R} (h : am_rs r) : r 130 0 = .ref 1 := h (130, 0, 1) (List.mem_of_getElem? (i := 137) rfl)
theorem rf_130_1 {r : am_R} (h : am_rs r) : r 130 1 = .ref 56 := h (130, 1, 56) (List.mem_of_getElem? (i := 138) rfl)
theorem rf_130_2 {r : am_R} (h : am_rs r) : r 130 2 = .ref 57 := h (130, 2, 57) (List.mem_of_getElem? (i := 139) rfl)
theorem rf_131_0 {r : am_R} (h : am_rs r) : r 131 0 = .ref 1 := h (131, 0, 1) (List.mem_of_getElem? (i := 140) rfl)
theorem rf_131_1 {r : am_R} (h : am_rs r) : r 131 1 = .ref 70 := h (131, 1, 70) (List.mem_of_getElem? (i := 141) rfl)
theorem rf_132_0 {r : am_R} (h : am_rs r) : r 132 0 = .ref 133 := h (132, 0, 133) (List.mem_of_getElem? (i := 142) rfl)
theorem rf_134_5 {r : am_R} (h : am_rs r) : r 134 5 = .ref 135 := h (134, 5, 135) (List.mem_of_getElem? (i := 143) rfl)
theorem rf_134_6 {r : am_R} (h : am_rs r) : r 134 6 = .ref 136 := h (134, 6, 136) (List.mem_of_getElem? (i := 144) rfl)
theorem rf_134_7 {r : am_R} (h : am_rs r) : r 134 7 = .ref 137 := h (134, 7, 137) (List.mem_of_getElem? (i := 145) rfl)
theorem rf_134_8 {r : am_R} (h : am_rs r) : r 134 8 = .ref 138 := h (134, 8, 138) (List.mem_of_getElem? (i := 146) rfl)
theorem rf_134_9 {r : am_R} (h : am_rs r) : r 134 9 = .ref 139 := h (134, 9, 139) (List.mem_of_getElem? (i := 147) rfl)
theorem rf_134_10 {r : am_R} (h : am_rs r) : r 134 10 = .ref 140 := h (134, 10, 140) (List.mem_of_getElem? (i := 148) rfl)
theorem rf_134_11 {r : am_R} (h : am_rs r) : r 134 11 = .ref 141 := h (134, 11, 141) (List.mem_of_getElem? (i := 149) rfl)
theorem rf_134_12 {r : am_R} (h : am_rs r) : r 134 12 = .ref 142 := h (134, 12, 142) (List.mem_of_getElem? (i := 150) rfl)
theorem rf_134_13 {r : am_R} (h : am_rs r) : r 134 13 = .ref 143 := h (134, 13, 143) (List.mem_of_getElem? (i := 151) rfl)
theorem rf_134_14 {r : am_R} (h : am_rs r) : r 134 14 = .ref 144 := h (134, 14, 144) (List.mem_of_getElem? (i := 152) rfl)
theorem rf_134_15 {r : am_R} (h : am_rs r) : r 134 15 = .ref 145 := h (134, 15, 145) (List.mem_of_getElem? (i := 153) rfl)
theorem rf_134_16 {r : am_R} (h : am_rs r) : r 134 16 = .ref 146 := h (134, 16, 146) (List.mem_of_getElem? (i := 154) rfl)
theorem rf_134_17 {r : am_R} (h : am_rs r) : r 134 17 = .ref 147 := h (134, 17, 147) (List.mem_of_getElem? (i := 155) rfl)
theorem rf_134_18 {r : am_R} (h : am_rs r) : r 134 18 = .ref 148 := h (134, 18, 148) (List.mem_of_getElem? (i := 156) rfl)
theorem rf_149_5 {r : am_R} (h : am_rs r) : r 149 5 = .ref 150 := h (149, 5, 150) (List.mem_of_getElem? (i := 157) rfl)
theorem rf_149_6 {r : am_R} (h : am_rs r) : r 149 6 = .ref 151 := h (149, 6, 151) (List.mem_of_getElem? (i := 158) rfl)
theorem rf_149_7 {r : am_R} (h : am_rs r) : r 149 7 = .ref 152 := h (149, 7, 152) (List.mem_of_getElem? (i := 159) rfl)
theorem rf_149_8 {r : am_R} (h : am_rs r) : r 149 8 = .ref 153 := h (149, 8, 153) (List.mem_of_getElem? (i := 160) rfl)
theorem rf_149_9 {r : am_R} (h : am_rs r) : r 149 9 = .ref 154 := h (149, 9, 154) (List.mem_of_getElem? (i := 161) rfl)
theorem rf_149_10 {r : am_R} (h : am_rs r) : r 149 10 = .ref 155 := h (149, 10, 155) (List.mem_of_getElem? (i := 162) rfl)
theorem rf_149_11 {r : am_R} (h : am_rs r) : r 149 11 = .ref 156 := h (149, 11, 156) (List.mem_of_getElem? (i := 163) rfl)
theorem rf_149_12 {r : am_R} (h : am_rs r) : r 149 12 = .ref 157 := h (149, 12, 157) (List.mem_of_getElem? (i := 164) rfl)
theorem rf_149_13 {r : am_R} (h : am_rs r) : r 149 13 = .ref 158 := h (149, 13, 158) (List.mem_of_getElem? (i := 165) rfl)
theorem rf_149_14 {r : am_R} (h : am_rs r) : r 149 14 = .ref 159 := h (149, 14, 159) (List.mem_of_getElem? (i := 166) rfl)
theorem rf_149_15 {r : am_R} (h : am_rs r) : r 149 15 = .ref 160 := h (149, 15, 160) (List.mem_of_getElem? (i := 167) rfl)
theorem rf_149_16 {r : am_R} (h : am_rs r) : r 149 16 = .ref 161 := h (149, 16, 161) (List.mem_of_getElem? (i := 168) rfl)
theorem rf_149_17 {r : am_R} (h : am_rs r) : r 149 17 = .ref 162 := h (149, 17, 162) (List.mem_of_getElem? (i := 169) rfl)
theorem rf_149_18 {r : am_R} (h : am_rs r) : r 149 18 = .ref 163 := h (149, 18, 163) (List.mem_of_getElem? (i := 170) rfl)
theorem rf_164_5 {r : am_R} (h : am_rs r) : r 164 5 = .ref 165 := h (164, 5, 165) (List.mem_of_getElem? (i := 171) rfl)
theorem rf_164_6 {r : am_R} (h : am_rs r) : r 164 6 = .ref 166 := h (164, 6, 166) (List.mem_of_getElem? (i := 172) rfl)
theorem rf_164_7 {r : am_R} (h : am_rs r) : r 164 7 = .ref 167 := h (164, 7, 167) (List.mem_of_getElem? (i := 173) rfl)
theorem rf_164_8 {r : am_R} (h : am_rs r) : r 164 8 = .ref 168 := h (164, 8, 168) (List.mem_of_getElem? (i := 174) rfl)
theorem rf_164_9 {r : am_R} (h : am_rs r) : r 164 9 = .ref 169 := h (164, 9, 169) (List.mem_of_getElem? (i := 175) rfl)
theorem rf_164_10 {r : am_R} (h : am_rs r) : r 164 10 = .ref 170 := h (164, 10, 170) (List.mem_of_getElem? (i := 176) rfl)
theorem rf_164_11 {r : am_R} (h : am_rs r) : r 164 11 = .ref 171 := h (164, 11, 171) (List.mem_of_getElem? (i := 177) rfl)
theorem rf_164_12 {r : am_R} (h : am_rs r) : r 164 12 = .ref 172 := h (164, 12, 172) (List.mem_of_getElem? (i := 178) rfl)
theorem rf_164_13 {r : am_R} (h : am_rs r) : r 164 13 = .ref 173 := h (164, 13, 173) (List.mem_of_getElem? (i := 179) rfl)
theorem rf_164_14 {r : am_R} (h : am_rs r) : r 164 14 = .ref 174 := h (164, 14, 174) (List.mem_of_getElem? (i := 180) rfl)
theorem rf_164_15 {r : am_R} (h : am_rs r) : r 164 15 = .ref 175 := h (164, 15, 175) (List.mem_of_getElem? (i := 181) rfl)
theorem rf_164_16 {r : am_R} (h : am_rs r) : r 164 16 = .ref 176 := h (164, 16, 176) (List.mem_of_getElem? (i := 182) rfl)
theorem rf_164_17 {r : am_R} (h : am_rs r) : r 164 17 = .ref 177 := h (164, 17, 177) (List.mem_of_getElem? (i := 183) rfl)
theorem rf_164_18 {r : am_R} (h : am_rs r) : r 164 18 = .ref 178 := h (164, 18, 178) (List.mem_of_getElem? (i := 184) rfl)
theorem rf_179_5 {r : am_R} (h : am_rs r) : r 179 5 = .ref 180 := h (179, 5, 180) (List.mem_of_getElem? (i := 185) rfl)
theorem rf_179_6 {r : am_R} (h : am_rs r) : r 179 6 = .ref 181 := h (179, 6, 181) (List.mem_of_getElem? (i := 186) rfl)
theorem rf_179_7 {r : am_R} (h : am_rs r) : r 179 7 = .ref 182 := h (179, 7, 182) (List.mem_of_getElem? (i := 187) rfl)
theorem rf_179_8 {r : am_R} (h : am_rs r) : r 179 8 = .ref 183 := h (179, 8, 183) (List.mem_of_getElem? (i := 188) rfl)
theorem rf_179_9 {r : am_R} (h : am_rs r) : r 179 9 = .ref 184 := h (179, 9, 184) (List.mem_of_getElem? (i := 189) rfl)
theorem rf_179_10 {r : am_R} (h : am_rs r) : r 179 10 = .ref 185 := h (179, 10, 185) (List.mem_of_getElem? (i := 190) rfl)
theorem rf_179_11 {r : am_R} (h : am_rs r) : r 179 11 = .ref 186 := h (179, 11, 186) (List.mem_of_getElem? (i := 191) rfl)
theorem rf_179_12 {r : am_R} (h : am_rs r) : r 179 12 = .ref 187 := h (179, 12, 187) (List.mem_of_getElem? (i := 192) rfl)
theorem rf_179_13 {r : am_R} (h : am_rs r) : r 179 13 = .ref 188 := h (179, 13, 188) (List.mem_of_getElem? (i := 193) rfl)
theorem rf_179_14 {r : am_R} (h : am_rs r) : r 179 14 = .ref 189 := h (179, 14, 189) (List.mem_of_getElem? (i := 194) rfl)
theorem rf_179_15 {r : am_R} (h : am_rs r) : r 179 15 = .ref 190 := h (179, 15, 190) (List.mem_of_getElem? (i := 195) rfl)
theorem rf_179_16 {r : am_R} (h : am_rs r) : r 179 16 = .ref 191 := h (179, 16, 191) (List.mem_of_getElem? (i := 196) rfl)
theorem rf_179_17 {r : am_R} (h : am_rs r) : r 179 17 = .ref 192 := h (179, 17, 192) (List.mem_of_getElem? (i := 197) rfl)
theorem rf_179_18 {r : am_R} (h : am_rs r) : r 179 18 = .ref 193 := h (179, 18, 193) (List.mem_of_getElem? (i := 198) rfl)
theorem rf_194_5 {r : am_R} (h : am_rs r) : r 194 5 = .ref 195 := h (194, 5, 195) (List.mem_of_getElem? (i := 199) rfl)
theorem rf_194_6 {r : am_R} (h : am_rs r) : r 194 6 = .ref 196 := h (194, 6, 196) (List.mem_of_getElem? (i := 200) rfl)
theorem rf_194_7 {r : am_R} (h : am_rs r) : r 194 7 = .ref 197 := h (194, 7, 197) (List.mem_of_getElem? (i := 201) rfl)
theorem rf_194_8 {r : am_R} (h : am_rs r) : r 194 8 = .ref 198 := h (194, 8, 198) (List.mem_of_getElem? (i := 202) rfl)
theorem rf_194_9 {r : am_R} (h : am_rs r) : r 194 9 = .ref 199 := h (194, 9, 199) (List.mem_of_getElem? (i := 203) rfl)
theorem rf_194_10 {r : am_R} (h : am_rs r) : r 194 10 = .ref 200 := h (194, 10, 200) (List.mem_of_getElem? (i := 204) rfl)
theorem rf_194_11 {r : am_R} (h : am_rs r) : r 194 11 = .ref 201 := h (194, 11, 201) (List.mem_of_getElem? (i := 205) rfl)
theorem rf_194_12 {r : am_R} (h : am_rs r) : r 194 12 = .ref 202 := h (194, 12, 202) (List.mem_of_getElem? (i := 206) rfl)
theorem rf_194_13 {r : am_R} (h : am_rs r) : r 194 13 = .ref 203 := h (194, 13, 203) (List.mem_of_getElem? (i := 207) rfl)
theorem rf_194_14 {r : am_R} (h : am_rs r) : r 194 14 = .ref 204 := h (194, 14, 204) (List.mem_of_getElem? (i := 208) rfl)
theorem rf_194_15 {r : am_R} (h : am_rs r) : r 194 15 = .ref 205 := h (194, 15, 205) (List.mem_of_getElem? (i := 209) rfl)
theorem rf_194_16 {r : am_R} (h : am_rs r) : r 194 16 = .ref 206 := h (194, 16, 206) (List.mem_of_getElem? (i := 210) rfl)
theorem rf_194_17 {r : am_R} (h : am_rs r) : r 194 17 = .ref 207 := h (194, 17, 207) (List.mem_of_getElem? (i := 211) rfl)
theorem rf_194_18 {r : am_R} (h : am_rs r) : r 194 18 = .ref 208 := h (194, 18, 208) (List.mem_of_getElem? (i := 212) rfl)
theorem rf_209_5 {r : am_R} (h : am_rs r) : r 209 5 = .ref 210 := h (209, 5, 210) (List.mem_of_getElem? (i := 213) rfl)
theorem rf_209_6 {r : am_R} (h : am_rs r) : r 209 6 = .ref 211 := h (209, 6, 211) (List.mem_of_getElem? (i := 214) rfl)
theorem rf_209_7 {r : am_R} (h : am_rs r) : r 209 7 = .ref 212 := h (209, 7, 212) (List.mem_of_getElem? (i := 215) rfl)
theorem rf_209_8 {r : am_R} (h : am_rs r) : r 209 8 = .ref 213 := h (209, 8, 213) (List.mem_of_getElem? (i := 216) rfl)
theorem rf_209_9 {r : am_R} (h : am_rs r) : r 209 9 = .ref 214 := h (209, 9, 214) (List.mem_of_getElem? (i := 217) rfl)
theorem rf_209_10 {r : am_R} (h : am_rs r) : r 209 10 = .ref 215 := h (209, 10, 215) (List.mem_of_getElem? (i := 218) rfl)
theorem rf_209_11 {r : am_R} (h : am_rs r) : r 209 11 = .ref 216 := h (209, 11, 216) (List.mem_of_getElem? (i := 219) rfl)
theorem rf_209_12 {r : am_R} (h : am_rs r) : r 209 12 = .ref 217 := h (209, 12, 217) (List.mem_of_getElem? (i := 220) rfl)
theorem rf_209_13 {r : am_R} (h : am_rs r) : r 209 13 = .ref 218 := h (209, 13, 218) (List.mem_of_getElem? (i := 221) rfl)
theorem rf_209_14 {r : am_R} (h : am_rs r) : r 209 14 = .ref 219 := h (209, 14, 219) (List.mem_of_getElem? (i := 222) rfl)
theorem rf_209_15 {r : am_R} (h : am_rs r) : r 209 15 = .ref 220 := h (209, 15, 220) (List.mem_of_getElem? (i := 223) rfl)
theorem rf_209_16 {r : am_R} (h : am_rs r) : r 209 16 = .ref 221 := h (209, 16, 221) (List.mem_of_getElem? (i := 224) rfl)
theorem rf_209_17 {r : am_R} (h : am_rs r) : r 209 17 = .ref 222 := h (209, 17, 222) (List.mem_of_getElem? (i := 225) rfl)
theorem rf_209_18 {r : am_R} (h : am_rs r) : r 209 18 = .ref 223 := h (209, 18, 223) (List.mem_of_getElem? (i := 226) rfl)
theorem rf_224_5 {r : am_R} (h : am_rs r) : r 224 5 = .ref 225 := h (224, 5, 225) (List.mem_of_getElem? (i := 227) rfl)
theorem rf_224_6 {r : am_R} (h : am_rs r) : r 224 6 = .ref 226 := h (224, 6, 226) (List.mem_of_getElem? (i := 228) rfl)
theorem rf_224_7 {r : am_R} (h : am_rs r) : r 224 7 = .ref 227 := h (224, 7, 227) (List.mem_of_getElem? (i := 229) rfl)
theorem rf_224_8 {r : am_R} (h : am_rs r) : r 224 8 = .ref 228 := h (224, 8, 228) (List.mem_of_getElem? (i := 230) rfl)
theorem rf_224_9 {r : am_R} (h : am_rs r) : r 224 9 = .ref 229 := h (224, 9, 229) (List.mem_of_getElem? (i := 231) rfl)
theorem rf_224_10 {r : am_R} (h : am_rs r) : r 224 10 = .ref 230 := h (224, 10, 230) (List.mem_of_getElem? (i := 232) rfl)
theorem rf_224_11 {r : am_R} (h : am_rs r) : r 224 11 = .ref 231 := h (224, 11, 231) (List.mem_of_getElem? (i := 233) rfl)
theorem rf_224_12 {r : am_R} (h : am_rs r) : r 224 12 = .ref 232 := h (224, 12, 232) (List.mem_of_getElem? (i := 234) rfl)
theorem rf_224_13 {r : am_R} (h : am_rs r) : r 224 13 = .ref 233 := h (224, 13, 233) (List.mem_of_getElem? (i := 235) rfl)
theorem rf_224_14 {r : am_R} (h : am_rs r) : r 224 14 = .ref 234 := h (224, 14, 234) (List.mem_of_getElem? (i := 236) rfl)
theorem rf_224_15 {r : am_R} (h : am_rs r) : r 224 15 = .ref 235 := h (224, 15, 235) (List.mem_of_getElem? (i := 237) rfl)
theorem rf_224_16 {r : am_R} (h : am_rs r) : r 224 16 = .ref 236 := h (224, 16, 236) (List.mem_of_getElem? (i := 238) rfl)
theorem rf_224_17 {r : am_R} (h : am_rs r) : r 224 17 = .ref 237 := h (224, 17, 237) (List.mem_of_getElem? (i := 239) rfl)
theorem rf_224_18 {r : am_R} (h : am_rs r) : r 224 18 = .ref 238 := h (224, 18, 238) (List.mem_of_getElem? (i := 240) rfl)
theorem rf_239_5 {r : am_R} (h : am_rs r) : r 239 5 = .ref 240 := h (239, 5, 240) (List.mem_of_getElem? (i := 241) rfl)
theorem rf_239_6 {r : am_R} (h : am_rs r) : r 239 6 = .ref 241 := h (239, 6, 241) (List.mem_of_getElem? (i := 242) rfl)
theorem rf_239_7 {r : am_R} (h : am_rs r) : r 239 7 = .ref 242 := h (239, 7, 242) (List.mem_of_getElem? (i := 243) rfl)
theorem rf_239_8 {r : am_R} (h : am_rs r) : r 239 8 = .ref 243 := h (239, 8, 243) (List.mem_of_getElem? (i := 244) rfl)
theorem rf_239_9 {r : am_R} (h : am_rs r) : r 239 9 = .ref 244 := h (239, 9, 244) (List.mem_of_getElem? (i := 245) rfl)
theorem rf_239_10 {r : am_R} (h : am_rs r) : r 239 10 = .ref 245 := h (239, 10, 245) (List.mem_of_getElem? (i := 246) rfl)
theorem rf_239_11 {r : am_R} (h : am_rs r) : r 239 11 = .ref 246 := h (239, 11, 246) (List.mem_of_getElem? (i := 247) rfl)
theorem rf_239_12 {r : am_R} (h : am_rs r) : r 239 12 = .ref 247 := h (239, 12, 247) (List.mem_of_getElem? (i := 248) rfl)
theorem rf_239_13 {r : am_R} (h : am_rs r) : r 239 13 = .ref 248 := h (239, 13, 248) (List.mem_of_getElem? (i := 249) rfl)
theorem rf_239_14 {r : am_R} (h : am_rs r) : r 239 14 = .ref 249 := h (239, 14, 249) (List.mem_of_getElem? (i := 250) rfl)
theorem rf_239_15 {r : am_R} (h : am_rs r) : r 239 15 = .ref 250 := h (239, 15, 250) (List.mem_of_getElem? (i := 251) rfl)
theorem rf_239_16 {r : am_R} (h : am_rs r) : r 239 16 = .ref 251 := h (239, 16, 251) (List.mem_of_getElem? (i := 252) rfl)
theorem rf_239_17 {r : am_R} (h : am_rs r) : r 239 17 = .ref 252 := h (239, 17, 252) (List.mem_of_getElem? (i := 253) rfl)
theorem rf_239_18 {r : am_R} (h : am_rs r) : r 239 18 = .ref 253 := h (239, 18, 253) (List.mem_of_getElem? (i := 254) rfl)
theorem rf_254_5 {r : am_R} (h : am_rs r) : r 254 5 = .ref 255 := h (254, 5, 255) (List.mem_of_getElem? (i := 255) rfl)
theorem rf_254_6 {r : am_R} (h : am_rs r) : r 254 6 = .ref 256 := h (254, 6, 256) (List.mem_of_getElem? (i := 256) rfl)
theorem rf_254_7 {r : am_R} (h : am_rs r) : r 254 7 = .ref 257 := h (254, 7, 257) (List.mem_of_getElem? (i := 257) rfl)
theorem rf_254_8 {r : am_R} (h : am_rs r) : r 254 8 = .ref 258 := h (254, 8, 258) (List.mem_of_getElem? (i := 258) rfl)
theorem rf_254_9 {r : am_R} (h : am_rs r) : r 254 9 = .ref 259 := h (254, 9, 259) (List.mem_of_getElem? (i := 259) rfl)
theorem rf_254_10 {r : am_R} (h : am_rs r) : r 254 10 = .ref 260 := h (254, 10, 260) (List.mem_of_getElem? (i := 260) rfl)
theorem rf_254_11 {r : am_R} (h : am_rs r) : r 254 11 = .ref 261 := h (254, 11, 261) (List.mem_of_getElem? (i := 261) rfl)
theorem rf_254_12 {r : am_R} (h : am_rs r) : r 254 12 = .ref 262 := h (254, 12, 262) (List.mem_of_getElem? (i := 262) rfl)
theorem rf_254_13 {r : am_R} (h : am_rs r) : r 254 13 = .ref 263 := h (254, 13, 263) (List.mem_of_getElem? (i := 263) rfl)
theorem rf_254_14 {r : am_R} (h : am_rs r) : r 254 14 = .ref 264 := h (254, 14, 264) (List.mem_of_getElem? (i := 264) rfl)
theorem rf_254_15 {r : am_R} (h : am_rs r) : r 254 15 = .ref 265 := h (254, 15, 265) (List.mem_of_getElem? (i := 265) rfl)
theorem rf_254_16 {r : am_R} (h : am_rs r) : r 254 16 = .ref 266 := h (254, 16, 266) (List.mem_of_getElem? (i := 266) rfl)
theorem rf_254_17 {r : am_R} (h : am_rs r) : r 254 17 = .ref 267 := h (254, 17, 267) (List.mem_of_getElem? (i := 267) rfl)
theorem rf_254_18 {r : am_R} (h : am_rs r) : r 254 18 = .ref 268 := h (254, 18, 268) (List.mem_of_getElem? (i := 268) rfl)
theorem rf_269_5 {r : am_R} (h : am_rs r) : r 269 5 = .ref 270 := h (269, 5, 270) (List.mem_of_getElem? (i := 269) rfl)
theorem rf_269_6 {r : am_R} (h : am_rs r) : r 269 6 = .ref 271 := h (269, 6, 271) (List.mem_of_getElem? (i := 270) rfl)
theorem rf_269_7 {r : am_R} (h : am_rs r) : r 269 7 = .ref 272 := h (269, 7, 272) (List.mem_of_getElem? (i := 271) rfl)
theorem rf_269_8 {r : am_R} (h : am_rs r) : r 269 8 = .ref 273 := h (269, 8, 273) (List.mem_of_getElem? (i := 272) rfl)
theorem rf_269_9 {r : am_R} (h : am_rs r) : r 269 9 = .ref 274 := h (269, 9, 274) (List.mem_of_getElem? (i := 273) rfl)
theorem rf_269_10 {r : am_R} (h : am_rs r) : r 269 10 = .ref 275 := h (269, 10, 275) (List.mem_of_getElem? (i := 274) rfl)
theorem rf_269_11 {r : am_R} (h : am_rs r) : r 269 11 = .ref 276 := h (269, 11, 276) (List.mem_of_getElem? (i := 275) rfl)
theorem rf_269_12 {r : am_R} (h : am_rs r) : r 269 12 = .ref 277 := h (269, 12, 277) (List.mem_of_getElem? (i := 276) rfl)
theorem rf_269_13 {r : am_R} (h : am_rs r) : r 269 13 = .ref 278 := h (269, 13, 278) (List.mem_of_getElem? (i := 277) rfl)
theorem rf_269_14 {r : am_R} (h : am_rs r) : r 269 14 = .ref 279 := h (269, 14, 279) (List.mem_of_getElem? (i := 278) rfl)
theorem rf_269_15 {r : am_R} (h : am_rs r) : r 269 15 = .ref 280 := h (269, 15, 280) (List.mem_of_getElem? (i := 279) rfl)
theorem rf_269_16 {r : am_R} (h : am_rs r) : r 269 16 = .ref 281 := h (269, 16, 281) (List.mem_of_getElem? (i := 280) rfl)
theorem rf_269_17 {r : am_R} (h : am_rs r) : r 269 17 = .ref 282 := h (269, 17, 282) (List.mem_of_getElem? (i := 281) rfl)
theorem rf_269_18 {r : am_R} (h : am_rs r) : r 269 18 = .ref 283 := h (269, 18, 283) (List.mem_of_getElem? (i := 282) rfl)
theorem rf_284_5 {r : am_R} (h : am_rs r) : r 284 5 = .ref 285 := h (284, 5, 285) (List.mem_of_getElem? (i := 283) rfl)
theorem rf_284_6 {r : am_R} (h : am_rs r) : r 284 6 = .ref 286 := h (284, 6, 286) (List.mem_of_getElem? (i := 284) rfl)
theorem rf_284_7 {r : am_R} (h : am_rs r) : r 284 7 = .ref 287 := h (284, 7, 287) (List.mem_of_getElem? (i := 285) rfl)
theorem rf_284_8 {r : am_R} (h : am_rs r) : r 284 8 = .ref 288 := h (284, 8, 288) (List.mem_of_getElem? (i := 286) rfl)
theorem rf_284_9 {r : am_R} (h : am_rs r) : r 284 9 = .ref 289 := h (284, 9, 289) (List.mem_of_getElem? (i := 287) rfl)
theorem rf_284_10 {r : am_R} (h : am_rs r) : r 284 10 = .ref 290 := h (284, 10, 290) (List.mem_of_getElem? (i := 288) rfl)
theorem rf_284_11 {r : am_R} (h : am_rs r) : r 284 11 = .ref 291 := h (284, 11, 291) (List.mem_of_getElem? (i := 289) rfl)
theorem rf_284_12 {r : am_R} (h : am_rs r) : r 284 12 = .ref 292 := h (284, 12, 292) (List.mem_of_getElem? (i := 290) rfl)
theorem rf_284_13 {r : am_R} (h : am_rs r) : r 284 13 = .ref 293 := h (284, 13, 293) (List.mem_of_getElem? (i := 291) rfl)
theorem rf_284_14 {r : am_R} (h : am_rs r) : r 284 14 = .ref 294 := h (284, 14, 294) (List.mem_of_getElem? (i := 292) rfl)
theorem rf_284_15 {r : am_R} (h : am_rs r) : r 284 15 = .ref 295 := h (284, 15, 295) (List.mem_of_getElem? (i := 293) rfl)
theorem rf_284_16 {r : am_R} (h : am_rs r) : r 284 16 = .ref 296 := h (284, 16, 296) (List.mem_of_getElem? (i := 294) rfl)
theorem rf_284_17 {r : am_R} (h : am_rs r) : r 284 17 = .ref 297 := h (284, 17, 297) (List.mem_of_getElem? (i := 295) rfl)
theorem rf_284_18 {r : am_R} (h : am_rs r) : r 284 18 = .ref 298 := h (284, 18, 298) (List.mem_of_getElem? (i := 296) rfl)
theorem rf_299_5 {r : am_R} (h : am_rs r) : r 299 5 = .ref 300 := h (299, 5, 300) (List.mem_of_getElem? (i := 297) rfl)
theorem rf_299_6 {r : am_R} (h : am_rs r) : r 299 6 = .ref 301 := h (299, 6, 301) (List.mem_of_getElem? (i := 298) rfl)
theorem rf_299_7 {r : am_R} (h : am_rs r) : r 299 7 = .ref 302 := h (299, 7, 302) (List.mem_of_getElem? (i := 299) rfl)
theorem rf_299_8 {r : am_R} (h : am_rs r) : r 299 8 = .ref 303 := h (299, 8, 303) (List.mem_of_getElem? (i := 300) rfl)
theorem rf_299_9 {r : am_R} (h : am_rs r) : r 299 9 = .ref 304 := h (299, 9, 304) (List.mem_of_getElem? (i := 301) rfl)
theorem rf_299_10 {r : am_R} (h : am_rs r) : r 299 10 = .ref 305 := h (299, 10, 305) (List.mem_of_getElem? (i := 302) rfl)
theorem rf_299_11 {r : am_R} (h : am_rs r) : r 299 11 = .ref 306 := h (299, 11, 306) (List.mem_of_getElem? (i := 303) rfl)
theorem rf_299_12 {r : am_R} (h : am_rs r) : r 299 12 = .ref 307 := h (299, 12, 307) (List.mem_of_getElem? (i := 304) rfl)
theorem rf_299_13 {r : am_R} (h : am_rs r) : r 299 13 = .ref 308 := h (299, 13, 308) (List.mem_of_getElem? (i := 305) rfl)
theorem rf_299_14 {r : am_R} (h : am_rs r) : r 299 14 = .ref 309 := h (299, 14, 309) (List.mem_of_getElem? (i := 306) rfl)
theorem rf_299_15 {r : am_R} (h : am_rs r) : r 299 15 = .ref 310 := h (299, 15, 310) (List.mem_of_getElem? (i := 307) rfl)
theorem rf_299_16 {r : am_R} (h : am_rs r) : r 299 16 = .ref 311 := h (299, 16, 311) (List.mem_of_getElem? (i := 308) rfl)
theorem rf_299_17 {r : am_R} (h : am_rs r) : r 299 17 = .ref 312 := h (299, 17, 312) (List.mem_of_getElem? (i := 309) rfl)
theorem rf_299_18 {r : am_R} (h : am_rs r) : r 299 18 = .ref 313 := h (299, 18, 313) (List.mem_of_getElem? (i := 310) rfl)
theorem rf_314_0 {r : am_R} (h : am_rs r) : r 314 0 = .ref 3 := h (314, 0, 3) (List.mem_of_getElem? (i := 311) rfl)
theorem rf_314_1 {r : am_R} (h : am_rs r) : r 314 1 = .ref 4 := h (314, 1, 4) (List.mem_of_getElem? (i := 312) rfl)
theorem rf_314_2 {r : am_R} (h : am_rs r) : r 314 2 = .ref 25 := h (314, 2, 25) (List.mem_of_getElem? (i := 313) rfl)
theorem rf_314_3 {r : am_R} (h : am_rs r) : r 314 3 = .ref 315 := h (314, 3, 315) (List.mem_of_getElem? (i := 314) rfl)
theorem rf_316_0 {r : am_R} (h : am_rs r) : r 316 0 = .ref 3 := h (316, 0, 3) (List.mem_of_getElem? (i := 315) rfl)
theorem rf_316_1 {r : am_R} (h : am_rs r) : r 316 1 = .ref 317 := h (316, 1, 317) (List.mem_of_getElem? (i := 316) rfl)
theorem rf_318_0 {r : am_R} (h : am_rs r) : r 318 0 = .ref 3 := h (318, 0, 3) (List.mem_of_getElem? (i := 317) rfl)
theorem rf_318_1 {r : am_R} (h : am_rs r) : r 318 1 = .ref 319 := h (318, 1, 319) (List.mem_of_getElem? (i := 318) rfl)
theorem rf_318_2 {r : am_R} (h : am_rs r) : r 318 2 = .ref 320 := h (318, 2, 320) (List.mem_of_getElem? (i := 319) rfl)
theorem rf_318_3 {r : am_R} (h : am_rs r) : r 318 3 = .ref 321 := h (318, 3, 321) (List.mem_of_getElem? (i := 320) rfl)
theorem rf_322_1 {r : am_R} (h : am_rs r) : r 322 1 = .ref 323 := h (322, 1, 323) (List.mem_of_getElem? (i := 321) rfl)
theorem rf_322_2 {r : am_R} (h : am_rs r) : r 322 2 = .ref 324 := h (322, 2, 324) (List.mem_of_getElem? (i := 322) rfl)
theorem rf_322_3 {r : am_R} (h : am_rs r) : r 322 3 = .ref 325 := h (322, 3, 325) (List.mem_of_getElem? (i := 323) rfl)
theorem rf_322_4 {r : am_R} (h : am_rs r) : r 322 4 = .ref 326 := h (322, 4, 326) (List.mem_of_getElem? (i := 324) rfl)
theorem rf_322_5 {r : am_R} (h : am_rs r) : r 322 5 = .ref 327 := h (322, 5, 327) (List.mem_of_getElem? (i := 325) rfl)
theorem rf_322_8 {r : am_R} (h : am_rs r) : r 322 8 = .ref 328 := h (322, 8, 328) (List.mem_of_getElem? (i := 326) rfl)
theorem rf_322_15 {r : am_R} (h : am_rs r) : r 322 15 = .ref 329 := h (322, 15, 329) (List.mem_of_getElem? (i := 327) rfl)
theorem rf_322_17 {r : am_R} (h : am_rs r) : r 322 17 = .ref 330 := h (322, 17, 330) (List.mem_of_getElem? (i := 328) rfl)
theorem rf_322_18 {r : am_R} (h : am_rs r) : r 322 18 = .ref 331 := h (322, 18, 331) (List.mem_of_getElem? (i := 329) rfl)
theorem rf_322_19 {r : am_R} (h : am_rs r) : r 322 19 = .ref 332 := h (322, 19, 332) (List.mem_of_getElem? (i := 330) rfl)
theorem rf_322_20 {r : am_R} (h : am_rs r) : r 322 20 = .ref 333 := h (322, 20, 333) (List.mem_of_getElem? (i := 331) rfl)
theorem rf_322_21 {r : am_R} (h : am_rs r) : r 322 21 = .ref 334 := h (322, 21, 334) (List.mem_of_getElem? (i := 332) rfl)
theorem sh_0 : am_SH 0 = (0, 11) := by decide +kernel
theorem bn_0 : 0 < am_NN := by decide
theorem sh_1 : am_SH 1 = (0, 8) := by decide +kernel
theorem bn_1 : 1 < am_NN := by decide
theorem sh_2 : am_SH 2 = (1, 400) := by decide +kernel
theorem bn_2 : 2 < am_NN := by decide
theorem sh_3 : am_SH 3 = (0, 10) := by decide +kernel
theorem bn_3 : 3 < am_NN := by decide
theorem sh_4 : am_SH 4 = (0, 3) := by decide +kernel
theorem bn_4 : 4 < am_NN := by decide
theorem sh_5 : am_SH 5 = (1, 16) := by decide +kernel
theorem bn_5 : 5 < am_NN := by decide
theorem sh_6 : am_SH 6 = (1, 16) := by decide +kernel
theorem bn_6 : 6 < am_NN := by decide
theorem sh_7 : am_SH 7 = (1, 16) := by decide +kernel
theorem bn_7 : 7 < am_NN := by decide
theorem sh_8 : am_SH 8 = (1, 16) := by decide +kernel
theorem bn_8 : 8 < am_NN := by decide
theorem sh_9 : am_SH 9 = (1, 16) := by decide +kernel
theorem bn_9 : 9 < am_NN := by decide
theorem sh_10 : am_SH 10 = (1, 10) := by decide +kernel
theorem bn_10 : 10 < am_NN := by decide
theorem sh_11 : am_SH 11 = (1, 10) := by decide +kernel
theorem bn_11 : 11 < am_NN := by decide
theorem sh_12 : am_SH 12 = (1, 10) := by decide +kernel
theorem bn_12 : 12 < am_NN := by decide
theorem sh_13 : am_SH 13 = (1, 60) := by decide +kernel
theorem bn_13 : 13 < am_NN := by decide
theorem sh_14 : am_SH 14 = (1, 10) := by decide +kernel
theorem bn_14 : 14 < am_NN := by decide
theorem sh_15 : am_SH 15 = (1, 10) := by decide +kernel
theorem bn_15 : 15 < am_NN := by decide
theorem sh_16 : am_SH 16 = (1, 2) := by decide +kernel
theorem bn_16 : 16 < am_NN := by decide
theorem sh_17 : am_SH 17 = (0, 1) := by decide +kernel
theorem bn_17 : 17 < am_NN := by decide
theorem sh_18 : am_SH 18 = (1, 12) := by decide +kernel
theorem bn_18 : 18 < am_NN := by decide
theorem sh_19 : am_SH 19 = (1, 12) := by decide +kernel
theorem bn_19 : 19 < am_NN := by decide
theorem sh_20 : am_SH 20 = (1, 12) := by decide +kernel
theorem bn_20 : 20 < am_NN := by decide
theorem sh_21 : am_SH 21 = (1, 12) := by decide +kernel
theorem bn_21 : 21 < am_NN := by decide
theorem sh_22 : am_SH 22 = (1, 400) := by decide +kernel
theorem bn_22 : 22 < am_NN := by decide
theorem sh_23 : am_SH 23 = (1, 8) := by decide +kernel
theorem bn_23 : 23 < am_NN := by decide
theorem sh_24 : am_SH 24 = (1, 40) := by decide +kernel
theorem bn_24 : 24 < am_NN := by decide
theorem sh_25 : am_SH 25 = (0, 5) := by decide +kernel
theorem bn_25 : 25 < am_NN := by decide
theorem sh_26 : am_SH 26 = (1, 10) := by decide +kernel
theorem bn_26 : 26 < am_NN := by decide
theorem sh_27 : am_SH 27 = (1, 10) := by decide +kernel
theorem bn_27 : 27 < am_NN := by decide
theorem sh_28 : am_SH 28 = (1, 10) := by decide +kernel
theorem bn_28 : 28 < am_NN := by decide
theorem sh_29 : am_SH 29 = (1, 10) := by decide +kernel
theorem bn_29 : 29 < am_NN := by decide
theorem sh_30 : am_SH 30 = (1, 10) := by decide +kernel
theorem bn_30 : 30 < am_NN := by decide
theorem sh_31 : am_SH 31 = (1, 120) := by decide +kernel
theorem bn_31 : 31 < am_NN := by decide
theorem sh_32 : am_SH 32 = (1, 40) := by decide +kernel
theorem bn_32 : 32 < am_NN := by decide
theorem sh_33 : am_SH 33 = (1, 40) := by decide +kernel
theorem bn_33 : 33 < am_NN := by decide
theorem sh_34 : am_SH 34 = (1, 40) := by decide +kernel
theorem bn_34 : 34 < am_NN := by decide
theorem sh_35 : am_SH 35 = (1, 60) := by decide +kernel
theorem bn_35 : 35 < am_NN := by decide
theorem sh_36 : am_SH 36 = (1, 60) := by decide +kernel
theorem bn_36 : 36 < am_NN := by decide
theorem sh_37 : am_SH 37 = (1, 60) := by decide +kernel
theorem bn_37 : 37 < am_NN := by decide
theorem sh_38 : am_SH 38 = (1, 60) := by decide +kernel
theorem bn_38 : 38 < am_NN := by decide
theorem sh_39 : am_SH 39 = (1, 60) := by decide +kernel
theorem bn_39 : 39 < am_NN := by decide
theorem sh_40 : am_SH 40 = (0, 10) := by decide +kernel
theorem bn_40 : 40 < am_NN := by decide
theorem sh_41 : am_SH 41 = (0, 5) := by decide +kernel
theorem bn_41 : 41 < am_NN := by decide
theorem sh_42 : am_SH 42 = (1, 10) := by decide +kernel
theorem bn_42 : 42 < am_NN := by decide
theorem sh_43 : am_SH 43 = (1, 10) := by decide +kernel
theorem bn_43 : 43 < am_NN := by decide
theorem sh_44 : am_SH 44 = (1, 10) := by decide +kernel
theorem bn_44 : 44 < am_NN := by decide
theorem sh_45 : am_SH 45 = (1, 10) := by decide +kernel
theorem bn_45 : 45 < am_NN := by decide
theorem sh_46 : am_SH 46 = (1, 10) := by decide +kernel
theorem bn_46 : 46 < am_NN := by decide
theorem sh_47 : am_SH 47 = (1, 120) := by decide +kernel
theorem bn_47 : 47 < am_NN := by decide
theorem sh_48 : am_SH 48 = (1, 40) := by decide +kernel
theorem bn_48 : 48 < am_NN := by decide
theorem sh_49 : am_SH 49 = (1, 40) := by decide +kernel
theorem bn_49 : 49 < am_NN := by decide
theorem sh_50 : am_SH 50 = (1, 40) := by decide +kernel
theorem bn_50 : 50 < am_NN := by decide
theorem sh_51 : am_SH 51 = (1, 60) := by decide +kernel
theorem bn_51 : 51 < am_NN := by decide
theorem sh_52 : am_SH 52 = (1, 60) := by decide +kernel
theorem bn_52 : 52 < am_NN := by decide
theorem sh_53 : am_SH 53 = (1, 60) := by decide +kernel
theorem bn_53 : 53 < am_NN := by decide
theorem sh_54 : am_SH 54 = (1, 60) := by decide +kernel
theorem bn_54 : 54 < am_NN := by decide
theorem sh_55 : am_SH 55 = (1, 60) := by decide +kernel
theorem bn_55 : 55 < am_NN := by decide
theorem sh_56 : am_SH 56 = (0, 10) := by decide +kernel
theorem bn_56 : 56 < am_NN := by decide
theorem sh_57 : am_SH 57 = (0, 3) := by decide +kernel
theorem bn_57 : 57 < am_NN := by decide
theorem sh_58 : am_SH 58 = (1, 16) := by decide +kernel
theorem bn_58 : 58 < am_NN := by decide
theorem sh_59 : am_SH 59 = (1, 16) := by decide +kernel
theorem bn_59 : 59 < am_NN := by decide
theorem sh_60 : am_SH 60 = (1, 16) := by decide +kernel
theorem bn_60 : 60 < am_NN := by decide
theorem sh_61 : am_SH 61 = (1, 16) := by decide +kernel
theorem bn_61 : 61 < am_NN := by decide
theorem sh_62 : am_SH 62 = (1, 16) := by decide +kernel
theorem bn_62 : 62 < am_NN := by decide
theorem sh_63 : am_SH 63 = (1, 10) := by decide +kernel
theorem bn_63 : 63 < am_NN := by decide
theorem sh_64 : am_SH 64 = (1, 10) := by decide +kernel
theorem bn_64 : 64 < am_NN := by decide
theorem sh_65 : am_SH 65 = (1, 10) := by decide +kernel
theorem bn_65 : 65 < am_NN := by decide
theorem sh_66 : am_SH 66 = (1, 60) := by decide +kernel
theorem bn_66 : 66 < am_NN := by decide
theorem sh_67 : am_SH 67 = (1, 10) := by decide +kernel
theorem bn_67 : 67 < am_NN := by decide
theorem sh_68 : am_SH 68 = (1, 10) := by decide +kernel
theorem bn_68 : 68 < am_NN := by decide
theorem sh_69 : am_SH 69 = (1, 2) := by decide +kernel
theorem bn_69 : 69 < am_NN := by decide
theorem sh_70 : am_SH 70 = (0, 1) := by decide +kernel
theorem bn_70 : 70 < am_NN := by decide
theorem sh_71 : am_SH 71 = (1, 12) := by decide +kernel
theorem bn_71 : 71 < am_NN := by decide
theorem sh_72 : am_SH 72 = (1, 12) := by decide +kernel
theorem bn_72 : 72 < am_NN := by decide
theorem sh_73 : am_SH 73 = (1, 12) := by decide +kernel
theorem bn_73 : 73 < am_NN := by decide
theorem sh_74 : am_SH 74 = (1, 12) := by decide +kernel
theorem bn_74 : 74 < am_NN := by decide
theorem sh_75 : am_SH 75 = (1, 400) := by decide +kernel
theorem bn_75 : 75 < am_NN := by decide
theorem sh_76 : am_SH 76 = (1, 8) := by decide +kernel
theorem bn_76 : 76 < am_NN := by decide
theorem sh_77 : am_SH 77 = (1, 40) := by decide +kernel
theorem bn_77 : 77 < am_NN := by decide
theorem sh_78 : am_SH 78 = (0, 5) := by decide +kernel
theorem bn_78 : 78 < am_NN := by decide
theorem sh_79 : am_SH 79 = (1, 10) := by decide +kernel
theorem bn_79 : 79 < am_NN := by decide
theorem sh_80 : am_SH 80 = (1, 10) := by decide +kernel
theorem bn_80 : 80 < am_NN := by decide
theorem sh_81 : am_SH 81 = (1, 10) := by decide +kernel
theorem bn_81 : 81 < am_NN := by decide
theorem sh_82 : am_SH 82 = (1, 10) := by decide +kernel
theorem bn_82 : 82 < am_NN := by decide
theorem sh_83 : am_SH 83 = (1, 10) := by decide +kernel
theorem bn_83 : 83 < am_NN := by decide
theorem sh_84 : am_SH 84 = (1, 120) := by decide +kernel
theorem bn_84 : 84 < am_NN := by decide
theorem sh_85 : am_SH 85 = (1, 40) := by decide +kernel
theorem bn_85 : 85 < am_NN := by decide
theorem sh_86 : am_SH 86 = (1, 40) := by decide +kernel
theorem bn_86 : 86 < am_NN := by decide
theorem sh_87 : am_SH 87 = (1, 40) := by decide +kernel
theorem bn_87 : 87 < am_NN := by decide
theorem sh_88 : am_SH 88 = (1, 60) := by decide +kernel
theorem bn_88 : 88 < am_NN := by decide
theorem sh_89 : am_SH 89 = (1, 60) := by decide +kernel
theorem bn_89 : 89 < am_NN := by decide
theorem sh_90 : am_SH 90 = (1, 60) := by decide +kernel
theorem bn_90 : 90 < am_NN := by decide
theorem sh_91 : am_SH 91 = (1, 60) := by decide +kernel
theorem bn_91 : 91 < am_NN := by decide
theorem sh_92 : am_SH 92 = (1, 60) := by decide +kernel
theorem bn_92 : 92 < am_NN := by decide
theorem sh_93 : am_SH 93 = (0, 10) := by decide +kernel
theorem bn_93 : 93 < am_NN := by decide
theorem sh_94 : am_SH 94 = (0, 3) := by decide +kernel
theorem bn_94 : 94 < am_NN := by decide
theorem sh_95 : am_SH 95 = (1, 16) := by decide +kernel
theorem bn_95 : 95 < am_NN := by decide
theorem sh_96 : am_SH 96 = (1, 16) := by decide +kernel
theorem bn_96 : 96 < am_NN := by decide
theorem sh_97 : am_SH 97 = (1, 16) := by decide +kernel
theorem bn_97 : 97 < am_NN := by decide
theorem sh_98 : am_SH 98 = (1, 16) := by decide +kernel
theorem bn_98 : 98 < am_NN := by decide
theorem sh_99 : am_SH 99 = (1, 16) := by decide +kernel
theorem bn_99 : 99 < am_NN := by decide
theorem sh_100 : am_SH 100 = (1, 10) := by decide +kernel
theorem bn_100 : 100 < am_NN := by decide
theorem sh_101 : am_SH 101 = (1, 10) := by decide +kernel
theorem bn_101 : 101 < am_NN := by decide
theorem sh_102 : am_SH 102 = (1, 10) := by decide +kernel
theorem bn_102 : 102 < am_NN := by decide
theorem sh_103 : am_SH 103 = (1, 60) := by decide +kernel
theorem bn_103 : 103 < am_NN := by decide
theorem sh_104 : am_SH 104 = (1, 10) := by decide +kernel
theorem bn_104 : 104 < am_NN := by decide
theorem sh_105 : am_SH 105 = (1, 10) := by decide +kernel
theorem bn_105 : 105 < am_NN := by decide
theorem sh_106 : am_SH 106 = (1, 2) := by decide +kernel
theorem bn_106 : 106 < am_NN := by decide
theorem sh_107 : am_SH 107 = (0, 1) := by decide +kernel
theorem bn_107 : 107 < am_NN := by decide
theorem sh_108 : am_SH 108 = (1, 12) := by decide +kernel
theorem bn_108 : 108 < am_NN := by decide
theorem sh_109 : am_SH 109 = (1, 12) := by decide +kernel
theorem bn_109 : 109 < am_NN := by decide
theorem sh_110 : am_SH 110 = (1, 12) := by decide +kernel
theorem bn_110 : 110 < am_NN := by decide
theorem sh_111 : am_SH 111 = (1, 12) := by decide +kernel
theorem bn_111 : 111 < am_NN := by decide
theorem sh_112 : am_SH 112 = (1, 400) := by decide +kernel
theorem bn_112 : 112 < am_NN := by decide
theorem sh_113 : am_SH 113 = (1, 8) := by decide +kernel
theorem bn_113 : 113 < am_NN := by decide
theorem sh_114 : am_SH 114 = (1, 40) := by decide +kernel
theorem bn_114 : 114 < am_NN := by decide
theorem sh_115 : am_SH 115 = (0, 5) := by decide +kernel
theorem bn_115 : 115 < am_NN := by decide
theorem sh_116 : am_SH 116 = (1, 10) := by decide +kernel
theorem bn_116 : 116 < am_NN := by decide
theorem sh_117 : am_SH 117 = (1, 10) := by decide +kernel
theorem bn_117 : 117 < am_NN := by decide
theorem sh_118 : am_SH 118 = (1, 10) := by decide +kernel
theorem bn_118 : 118 < am_NN := by decide
theorem sh_119 : am_SH 119 = (1, 10) := by decide +kernel
theorem bn_119 : 119 < am_NN := by decide
theorem sh_120 : am_SH 120 = (1, 10) := by decide +kernel
theorem bn_120 : 120 < am_NN := by decide
theorem sh_121 : am_SH 121 = (1, 120) := by decide +kernel
theorem bn_121 : 121 < am_NN := by decide
theorem sh_122 : am_SH 122 = (1, 40) := by decide +kernel
theorem bn_122 : 122 < am_NN := by decide
theorem sh_123 : am_SH 123 = (1, 40) := by decide +kernel
theorem bn_123 : 123 < am_NN := by decide
theorem sh_124 : am_SH 124 = (1, 40) := by decide +kernel
theorem bn_124 : 124 < am_NN := by decide
theorem sh_125 : am_SH 125 = (1, 60) := by decide +kernel
theorem bn_125 : 125 < am_NN := by decide
theorem sh_126 : am_SH 126 = (1, 60) := by decide +kernel
theorem bn_126 : 126 < am_NN := by decide
theorem sh_127 : am_SH 127 = (1, 60) := by decide +kernel
theorem bn_127 : 127 < am_NN := by decide
theorem sh_128 : am_SH 128 = (1, 60) := by decide +kernel
theorem bn_128 : 128 < am_NN := by decide
theorem sh_129 : am_SH 129 = (1, 60) := by decide +kernel
theorem bn_129 : 129 < am_NN := by decide
theorem sh_130 : am_SH 130 = (0, 9) := by decide +kernel
theorem bn_130 : 130 < am_NN := by decide
theorem sh_131 : am_SH 131 = (0, 2) := by decide +kernel
theorem bn_131 : 131 < am_NN := by decide
theorem sh_132 : am_SH 132 = (0, 4) := by decide +kernel
theorem bn_132 : 132 < am_NN := by decide
theorem sh_133 : am_SH 133 = (5, 12) := by decide +kernel
theorem bn_133 : 133 < am_NN := by decide
theorem sh_134 : am_SH 134 = (0, 5) := by decide +kernel
theorem bn_134 : 134 < am_NN := by decide
theorem sh_135 : am_SH 135 = (1, 10) := by decide +kernel
theorem bn_135 : 135 < am_NN := by decide
theorem sh_136 : am_SH 136 = (1, 10) := by decide +kernel
theorem bn_136 : 136 < am_NN := by decide
theorem sh_137 : am_SH 137 = (1, 10) := by decide +kernel
theorem bn_137 : 137 < am_NN := by decide
theorem sh_138 : am_SH 138 = (1, 10) := by decide +kernel
theorem bn_138 : 138 < am_NN := by decide
theorem sh_139 : am_SH 139 = (1, 10) := by decide +kernel
theorem bn_139 : 139 < am_NN := by decide
theorem sh_140 : am_SH 140 = (1, 120) := by decide +kernel
theorem bn_140 : 140 < am_NN := by decide
theorem sh_141 : am_SH 141 = (1, 40) := by decide +kernel
theorem bn_141 : 141 < am_NN := by decide
theorem sh_142 : am_SH 142 = (1, 40) := by decide +kernel
theorem bn_142 : 142 < am_NN := by decide
theorem sh_143 : am_SH 143 = (1, 40) := by decide +kernel
theorem bn_143 : 143 < am_NN := by decide
theorem sh_144 : am_SH 144 = (1, 60) := by decide +kernel
theorem bn_144 : 144 < am_NN := by decide
theorem sh_145 : am_SH 145 = (1, 60) := by decide +kernel
theorem bn_145 : 145 < am_NN := by decide
theorem sh_146 : am_SH 146 = (1, 60) := by decide +kernel
theorem bn_146 : 146 < am_NN := by decide
theorem sh_147 : am_SH 147 = (1, 60) := by decide +kernel
theorem bn_147 : 147 < am_NN := by decide
theorem sh_148 : am_SH 148 = (1, 60) := by decide +kernel
theorem bn_148 : 148 < am_NN := by decide
theorem sh_149 : am_SH 149 = (0, 5) := by decide +kernel
theorem bn_149 : 149 < am_NN := by decide
theorem sh_150 : am_SH 150 = (1, 10) := by decide +kernel
theorem bn_150 : 150 < am_NN := by decide
theorem sh_151 : am_SH 151 = (1, 10) := by decide +kernel
theorem bn_151 : 151 < am_NN := by decide
theorem sh_152 : am_SH 152 = (1, 10) := by decide +kernel
theorem bn_152 : 152 < am_NN := by decide
theorem sh_153 : am_SH 153 = (1, 10) := by decide +kernel
theorem bn_153 : 153 < am_NN := by decide
theorem sh_154 : am_SH 154 = (1, 10) := by decide +kernel
theorem bn_154 : 154 < am_NN := by decide
theorem sh_155 : am_SH 155 = (1, 120) := by decide +kernel
theorem bn_155 : 155 < am_NN := by decide
theorem sh_156 : am_SH 156 = (1, 40) := by decide +kernel
theorem bn_156 : 156 < am_NN := by decide
theorem sh_157 : am_SH 157 = (1, 40) := by decide +kernel
theorem bn_157 : 157 < am_NN := by decide
theorem sh_158 : am_SH 158 = (1, 40) := by decide +kernel
theorem bn_158 : 158 < am_NN := by decide
theorem sh_159 : am_SH 159 = (1, 60) := by decide +kernel
theorem bn_159 : 159 < am_NN := by decide
theorem sh_160 : am_SH 160 = (1, 60) := by decide +kernel
theorem bn_160 : 160 < am_NN := by decide
theorem sh_161 : am_SH 161 = (1, 60) := by decide +kernel
theorem bn_161 : 161 < am_NN := by decide
theorem sh_162 : am_SH 162 = (1, 60) := by decide +kernel
theorem bn_162 : 162 < am_NN := by decide
theorem sh_163 : am_SH 163 = (1, 60) := by decide +kernel
theorem bn_163 : 163 < am_NN := by decide
theorem sh_164 : am_SH 164 = (0, 5) := by decide +kernel
theorem bn_164 : 164 < am_NN := by decide
theorem sh_165 : am_SH 165 = (1, 10) := by decide +kernel
theorem bn_165 : 165 < am_NN := by decide
theorem sh_166 : am_SH 166 = (1, 10) := by decide +kernel
theorem bn_166 : 166 < am_NN := by decide
theorem sh_167 : am_SH 167 = (1, 10) := by decide +kernel
theorem bn_167 : 167 < am_NN := by decide
theorem sh_168 : am_SH 168 = (1, 10) := by decide +kernel
theorem bn_168 : 168 < am_NN := by decide
theorem sh_169 : am_SH 169 = (1, 10) := by decide +kernel
theorem bn_169 : 169 < am_NN := by decide
theorem sh_170 : am_SH 170 = (1, 120) := by decide +kernel
theorem bn_170 : 170 < am_NN := by decide
theorem sh_171 : am_SH 171 = (1, 40) := by decide +kernel
theorem bn_171 : 171 < am_NN := by decide
theorem sh_172 : am_SH 172 = (1, 40) := by decide +kernel
theorem bn_172 : 172 < am_NN := by decide
theorem sh_173 : am_SH 173 = (1, 40) := by decide +kernel
theorem bn_173 : 173 < am_NN := by decide
theorem sh_174 : am_SH 174 = (1, 60) := by decide +kernel
theorem bn_174 : 174 < am_NN := by decide
theorem sh_175 : am_SH 175 = (1, 60) := by decide +kernel
theorem bn_175 : 175 < am_NN := by decide
theorem sh_176 : am_SH 176 = (1, 60) := by decide +kernel
theorem bn_176 : 176 < am_NN := by decide
theorem sh_177 : am_SH 177 = (1, 60) := by decide +kernel
theorem bn_177 : 177 < am_NN := by decide
theorem sh_178 : am_SH 178 = (1, 60) := by decide +kernel
theorem bn_178 : 178 < am_NN := by decide
theorem sh_179 : am_SH 179 = (0, 5) := by decide +kernel
theorem bn_179 : 179 < am_NN := by decide
theorem sh_180 : am_SH 180 = (1, 10) := by decide +kernel
theorem bn_180 : 180 < am_NN := by decide
theorem sh_181 : am_SH 181 = (1, 10) := by decide +kernel
theorem bn_181 : 181 < am_NN := by decide
theorem sh_182 : am_SH 182 = (1, 10) := by decide +kernel
theorem bn_182 : 182 < am_NN := by decide
theorem sh_183 : am_SH 183 = (1, 10) := by decide +kernel
theorem bn_183 : 183 < am_NN := by decide
theorem sh_184 : am_SH 184 = (1, 10) := by decide +kernel
theorem bn_184 : 184 < am_NN := by decide
theorem sh_185 : am_SH 185 = (1, 120) := by decide +kernel
theorem bn_185 : 185 < am_NN := by decide
theorem sh_186 : am_SH 186 = (1, 40) := by decide +kernel
theorem bn_186 : 186 < am_NN := by decide
theorem sh_187 : am_SH 187 = (1, 40) := by decide +kernel
theorem bn_187 : 187 < am_NN := by decide
theorem sh_188 : am_SH 188 = (1, 40) := by decide +kernel
theorem bn_188 : 188 < am_NN := by decide
theorem sh_189 : am_SH 189 = (1, 60) := by decide +kernel
theorem bn_189 : 189 < am_NN := by decide
theorem sh_190 : am_SH 190 = (1, 60) := by decide +kernel
theorem bn_190 : 190 < am_NN := by decide
theorem sh_191 : am_SH 191 = (1, 60) := by decide +kernel
theorem bn_191 : 191 < am_NN := by decide
theorem sh_192 : am_SH 192 = (1, 60) := by decide +kernel
theorem bn_192 : 192 < am_NN := by decide
theorem sh_193 : am_SH 193 = (1, 60) := by decide +kernel
theorem bn_193 : 193 < am_NN := by decide
theorem sh_194 : am_SH 194 = (0, 5) := by decide +kernel
theorem bn_194 : 194 < am_NN := by decide
theorem sh_195 : am_SH 195 = (1, 10) := by decide +kernel
theorem bn_195 : 195 < am_NN := by decide
theorem sh_196 : am_SH 196 = (1, 10) := by decide +kernel
theorem bn_196 : 196 < am_NN := by decide
theorem sh_197 : am_SH 197 = (1, 10) := by decide +kernel
theorem bn_197 : 197 < am_NN := by decide
theorem sh_198 : am_SH 198 = (1, 10) := by decide +kernel
theorem bn_198 : 198 < am_NN := by decide
theorem sh_199 : am_SH 199 = (1, 10) := by decide +kernel
theorem bn_199 : 199 < am_NN := by decide
theorem sh_200 : am_SH 200 = (1, 120) := by decide +kernel
theorem bn_200 : 200 < am_NN := by decide
theorem sh_201 : am_SH 201 = (1, 40) := by decide +kernel
theorem bn_201 : 201 < am_NN := by decide
theorem sh_202 : am_SH 202 = (1, 40) := by decide +kernel
theorem bn_202 : 202 < am_NN := by decide
theorem sh_203 : am_SH 203 = (1, 40) := by decide +kernel
theorem bn_203 : 203 < am_NN := by decide
theorem sh_204 : am_SH 204 = (1, 60) := by decide +kernel
theorem bn_204 : 204 < am_NN := by decide
theorem sh_205 : am_SH 205 = (1, 60) := by decide +kernel
theorem bn_205 : 205 < am_NN := by decide
theorem sh_206 : am_SH 206 = (1, 60) := by decide +kernel
theorem bn_206 : 206 < am_NN := by decide
theorem sh_207 : am_SH 207 = (1, 60) := by decide +kernel
theorem bn_207 : 207 < am_NN := by decide
theorem sh_208 : am_SH 208 = (1, 60) := by decide +kernel
theorem bn_208 : 208 < am_NN := by decide
theorem sh_209 : am_SH 209 = (0, 5) := by decide +kernel
theorem bn_209 : 209 < am_NN := by decide
theorem sh_210 : am_SH 210 = (1, 10) := by decide +kernel
theorem bn_210 : 210 < am_NN := by decide
theorem sh_211 : am_SH 211 = (1, 10) := by decide +kernel
theorem bn_211 : 211 < am_NN := by decide
theorem sh_212 : am_SH 212 = (1, 10) := by decide +kernel
theorem bn_212 : 212 < am_NN := by decide
theorem sh_213 : am_SH 213 = (1, 10) := by decide +kernel
theorem bn_213 : 213 < am_NN := by decide
theorem sh_214 : am_SH 214 = (1, 10) := by decide +kernel
theorem bn_214 : 214 < am_NN := by decide
theorem sh_215 : am_SH 215 = (1, 120) := by decide +kernel
theorem bn_215 : 215 < am_NN := by decide
theorem sh_216 : am_SH 216 = (1, 40) := by decide +kernel
theorem bn_216 : 216 < am_NN := by decide
theorem sh_217 : am_SH 217 = (1, 40) := by decide +kernel
theorem bn_217 : 217 < am_NN := by decide
theorem sh_218 : am_SH 218 = (1, 40) := by decide +kernel
theorem bn_218 : 218 < am_NN := by decide
theorem sh_219 : am_SH 219 = (1, 60) := by decide +kernel
theorem bn_219 : 219 < am_NN := by decide
theorem sh_220 : am_SH 220 = (1, 60) := by decide +kernel
theorem bn_220 : 220 < am_NN := by decide
theorem sh_221 : am_SH 221 = (1, 60) := by decide +kernel
theorem bn_221 : 221 < am_NN := by decide
theorem sh_222 : am_SH 222 = (1, 60) := by decide +kernel
theorem bn_222 : 222 < am_NN := by decide
theorem sh_223 : am_SH 223 = (1, 60) := by decide +kernel
theorem bn_223 : 223 < am_NN := by decide
theorem sh_224 : am_SH 224 = (0, 5) := by decide +kernel
theorem bn_224 : 224 < am_NN := by decide
theorem sh_225 : am_SH 225 = (1, 10) := by decide +kernel
theorem bn_225 : 225 < am_NN := by decide
theorem sh_226 : am_SH 226 = (1, 10) := by decide +kernel
theorem bn_226 : 226 < am_NN := by decide
theorem sh_227 : am_SH 227 = (1, 10) := by decide +kernel
theorem bn_227 : 227 < am_NN := by decide
theorem sh_228 : am_SH 228 = (1, 10) := by decide +kernel
theorem bn_228 : 228 < am_NN := by decide
theorem sh_229 : am_SH 229 = (1, 10) := by decide +kernel
theorem bn_229 : 229 < am_NN := by decide
theorem sh_230 : am_SH 230 = (1, 120) := by decide +kernel
theorem bn_230 : 230 < am_NN := by decide
theorem sh_231 : am_SH 231 = (1, 40) := by decide +kernel
theorem bn_231 : 231 < am_NN := by decide
theorem sh_232 : am_SH 232 = (1, 40) := by decide +kernel
theorem bn_232 : 232 < am_NN := by decide
theorem sh_233 : am_SH 233 = (1, 40) := by decide +kernel
theorem bn_233 : 233 < am_NN := by decide
theorem sh_234 : am_SH 234 = (1, 60) := by decide +kernel
theorem bn_234 : 234 < am_NN := by decide
theorem sh_235 : am_SH 235 = (1, 60) := by decide +kernel
theorem bn_235 : 235 < am_NN := by decide
theorem sh_236 : am_SH 236 = (1, 60) := by decide +kernel
theorem bn_236 : 236 < am_NN := by decide
theorem sh_237 : am_SH 237 = (1, 60) := by decide +kernel
theorem bn_237 : 237 < am_NN := by decide
theorem sh_238 : am_SH 238 = (1, 60) := by decide +kernel
theorem bn_238 : 238 < am_NN := by decide
theorem sh_239 : am_SH 239 = (0, 5) := by decide +kernel
theorem bn_239 : 239 < am_NN := by decide
theorem sh_240 : am_SH 240 = (1, 10) := by decide +kernel
theorem bn_240 : 240 < am_NN := by decide
theorem sh_241 : am_SH 241 = (1, 10) := by decide +kernel
theorem bn_241 : 241 < am_NN := by decide
theorem sh_242 : am_SH 242 = (1, 10) := by decide +kernel
theorem bn_242 : 242 < am_NN := by decide
theorem sh_243 : am_SH 243 = (1, 10) := by decide +kernel
theorem bn_243 : 243 < am_NN := by decide
theorem sh_244 : am_SH 244 = (1, 10) := by decide +kernel
theorem bn_244 : 244 < am_NN := by decide
theorem sh_245 : am_SH 245 = (1, 120) := by decide +kernel
theorem bn_245 : 245 < am_NN := by decide
theorem sh_246 : am_SH 246 = (1, 40) := by decide +kernel
theorem bn_246 : 246 < am_NN := by decide
theorem sh_247 : am_SH 247 = (1, 40) := by decide +kernel
theorem bn_247 : 247 < am_NN := by decide
theorem sh_248 : am_SH 248 = (1, 40) := by decide +kernel
theorem bn_248 : 248 < am_NN := by decide
theorem sh_249 : am_SH 249 = (1, 60) := by decide +kernel
theorem bn_249 : 249 < am_NN := by decide
theorem sh_250 : am_SH 250 = (1, 60) := by decide +kernel
theorem bn_250 : 250 < am_NN := by decide
theorem sh_251 : am_SH 251 = (1, 60) := by decide +kernel
theorem bn_251 : 251 < am_NN := by decide
theorem sh_252 : am_SH 252 = (1, 60) := by decide +kernel
theorem bn_252 : 252 < am_NN := by decide
theorem sh_253 : am_SH 253 = (1, 60) := by decide +kernel
theorem bn_253 : 253 < am_NN := by decide
theorem sh_254 : am_SH 254 = (0, 5) := by decide +kernel
theorem bn_254 : 254 < am_NN := by decide
theorem sh_255 : am_SH 255 = (1, 10) := by decide +kernel
theorem bn_255 : 255 < am_NN := by decide
theorem sh_256 : am_SH 256 = (1, 10) := by decide +kernel
theorem bn_256 : 256 < am_NN := by decide
theorem sh_257 : am_SH 257 = (1, 10) := by decide +kernel
theorem bn_257 : 257 < am_NN := by decide
theorem sh_258 : am_SH 258 = (1, 10) := by decide +kernel
theorem bn_258 : 258 < am_NN := by decide
theorem sh_259 : am_SH 259 = (1, 10) := by decide +kernel
theorem bn_259 : 259 < am_NN := by decide
theorem sh_260 : am_SH 260 = (1, 120) := by decide +kernel
theorem bn_260 : 260 < am_NN := by decide
theorem sh_261 : am_SH 261 = (1, 40) := by decide +kernel
theorem bn_261 : 261 < am_NN := by decide
theorem sh_262 : am_SH 262 = (1, 40) := by decide +kernel
theorem bn_262 : 262 < am_NN := by decide
theorem sh_263 : am_SH 263 = (1, 40) := by decide +kernel
theorem bn_263 : 263 < am_NN := by decide
theorem sh_264 : am_SH 264 = (1, 60) := by decide +kernel
theorem bn_264 : 264 < am_NN := by decide
theorem sh_265 : am_SH 265 = (1, 60) := by decide +kernel
theorem bn_265 : 265 < am_NN := by decide
theorem sh_266 : am_SH 266 = (1, 60) := by decide +kernel
theorem bn_266 : 266 < am_NN := by decide
theorem sh_267 : am_SH 267 = (1, 60) := by decide +kernel
theorem bn_267 : 267 < am_NN := by decide
theorem sh_268 : am_SH 268 = (1, 60) := by decide +kernel
theorem bn_268 : 268 < am_NN := by decide
theorem sh_269 : am_SH 269 = (0, 5) := by decide +kernel
theorem bn_269 : 269 < am_NN := by decide
theorem sh_270 : am_SH 270 = (1, 10) := by decide +kernel
theorem bn_270 : 270 < am_NN := by decide
theorem sh_271 : am_SH 271 = (1, 10) := by decide +kernel
theorem bn_271 : 271 < am_NN := by decide
theorem sh_272 : am_SH 272 = (1, 10) := by decide +kernel
theorem bn_272 : 272 < am_NN := by decide
theorem sh_273 : am_SH 273 = (1, 10) := by decide +kernel
theorem bn_273 : 273 < am_NN := by decide
theorem sh_274 : am_SH 274 = (1, 10) := by decide +kernel
theorem bn_274 : 274 < am_NN := by decide
theorem sh_275 : am_SH 275 = (1, 120) := by decide +kernel
theorem bn_275 : 275 < am_NN := by decide
theorem sh_276 : am_SH 276 = (1, 40) := by decide +kernel
theorem bn_276 : 276 < am_NN := by decide
theorem sh_277 : am_SH 277 = (1, 40) := by decide +kernel
theorem bn_277 : 277 < am_NN := by decide
theorem sh_278 : am_SH 278 = (1, 40) := by decide +kernel
theorem bn_278 : 278 < am_NN := by decide
theorem sh_279 : am_SH 279 = (1, 60) := by decide +kernel
theorem bn_279 : 279 < am_NN := by decide
theorem sh_280 : am_SH 280 = (1, 60) := by decide +kernel
theorem bn_280 : 280 < am_NN := by decide
theorem sh_281 : am_SH 281 = (1, 60) := by decide +kernel
theorem bn_281 : 281 < am_NN := by decide
theorem sh_282 : am_SH 282 = (1, 60) := by decide +kernel
theorem bn_282 : 282 < am_NN := by decide
theorem sh_283 : am_SH 283 = (1, 60) := by decide +kernel
theorem bn_283 : 283 < am_NN := by decide
theorem sh_284 : am_SH 284 = (0, 5) := by decide +kernel
theorem bn_284 : 284 < am_NN := by decide
theorem sh_285 : am_SH 285 = (1, 10) := by decide +kernel
theorem bn_285 : 285 < am_NN := by decide
theorem sh_286 : am_SH 286 = (1, 10) := by decide +kernel
theorem bn_286 : 286 < am_NN := by decide
theorem sh_287 : am_SH 287 = (1, 10) := by decide +kernel
theorem bn_287 : 287 < am_NN := by decide
theorem sh_288 : am_SH 288 = (1, 10) := by decide +kernel
theorem bn_288 : 288 < am_NN := by decide
theorem sh_289 : am_SH 289 = (1, 10) := by decide +kernel
theorem bn_289 : 289 < am_NN := by decide
theorem sh_290 : am_SH 290 = (1, 120) := by decide +kernel
theorem bn_290 : 290 < am_NN := by decide
theorem sh_291 : am_SH 291 = (1, 40) := by decide +kernel
theorem bn_291 : 291 < am_NN := by decide
theorem sh_292 : am_SH 292 = (1, 40) := by decide +kernel
theorem bn_292 : 292 < am_NN := by decide
theorem sh_293 : am_SH 293 = (1, 40) := by decide +kernel
theorem bn_293 : 293 < am_NN := by decide
theorem sh_294 : am_SH 294 = (1, 60) := by decide +kernel
theorem bn_294 : 294 < am_NN := by decide
theorem sh_295 : am_SH 295 = (1, 60) := by decide +kernel
theorem bn_295 : 295 < am_NN := by decide
theorem sh_296 : am_SH 296 = (1, 60) := by decide +kernel
theorem bn_296 : 296 < am_NN := by decide
theorem sh_297 : am_SH 297 = (1, 60) := by decide +kernel
theorem bn_297 : 297 < am_NN := by decide
theorem sh_298 : am_SH 298 = (1, 60) := by decide +kernel
theorem bn_298 : 298 < am_NN := by decide
theorem sh_299 : am_SH 299 = (0, 5) := by decide +kernel
theorem bn_299 : 299 < am_NN := by decide
theorem sh_300 : am_SH 300 = (1, 10) := by decide +kernel
theorem bn_300 : 300 < am_NN := by decide
theorem sh_301 : am_SH 301 = (1, 10) := by decide +kernel
theorem bn_301 : 301 < am_NN := by decide
theorem sh_302 : am_SH 302 = (1, 10) := by decide +kernel
theorem bn_302 : 302 < am_NN := by decide
theorem sh_303 : am_SH 303 = (1, 10) := by decide +kernel
theorem bn_303 : 303 < am_NN := by decide
theorem sh_304 : am_SH 304 = (1, 10) := by decide +kernel
theorem bn_304 : 304 < am_NN := by decide
theorem sh_305 : am_SH 305 = (1, 120) := by decide +kernel
theorem bn_305 : 305 < am_NN := by decide
theorem sh_306 : am_SH 306 = (1, 40) := by decide +kernel
theorem bn_306 : 306 < am_NN := by decide
theorem sh_307 : am_SH 307 = (1, 40) := by decide +kernel
theorem bn_307 : 307 < am_NN := by decide
theorem sh_308 : am_SH 308 = (1, 40) := by decide +kernel
theorem bn_308 : 308 < am_NN := by decide
theorem sh_309 : am_SH 309 = (1, 60) := by decide +kernel
theorem bn_309 : 309 < am_NN := by decide
theorem sh_310 : am_SH 310 = (1, 60) := by decide +kernel
theorem bn_310 : 310 < am_NN := by decide
theorem sh_311 : am_SH 311 = (1, 60) := by decide +kernel
theorem bn_311 : 311 < am_NN := by decide
theorem sh_312 : am_SH 312 = (1, 60) := by decide +kernel
theorem bn_312 : 312 < am_NN := by decide
theorem sh_313 : am_SH 313 = (1, 60) := by decide +kernel
theorem bn_313 : 313 < am_NN := by decide
theorem sh_314 : am_SH 314 = (0, 6) := by decide +kernel
theorem bn_314 : 314 < am_NN := by decide
theorem sh_315 : am_SH 315 = (1, 10) := by decide +kernel
theorem bn_315 : 315 < am_NN := by decide
theorem sh_316 : am_SH 316 = (0, 7) := by decide +kernel
theorem bn_316 : 316 < am_NN := by decide
theorem sh_317 : am_SH 317 = (1, 488) := by decide +kernel
theorem bn_317 : 317 < am_NN := by decide
theorem sh_318 : am_SH 318 = (0, 0) := by decide +kernel
theorem bn_318 : 318 < am_NN := by decide
theorem sh_319 : am_SH 319 = (1, 8) := by decide +kernel
theorem bn_319 : 319 < am_NN := by decide
theorem sh_320 : am_SH 320 = (1, 8) := by decide +kernel
theorem bn_320 : 320 < am_NN := by decide
theorem sh_321 : am_SH 321 = (1, 1024) := by decide +kernel
theorem bn_321 : 321 < am_NN := by decide
theorem sh_322 : am_SH 322 = (0, 12) := by decide +kernel
theorem bn_322 : 322 < am_NN := by decide
theorem sh_323 : am_SH 323 = (1, 2429) := by decide +kernel
theorem bn_323 : 323 < am_NN := by decide
theorem sh_324 : am_SH 324 = (1, 1580) := by decide +kernel
theorem bn_324 : 324 < am_NN := by decide
theorem sh_325 : am_SH 325 = (1, 1580) := by decide +kernel
theorem bn_325 : 325 < am_NN := by decide
theorem sh_326 : am_SH 326 = (1, 731) := by decide +kernel
theorem bn_326 : 326 < am_NN := by decide
theorem sh_327 : am_SH 327 = (1, 8772) := by decide +kernel
theorem bn_327 : 327 < am_NN := by decide
theorem sh_328 : am_SH 328 = (2, 400) := by decide +kernel
theorem bn_328 : 328 < am_NN := by decide
theorem sh_329 : am_SH 329 = (1, 5) := by decide +kernel
theorem bn_329 : 329 < am_NN := by decide
theorem sh_330 : am_SH 330 = (1, 400) := by decide +kernel
theorem bn_330 : 330 < am_NN := by decide
theorem sh_331 : am_SH 331 = (3, 32768) := by decide +kernel
theorem bn_331 : 331 < am_NN := by decide
theorem sh_332 : am_SH 332 = (3, 256) := by decide +kernel
theorem bn_332 : 332 < am_NN := by decide
theorem sh_333 : am_SH 333 = (1, 8) := by decide +kernel
theorem bn_333 : 333 < am_NN := by decide
theorem sh_334 : am_SH 334 = (1, 9216) := by decide +kernel
theorem bn_334 : 334 < am_NN := by decide
theorem sh_335 : am_SH 335 = (4, 1) := by decide +kernel
theorem bn_335 : 335 < am_NN := by decide
