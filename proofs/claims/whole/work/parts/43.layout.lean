/-! The heap once all is made: places and what refers to what. 0 the captain, 1 tape (2), 3 reader (21..24), 4 and 25 oaths (arrays behind them), 42 now, 43 past (44 ahead, 45 pictures, 46..61, 62..64 moments), 65 route, 72 post, 82 crew, 85 guesses, 93 life (94), 95 the reference (96..110), 111 out. -/
def SH : List (Nat × Nat) := [(10, 13), (9, 2), (14, 900), (7, 16), (4, 18), (12, 7), (12, 6), (12, 6), (12, 6), (12, 8), (12, 8), (12, 8), (12, 8), (12, 8), (12, 8), (12, 6), (12, 6), (12, 5), (12, 5), (12, 4), (12, 4), (13, 25), (13, 19), (12, 19), (12, 19), (4, 18), (12, 7), (12, 6), (12, 6), (12, 6), (12, 8), (12, 8), (12, 8), (12, 8), (12, 8), (12, 8), (12, 6), (12, 6), (12, 5), (12, 5), (12, 4), (12, 4), (3, 6), (5, 4), (15, 16), (15, 3), (3, 6), (3, 6), (3, 6), (3, 6), (3, 6), (3, 6), (3, 6), (3, 6), (3, 6), (3, 6), (3, 6), (3, 6), (3, 6), (3, 6), (3, 6), (3, 6), (3, 6), (3, 6), (3, 6), (8, 7), (12, 3), (12, 3), (17, 3), (13, 8), (13, 8), (13, 8), (6, 6), (12, 5), (12, 5), (16, 5), (12, 6), (12, 6), (12, 6), (12, 6), (12, 6), (12, 5), (0, 2), (12, 5), (12, 5), (1, 5), (12, 4), (12, 4), (16, 4), (12, 8), (12, 8), (12, 8), (12, 8), (2, 2), (3, 6), (11, 37), (12, 900), (12, 8), (12, 276), (12, 276), (12, 6), (12, 96), (12, 18), (12, 3), (12, 3), (12, 5), (12, 5), (12, 5), (12, 4), (12, 4), (12, 32), (13, 1)]
def RT : List (Nat × Nat × Nat) := [(0, 0, 1), (0, 1, 3), (0, 3, 42), (0, 4, 43), (0, 5, 65), (0, 6, 72), (0, 7, 82), (0, 8, 85), (0, 9, 93), (1, 0, 2), (3, 2, 2), (3, 3, 21), (3, 4, 22), (3, 5, 23), (3, 6, 24), (4, 2, 5), (4, 3, 6), (4, 4, 7), (4, 5, 8), (4, 6, 9), (4, 7, 10), (4, 8, 11), (4, 9, 12), (4, 10, 13), (4, 11, 14), (4, 12, 15), (4, 13, 16), (4, 14, 17), (4, 15, 18), (4, 16, 19), (4, 17, 20), (25, 2, 26), (25, 3, 27), (25, 4, 28), (25, 5, 29), (25, 6, 30), (25, 7, 31), (25, 8, 32), (25, 9, 33), (25, 10, 34), (25, 11, 35), (25, 12, 36), (25, 13, 37), (25, 14, 38), (25, 15, 39), (25, 16, 40), (25, 17, 41), (43, 0, 44), (43, 1, 45), (45, 0, 62), (45, 1, 63), (45, 2, 64), (65, 0, 66), (65, 3, 67), (65, 4, 68), (68, 0, 69), (68, 1, 70), (68, 2, 71), (72, 0, 73), (72, 2, 74), (72, 3, 75), (72, 4, 81), (75, 0, 76), (75, 1, 77), (75, 2, 78), (75, 3, 79), (75, 4, 80), (82, 0, 83), (82, 1, 84), (85, 0, 86), (85, 1, 87), (85, 2, 88), (88, 0, 89), (88, 1, 90), (88, 2, 91), (88, 3, 92), (93, 0, 94), (95, 1, 96), (95, 12, 97), (95, 15, 98), (95, 16, 99), (95, 17, 100), (95, 18, 101), (95, 19, 102), (95, 22, 103), (95, 23, 104), (95, 26, 105), (95, 27, 106), (95, 30, 107), (95, 31, 108), (95, 32, 109), (95, 33, 110)]
def RFok (F : Nat → Nat → Option Nat) : Prop := ∀ q ∈ RT, F q.1 q.2.1 = some q.2.2
theorem r_0_0 {F : Nat → Nat → Option Nat} (h : RFok F) : F 0 0 = some 1 := h (0, 0, 1) (by decide)
theorem r_0_1 {F : Nat → Nat → Option Nat} (h : RFok F) : F 0 1 = some 3 := h (0, 1, 3) (by decide)
theorem r_0_3 {F : Nat → Nat → Option Nat} (h : RFok F) : F 0 3 = some 42 := h (0, 3, 42) (by decide)
theorem r_0_4 {F : Nat → Nat → Option Nat} (h : RFok F) : F 0 4 = some 43 := h (0, 4, 43) (by decide)
theorem r_0_5 {F : Nat → Nat → Option Nat} (h : RFok F) : F 0 5 = some 65 := h (0, 5, 65) (by decide)
theorem r_0_6 {F : Nat → Nat → Option Nat} (h : RFok F) : F 0 6 = some 72 := h (0, 6, 72) (by decide)
theorem r_0_7 {F : Nat → Nat → Option Nat} (h : RFok F) : F 0 7 = some 82 := h (0, 7, 82) (by decide)
theorem r_0_8 {F : Nat → Nat → Option Nat} (h : RFok F) : F 0 8 = some 85 := h (0, 8, 85) (by decide)
theorem r_0_9 {F : Nat → Nat → Option Nat} (h : RFok F) : F 0 9 = some 93 := h (0, 9, 93) (by decide)
theorem r_1_0 {F : Nat → Nat → Option Nat} (h : RFok F) : F 1 0 = some 2 := h (1, 0, 2) (by decide)
theorem r_3_2 {F : Nat → Nat → Option Nat} (h : RFok F) : F 3 2 = some 2 := h (3, 2, 2) (by decide)
theorem r_3_3 {F : Nat → Nat → Option Nat} (h : RFok F) : F 3 3 = some 21 := h (3, 3, 21) (by decide)
theorem r_3_4 {F : Nat → Nat → Option Nat} (h : RFok F) : F 3 4 = some 22 := h (3, 4, 22) (by decide)
theorem r_3_5 {F : Nat → Nat → Option Nat} (h : RFok F) : F 3 5 = some 23 := h (3, 5, 23) (by decide)
theorem r_3_6 {F : Nat → Nat → Option Nat} (h : RFok F) : F 3 6 = some 24 := h (3, 6, 24) (by decide)
theorem r_4_2 {F : Nat → Nat → Option Nat} (h : RFok F) : F 4 2 = some 5 := h (4, 2, 5) (by decide)
theorem r_4_3 {F : Nat → Nat → Option Nat} (h : RFok F) : F 4 3 = some 6 := h (4, 3, 6) (by decide)
theorem r_4_4 {F : Nat → Nat → Option Nat} (h : RFok F) : F 4 4 = some 7 := h (4, 4, 7) (by decide)
theorem r_4_5 {F : Nat → Nat → Option Nat} (h : RFok F) : F 4 5 = some 8 := h (4, 5, 8) (by decide)
theorem r_4_6 {F : Nat → Nat → Option Nat} (h : RFok F) : F 4 6 = some 9 := h (4, 6, 9) (by decide)
theorem r_4_7 {F : Nat → Nat → Option Nat} (h : RFok F) : F 4 7 = some 10 := h (4, 7, 10) (by decide)
theorem r_4_8 {F : Nat → Nat → Option Nat} (h : RFok F) : F 4 8 = some 11 := h (4, 8, 11) (by decide)
theorem r_4_9 {F : Nat → Nat → Option Nat} (h : RFok F) : F 4 9 = some 12 := h (4, 9, 12) (by decide)
theorem r_4_10 {F : Nat → Nat → Option Nat} (h : RFok F) : F 4 10 = some 13 := h (4, 10, 13) (by decide)
theorem r_4_11 {F : Nat → Nat → Option Nat} (h : RFok F) : F 4 11 = some 14 := h (4, 11, 14) (by decide)
theorem r_4_12 {F : Nat → Nat → Option Nat} (h : RFok F) : F 4 12 = some 15 := h (4, 12, 15) (by decide)
theorem r_4_13 {F : Nat → Nat → Option Nat} (h : RFok F) : F 4 13 = some 16 := h (4, 13, 16) (by decide)
theorem r_4_14 {F : Nat → Nat → Option Nat} (h : RFok F) : F 4 14 = some 17 := h (4, 14, 17) (by decide)
theorem r_4_15 {F : Nat → Nat → Option Nat} (h : RFok F) : F 4 15 = some 18 := h (4, 15, 18) (by decide)
theorem r_4_16 {F : Nat → Nat → Option Nat} (h : RFok F) : F 4 16 = some 19 := h (4, 16, 19) (by decide)
theorem r_4_17 {F : Nat → Nat → Option Nat} (h : RFok F) : F 4 17 = some 20 := h (4, 17, 20) (by decide)
theorem r_25_2 {F : Nat → Nat → Option Nat} (h : RFok F) : F 25 2 = some 26 := h (25, 2, 26) (by decide)
theorem r_25_3 {F : Nat → Nat → Option Nat} (h : RFok F) : F 25 3 = some 27 := h (25, 3, 27) (by decide)
theorem r_25_4 {F : Nat → Nat → Option Nat} (h : RFok F) : F 25 4 = some 28 := h (25, 4, 28) (by decide)
theorem r_25_5 {F : Nat → Nat → Option Nat} (h : RFok F) : F 25 5 = some 29 := h (25, 5, 29) (by decide)
theorem r_25_6 {F : Nat → Nat → Option Nat} (h : RFok F) : F 25 6 = some 30 := h (25, 6, 30) (by decide)
theorem r_25_7 {F : Nat → Nat → Option Nat} (h : RFok F) : F 25 7 = some 31 := h (25, 7, 31) (by decide)
theorem r_25_8 {F : Nat → Nat → Option Nat} (h : RFok F) : F 25 8 = some 32 := h (25, 8, 32) (by decide)
theorem r_25_9 {F : Nat → Nat → Option Nat} (h : RFok F) : F 25 9 = some 33 := h (25, 9, 33) (by decide)
theorem r_25_10 {F : Nat → Nat → Option Nat} (h : RFok F) : F 25 10 = some 34 := h (25, 10, 34) (by decide)
theorem r_25_11 {F : Nat → Nat → Option Nat} (h : RFok F) : F 25 11 = some 35 := h (25, 11, 35) (by decide)
theorem r_25_12 {F : Nat → Nat → Option Nat} (h : RFok F) : F 25 12 = some 36 := h (25, 12, 36) (by decide)
theorem r_25_13 {F : Nat → Nat → Option Nat} (h : RFok F) : F 25 13 = some 37 := h (25, 13, 37) (by decide)
theorem r_25_14 {F : Nat → Nat → Option Nat} (h : RFok F) : F 25 14 = some 38 := h (25, 14, 38) (by decide)
theorem r_25_15 {F : Nat → Nat → Option Nat} (h : RFok F) : F 25 15 = some 39 := h (25, 15, 39) (by decide)
theorem r_25_16 {F : Nat → Nat → Option Nat} (h : RFok F) : F 25 16 = some 40 := h (25, 16, 40) (by decide)
theorem r_25_17 {F : Nat → Nat → Option Nat} (h : RFok F) : F 25 17 = some 41 := h (25, 17, 41) (by decide)
theorem r_43_0 {F : Nat → Nat → Option Nat} (h : RFok F) : F 43 0 = some 44 := h (43, 0, 44) (by decide)
theorem r_43_1 {F : Nat → Nat → Option Nat} (h : RFok F) : F 43 1 = some 45 := h (43, 1, 45) (by decide)
theorem r_45_0 {F : Nat → Nat → Option Nat} (h : RFok F) : F 45 0 = some 62 := h (45, 0, 62) (by decide)
theorem r_45_1 {F : Nat → Nat → Option Nat} (h : RFok F) : F 45 1 = some 63 := h (45, 1, 63) (by decide)
theorem r_45_2 {F : Nat → Nat → Option Nat} (h : RFok F) : F 45 2 = some 64 := h (45, 2, 64) (by decide)
theorem r_65_0 {F : Nat → Nat → Option Nat} (h : RFok F) : F 65 0 = some 66 := h (65, 0, 66) (by decide)
theorem r_65_3 {F : Nat → Nat → Option Nat} (h : RFok F) : F 65 3 = some 67 := h (65, 3, 67) (by decide)
theorem r_65_4 {F : Nat → Nat → Option Nat} (h : RFok F) : F 65 4 = some 68 := h (65, 4, 68) (by decide)
theorem r_68_0 {F : Nat → Nat → Option Nat} (h : RFok F) : F 68 0 = some 69 := h (68, 0, 69) (by decide)
theorem r_68_1 {F : Nat → Nat → Option Nat} (h : RFok F) : F 68 1 = some 70 := h (68, 1, 70) (by decide)
theorem r_68_2 {F : Nat → Nat → Option Nat} (h : RFok F) : F 68 2 = some 71 := h (68, 2, 71) (by decide)
theorem r_72_0 {F : Nat → Nat → Option Nat} (h : RFok F) : F 72 0 = some 73 := h (72, 0, 73) (by decide)
theorem r_72_2 {F : Nat → Nat → Option Nat} (h : RFok F) : F 72 2 = some 74 := h (72, 2, 74) (by decide)
theorem r_72_3 {F : Nat → Nat → Option Nat} (h : RFok F) : F 72 3 = some 75 := h (72, 3, 75) (by decide)
theorem r_72_4 {F : Nat → Nat → Option Nat} (h : RFok F) : F 72 4 = some 81 := h (72, 4, 81) (by decide)
theorem r_75_0 {F : Nat → Nat → Option Nat} (h : RFok F) : F 75 0 = some 76 := h (75, 0, 76) (by decide)
theorem r_75_1 {F : Nat → Nat → Option Nat} (h : RFok F) : F 75 1 = some 77 := h (75, 1, 77) (by decide)
theorem r_75_2 {F : Nat → Nat → Option Nat} (h : RFok F) : F 75 2 = some 78 := h (75, 2, 78) (by decide)
theorem r_75_3 {F : Nat → Nat → Option Nat} (h : RFok F) : F 75 3 = some 79 := h (75, 3, 79) (by decide)
theorem r_75_4 {F : Nat → Nat → Option Nat} (h : RFok F) : F 75 4 = some 80 := h (75, 4, 80) (by decide)
theorem r_82_0 {F : Nat → Nat → Option Nat} (h : RFok F) : F 82 0 = some 83 := h (82, 0, 83) (by decide)
theorem r_82_1 {F : Nat → Nat → Option Nat} (h : RFok F) : F 82 1 = some 84 := h (82, 1, 84) (by decide)
theorem r_85_0 {F : Nat → Nat → Option Nat} (h : RFok F) : F 85 0 = some 86 := h (85, 0, 86) (by decide)
theorem r_85_1 {F : Nat → Nat → Option Nat} (h : RFok F) : F 85 1 = some 87 := h (85, 1, 87) (by decide)
theorem r_85_2 {F : Nat → Nat → Option Nat} (h : RFok F) : F 85 2 = some 88 := h (85, 2, 88) (by decide)
theorem r_88_0 {F : Nat → Nat → Option Nat} (h : RFok F) : F 88 0 = some 89 := h (88, 0, 89) (by decide)
theorem r_88_1 {F : Nat → Nat → Option Nat} (h : RFok F) : F 88 1 = some 90 := h (88, 1, 90) (by decide)
theorem r_88_2 {F : Nat → Nat → Option Nat} (h : RFok F) : F 88 2 = some 91 := h (88, 2, 91) (by decide)
theorem r_88_3 {F : Nat → Nat → Option Nat} (h : RFok F) : F 88 3 = some 92 := h (88, 3, 92) (by decide)
theorem r_93_0 {F : Nat → Nat → Option Nat} (h : RFok F) : F 93 0 = some 94 := h (93, 0, 94) (by decide)
theorem r_95_1 {F : Nat → Nat → Option Nat} (h : RFok F) : F 95 1 = some 96 := h (95, 1, 96) (by decide)
theorem r_95_12 {F : Nat → Nat → Option Nat} (h : RFok F) : F 95 12 = some 97 := h (95, 12, 97) (by decide)
theorem r_95_15 {F : Nat → Nat → Option Nat} (h : RFok F) : F 95 15 = some 98 := h (95, 15, 98) (by decide)
theorem r_95_16 {F : Nat → Nat → Option Nat} (h : RFok F) : F 95 16 = some 99 := h (95, 16, 99) (by decide)
theorem r_95_17 {F : Nat → Nat → Option Nat} (h : RFok F) : F 95 17 = some 100 := h (95, 17, 100) (by decide)
theorem r_95_18 {F : Nat → Nat → Option Nat} (h : RFok F) : F 95 18 = some 101 := h (95, 18, 101) (by decide)
theorem r_95_19 {F : Nat → Nat → Option Nat} (h : RFok F) : F 95 19 = some 102 := h (95, 19, 102) (by decide)
theorem r_95_22 {F : Nat → Nat → Option Nat} (h : RFok F) : F 95 22 = some 103 := h (95, 22, 103) (by decide)
theorem r_95_23 {F : Nat → Nat → Option Nat} (h : RFok F) : F 95 23 = some 104 := h (95, 23, 104) (by decide)
theorem r_95_26 {F : Nat → Nat → Option Nat} (h : RFok F) : F 95 26 = some 105 := h (95, 26, 105) (by decide)
theorem r_95_27 {F : Nat → Nat → Option Nat} (h : RFok F) : F 95 27 = some 106 := h (95, 27, 106) (by decide)
theorem r_95_30 {F : Nat → Nat → Option Nat} (h : RFok F) : F 95 30 = some 107 := h (95, 30, 107) (by decide)
theorem r_95_31 {F : Nat → Nat → Option Nat} (h : RFok F) : F 95 31 = some 108 := h (95, 31, 108) (by decide)
theorem r_95_32 {F : Nat → Nat → Option Nat} (h : RFok F) : F 95 32 = some 109 := h (95, 32, 109) (by decide)
theorem r_95_33 {F : Nat → Nat → Option Nat} (h : RFok F) : F 95 33 = some 110 := h (95, 33, 110) (by decide)
def isO (o : Nat) : Prop := o = 4 ∨ o = 25
theorem s_o {o : Nat} (h : isO o) : SH[o]? = some (4, 18) := by rcases h with rfl | rfl <;> rfl
theorem l_o {o : Nat} (h : isO o) (j : Nat) (hj : j < 100) : o + j < 1000000 := by rcases h with rfl | rfl <;> omega
theorem l_o0 {o : Nat} (h : isO o) : o < 1000000 := by rcases h with rfl | rfl <;> omega
theorem s_o1 {o : Nat} (h : isO o) : SH[o + 1]? = some (12, 7) := by rcases h with rfl | rfl <;> rfl
theorem r_o2 {F : Nat → Nat → Option Nat} {o : Nat} (hF : RFok F) (h : isO o) : F o 2 = some (o + 1) := h.elim (fun e => by subst e; exact r_4_2 hF) (fun e => by subst e; exact r_25_2 hF)
theorem s_o2 {o : Nat} (h : isO o) : SH[o + 2]? = some (12, 6) := by rcases h with rfl | rfl <;> rfl
theorem r_o3 {F : Nat → Nat → Option Nat} {o : Nat} (hF : RFok F) (h : isO o) : F o 3 = some (o + 2) := h.elim (fun e => by subst e; exact r_4_3 hF) (fun e => by subst e; exact r_25_3 hF)
theorem s_o3 {o : Nat} (h : isO o) : SH[o + 3]? = some (12, 6) := by rcases h with rfl | rfl <;> rfl
theorem r_o4 {F : Nat → Nat → Option Nat} {o : Nat} (hF : RFok F) (h : isO o) : F o 4 = some (o + 3) := h.elim (fun e => by subst e; exact r_4_4 hF) (fun e => by subst e; exact r_25_4 hF)
theorem s_o4 {o : Nat} (h : isO o) : SH[o + 4]? = some (12, 6) := by rcases h with rfl | rfl <;> rfl
theorem r_o5 {F : Nat → Nat → Option Nat} {o : Nat} (hF : RFok F) (h : isO o) : F o 5 = some (o + 4) := h.elim (fun e => by subst e; exact r_4_5 hF) (fun e => by subst e; exact r_25_5 hF)
theorem s_o5 {o : Nat} (h : isO o) : SH[o + 5]? = some (12, 8) := by rcases h with rfl | rfl <;> rfl
theorem r_o6 {F : Nat → Nat → Option Nat} {o : Nat} (hF : RFok F) (h : isO o) : F o 6 = some (o + 5) := h.elim (fun e => by subst e; exact r_4_6 hF) (fun e => by subst e; exact r_25_6 hF)
theorem s_o6 {o : Nat} (h : isO o) : SH[o + 6]? = some (12, 8) := by rcases h with rfl | rfl <;> rfl
theorem r_o7 {F : Nat → Nat → Option Nat} {o : Nat} (hF : RFok F) (h : isO o) : F o 7 = some (o + 6) := h.elim (fun e => by subst e; exact r_4_7 hF) (fun e => by subst e; exact r_25_7 hF)
theorem s_o7 {o : Nat} (h : isO o) : SH[o + 7]? = some (12, 8) := by rcases h with rfl | rfl <;> rfl
theorem r_o8 {F : Nat → Nat → Option Nat} {o : Nat} (hF : RFok F) (h : isO o) : F o 8 = some (o + 7) := h.elim (fun e => by subst e; exact r_4_8 hF) (fun e => by subst e; exact r_25_8 hF)
theorem s_o8 {o : Nat} (h : isO o) : SH[o + 8]? = some (12, 8) := by rcases h with rfl | rfl <;> rfl
theorem r_o9 {F : Nat → Nat → Option Nat} {o : Nat} (hF : RFok F) (h : isO o) : F o 9 = some (o + 8) := h.elim (fun e => by subst e; exact r_4_9 hF) (fun e => by subst e; exact r_25_9 hF)
theorem s_o9 {o : Nat} (h : isO o) : SH[o + 9]? = some (12, 8) := by rcases h with rfl | rfl <;> rfl
theorem r_o10 {F : Nat → Nat → Option Nat} {o : Nat} (hF : RFok F) (h : isO o) : F o 10 = some (o + 9) := h.elim (fun e => by subst e; exact r_4_10 hF) (fun e => by subst e; exact r_25_10 hF)
theorem s_o10 {o : Nat} (h : isO o) : SH[o + 10]? = some (12, 8) := by rcases h with rfl | rfl <;> rfl
theorem r_o11 {F : Nat → Nat → Option Nat} {o : Nat} (hF : RFok F) (h : isO o) : F o 11 = some (o + 10) := h.elim (fun e => by subst e; exact r_4_11 hF) (fun e => by subst e; exact r_25_11 hF)
theorem s_o11 {o : Nat} (h : isO o) : SH[o + 11]? = some (12, 6) := by rcases h with rfl | rfl <;> rfl
theorem r_o12 {F : Nat → Nat → Option Nat} {o : Nat} (hF : RFok F) (h : isO o) : F o 12 = some (o + 11) := h.elim (fun e => by subst e; exact r_4_12 hF) (fun e => by subst e; exact r_25_12 hF)
theorem s_o12 {o : Nat} (h : isO o) : SH[o + 12]? = some (12, 6) := by rcases h with rfl | rfl <;> rfl
theorem r_o13 {F : Nat → Nat → Option Nat} {o : Nat} (hF : RFok F) (h : isO o) : F o 13 = some (o + 12) := h.elim (fun e => by subst e; exact r_4_13 hF) (fun e => by subst e; exact r_25_13 hF)
theorem s_o13 {o : Nat} (h : isO o) : SH[o + 13]? = some (12, 5) := by rcases h with rfl | rfl <;> rfl
theorem r_o14 {F : Nat → Nat → Option Nat} {o : Nat} (hF : RFok F) (h : isO o) : F o 14 = some (o + 13) := h.elim (fun e => by subst e; exact r_4_14 hF) (fun e => by subst e; exact r_25_14 hF)
theorem s_o14 {o : Nat} (h : isO o) : SH[o + 14]? = some (12, 5) := by rcases h with rfl | rfl <;> rfl
theorem r_o15 {F : Nat → Nat → Option Nat} {o : Nat} (hF : RFok F) (h : isO o) : F o 15 = some (o + 14) := h.elim (fun e => by subst e; exact r_4_15 hF) (fun e => by subst e; exact r_25_15 hF)
theorem s_o15 {o : Nat} (h : isO o) : SH[o + 15]? = some (12, 4) := by rcases h with rfl | rfl <;> rfl
theorem r_o16 {F : Nat → Nat → Option Nat} {o : Nat} (hF : RFok F) (h : isO o) : F o 16 = some (o + 15) := h.elim (fun e => by subst e; exact r_4_16 hF) (fun e => by subst e; exact r_25_16 hF)
theorem s_o16 {o : Nat} (h : isO o) : SH[o + 16]? = some (12, 4) := by rcases h with rfl | rfl <;> rfl
theorem r_o17 {F : Nat → Nat → Option Nat} {o : Nat} (hF : RFok F) (h : isO o) : F o 17 = some (o + 16) := h.elim (fun e => by subst e; exact r_4_17 hF) (fun e => by subst e; exact r_25_17 hF)
def isM (t : Nat) : Prop := SH[t]? = some (3, 6) ∧ t < 1000000
theorem nI_cl {j : Nat} (h : j < 1000) : (nI j).toNatClampNeg = j := nI_clamp (by omega)
theorem in_nJ {j n : Nat} (h : j < n) (hn : n < 1000) : ev_in (nI j) n = true := in_nI h (by omega)
/-- a loop's fold: from 0 up -/
def fN {α : Type} (f : Nat → α → α) (a : α) : Nat → α
  | 0 => a
  | n + 1 => f n (fN f a n)
theorem fN_c {α : Type} {f g : Nat → α → α} {a b : α} {n : Nat} (ha : a = b) (h : ∀ j x, j < n → f j x = g j x) : fN f a n = fN g b n := by
  subst ha
  induction n with
  | zero => rfl
  | succ n ih => rw [fN, fN, ih (fun j x hj => h j x (by omega)), h n _ (by omega)]
