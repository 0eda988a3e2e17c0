set_option maxRecDepth 10000 in
theorem x_isOfAge {I : Nat → Nat → Int32} {J : Nat → Nat → Int64} {F : Nat → Nat → Option Nat} {nc ns : Nat} {o : Nat} {D : oD} (ho : isO o) (hF : RFok F) (hC : oC I o D) (hD : WFc D) {w : Nat} {y : Int32} (hw : w < dN D 2) : Ev 0 mX4_isOfAge 0 [.ref o, .int (nI w), .int y, .null] [] ((SH, nc, ns), I, J, F) (some (.int (ageOk (y - D 9 w)))) ((SH, nc, ns), I, J, F) := by
  obtain ⟨b0, b1, b2, b3, b4, b5, b6⟩ := hD.2
  refine e_iload_n (p := 1) dX4_isOfAge_0 rfl rfl ?_
  refine e_aload_n (p := 2) dX4_isOfAge_1 rfl rfl ?_
  refine e_getR (c := 4) (j := 9) (n := 18) (b := (o + 8)) (p := 5) dX4_isOfAge_2 rfl (s_o ho) (l_o0 ho) (by decide) rfl (r_o9 hF ho) rfl ?_
  refine e_iload_n (p := 6) dX4_isOfAge_5 rfl rfl ?_
  refine f_iald (n := 8) (i := w) (v := D 9 w) (p := 7) dX4_isOfAge_6 (s_o8 ho) (l_o ho 8 (by decide)) (in_nJ (by omega) (by decide)) (nI_cl (by omega)) (c9 hC (by omega)) rfl ?_
  refine e_isub (p := 8) dX4_isOfAge_7 rfl ?_
  refine e_istore_n (ls1 := [.ref o, .int (nI w), .int y, .int (y - (D 9 w))]) (p := 9) dX4_isOfAge_8 rfl rfl ?_
  refine e_iload_n (p := 10) dX4_isOfAge_9 rfl rfl ?_
  refine e_bipush (v := 16) (p := 12) dX4_isOfAge_10 (by decide) rfl ?_
  refine e_icmp_lt (t := 25) (p := 15) dX4_isOfAge_12 (by decide) rfl rfl (fun hc12 => ?_) (fun hc12 => ?_)
  · skip
    refine e_iconst (v := 0) (p := 26) dX4_isOfAge_25 (by decide) rfl ?_
    exact e_iretE dX4_isOfAge_26 rfl (by decide) (by decide) ⟨by simp [ageOk, *], rfl⟩
  · skip
    refine e_iload_n (p := 16) dX4_isOfAge_15 rfl rfl ?_
    refine e_bipush (v := 40) (p := 18) dX4_isOfAge_16 (by decide) rfl ?_
    refine e_icmp_gt (t := 25) (p := 21) dX4_isOfAge_18 (by decide) rfl rfl (fun hc18 => ?_) (fun hc18 => ?_)
    · skip
      refine e_iconst (v := 0) (p := 26) dX4_isOfAge_25 (by decide) rfl ?_
      exact e_iretE dX4_isOfAge_26 rfl (by decide) (by decide) ⟨by simp [ageOk, *], rfl⟩
    · skip
      refine e_iconst (v := 1) (p := 22) dX4_isOfAge_21 (by decide) rfl ?_
      refine e_goto (p := 26) dX4_isOfAge_22 (by decide) rfl ?_
      exact e_iretE dX4_isOfAge_26 rfl (by decide) (by decide) ⟨by simp [ageOk, *], rfl⟩
set_option maxRecDepth 10000 in
theorem x_isTold {I : Nat → Nat → Int32} {J : Nat → Nat → Int64} {F : Nat → Nat → Option Nat} {nc ns : Nat} {o : Nat} {D : oD} (ho : isO o) (hF : RFok F) (hC : oC I o D) (hD : WFc D)  : Ev 0 mX4_isTold 0 [.ref o] [] ((SH, nc, ns), I, J, F) (some (.int (if D 0 0 ≤ 0 then 0 else 1))) ((SH, nc, ns), I, J, F) := by
  refine e_aload_n (p := 1) dX4_isTold_0 rfl rfl ?_
  refine f_getI (c := 4) (j := 0) (n := 18) (v := D 0 0) (p := 4) dX4_isTold_1 rfl (s_o ho) (l_o0 ho) (by decide) (Or.inl rfl) hC.1 rfl ?_
  refine e_if_le (t := 11) (p := 7) dX4_isTold_4 (by decide) rfl rfl (fun hc4 => ?_) (fun hc4 => ?_)
  · skip
    refine e_iconst (v := 0) (p := 12) dX4_isTold_11 (by decide) rfl ?_
    exact e_iretE dX4_isTold_12 rfl (by decide) (by decide) ⟨by simp [*], rfl⟩
  · skip
    refine e_iconst (v := 1) (p := 8) dX4_isTold_7 (by decide) rfl ?_
    refine e_goto (p := 12) dX4_isTold_8 (by decide) rfl ?_
    exact e_iretE dX4_isTold_12 rfl (by decide) (by decide) ⟨by simp [*], rfl⟩
set_option maxRecDepth 10000 in
theorem x_servedIn {I : Nat → Nat → Int32} {J : Nat → Nat → Int64} {F : Nat → Nat → Option Nat} {nc ns : Nat} {o : Nat} {D : oD} (ho : isO o) (hF : RFok F) (hC : oC I o D) (hD : WFc D) {k : Nat} {y : Int32} (hk : k < dN D 5) : Ev 0 mX4_servedIn 0 [.ref o, .int (nI k), .int y] [] ((SH, nc, ns), I, J, F) (some (.int (servedS D k y))) ((SH, nc, ns), I, J, F) := by
  obtain ⟨b0, b1, b2, b3, b4, b5, b6⟩ := hD.2
  refine e_aload_n (p := 1) dX4_servedIn_0 rfl rfl ?_
  refine e_getR (c := 4) (j := 15) (n := 18) (b := (o + 14)) (p := 4) dX4_servedIn_1 rfl (s_o ho) (l_o0 ho) (by decide) rfl (r_o15 hF ho) rfl ?_
  refine e_iload_n (p := 5) dX4_servedIn_4 rfl rfl ?_
  refine f_iald (n := 5) (i := k) (v := D 15 k) (p := 6) dX4_servedIn_5 (s_o14 ho) (l_o ho 14 (by decide)) (in_nJ (by omega) (by decide)) (nI_cl (by omega)) (c15 hC (by omega)) rfl ?_
  refine e_iconst (v := 0) (p := 7) dX4_servedIn_6 (by decide) rfl ?_
  refine e_iload_n (p := 8) dX4_servedIn_7 rfl rfl ?_
  refine e_aload_n (p := 9) dX4_servedIn_8 rfl rfl ?_
  refine e_getR (c := 4) (j := 14) (n := 18) (b := (o + 13)) (p := 12) dX4_servedIn_9 rfl (s_o ho) (l_o0 ho) (by decide) rfl (r_o14 hF ho) rfl ?_
  refine e_iload_n (p := 13) dX4_servedIn_12 rfl rfl ?_
  refine f_iald (n := 5) (i := k) (v := D 14 k) (p := 14) dX4_servedIn_13 (s_o13 ho) (l_o ho 13 (by decide)) (in_nJ (by omega) (by decide)) (nI_cl (by omega)) (c14 hC (by omega)) rfl ?_
  refine e_isub (p := 15) dX4_servedIn_14 rfl ?_
  refine e_max (p := 18) dX4_servedIn_15 rfl (Nat.le_of_ble_eq_true rfl) rfl ?_
  refine e_imul (p := 19) dX4_servedIn_18 rfl ?_
  exact e_iretE dX4_servedIn_19 rfl rfl (by decide) ⟨rfl, rfl⟩
theorem sw_out13 {x : Int32} (h1 : ¬ x = 1) (h2 : ¬ x = 2) (h3 : ¬ x = 3) : x.toInt < 1 ∨ 3 < x.toInt := by
  by_cases h : x.toInt < 1
  · exact Or.inl h
  · by_cases z : 3 < x.toInt
    · exact Or.inr z
    · exfalso
      have e1 : x.toInt = 1 ∨ x.toInt = 2 ∨ x.toInt = 3 := by omega
      rcases e1 with e | e | e
      · exact h1 (Int32.toInt_inj.mp e)
      · exact h2 (Int32.toInt_inj.mp e)
      · exact h3 (Int32.toInt_inj.mp e)
set_option maxRecDepth 10000 in
theorem x_unrivalledIn {I : Nat → Nat → Int32} {J : Nat → Nat → Int64} {F : Nat → Nat → Option Nat} {nc ns : Nat} {o : Nat} {D : oD} (ho : isO o) (hF : RFok F) (hC : oC I o D) (hD : WFc D) (hH : WFh D) {w : Nat} {y : Int32} (hw : w < dN D 2) : Ev 1 mX4_unrivalledIn 0 [.ref o, .int (nI w), .int y, .null] [] ((SH, nc, ns), I, J, F) (some (.int (heartS D w y))) ((SH, nc, ns), I, J, F) := by
  obtain ⟨b0, b1, b2, b3, b4, b5, b6⟩ := hD.2
  refine e_aload_n (p := 1) dX4_unrivalledIn_0 rfl rfl ?_
  refine e_iload_n (p := 2) dX4_unrivalledIn_1 rfl rfl ?_
  refine e_iload_n (p := 3) dX4_unrivalledIn_2 rfl rfl ?_
  refine e_callV_int (p := 6) (k' := 0) (a := [.ref o, .int (nI w), .int y]) (rr := []) dX4_unrivalledIn_3 rfl rfl rfl rfl (rc_of rfl (s_o ho) (l_o0 ho) ⟨rfl, by decide⟩) (Nat.le_of_ble_eq_true rfl) (Nat.le_of_ble_eq_true rfl) (by decide) (x_isOfAge ho hF hC hD hw) (Or.inl rfl) rfl ?_
  refine e_if_ne (t := 11) (p := 9) dX4_unrivalledIn_6 (by decide) rfl rfl (fun hc6 => ?_) (fun hc6 => ?_)
  · skip
    refine e_aload_n (p := 12) dX4_unrivalledIn_11 rfl rfl ?_
    refine e_getR (c := 4) (j := 8) (n := 18) (b := (o + 7)) (p := 15) dX4_unrivalledIn_12 rfl (s_o ho) (l_o0 ho) (by decide) rfl (r_o8 hF ho) rfl ?_
    refine e_iload_n (p := 16) dX4_unrivalledIn_15 rfl rfl ?_
    refine f_iald (n := 8) (i := w) (v := D 8 w) (p := 17) dX4_unrivalledIn_16 (s_o7 ho) (l_o ho 7 (by decide)) (in_nJ (by omega) (by decide)) (nI_cl (by omega)) (c8 hC (by omega)) rfl ?_
    refine e_sipush (v := 200) (p := 20) dX4_unrivalledIn_17 (by decide) rfl ?_
    refine e_aload_n (p := 21) dX4_unrivalledIn_20 rfl rfl ?_
    refine e_getR (c := 4) (j := 3) (n := 18) (b := (o + 2)) (p := 24) dX4_unrivalledIn_21 rfl (s_o ho) (l_o0 ho) (by decide) rfl (r_o3 hF ho) rfl ?_
    refine e_aload_n (p := 25) dX4_unrivalledIn_24 rfl rfl ?_
    refine e_getR (c := 4) (j := 7) (n := 18) (b := (o + 6)) (p := 28) dX4_unrivalledIn_25 rfl (s_o ho) (l_o0 ho) (by decide) rfl (r_o7 hF ho) rfl ?_
    refine e_iload_n (p := 29) dX4_unrivalledIn_28 rfl rfl ?_
    refine f_iald (n := 8) (i := w) (v := D 7 w) (p := 30) dX4_unrivalledIn_29 (s_o6 ho) (l_o ho 6 (by decide)) (in_nJ (by omega) (by decide)) (nI_cl (by omega)) (c7 hC (by omega)) rfl ?_
    refine f_iald (n := 6) (i := (D 7 w).toNatClampNeg) (v := D 3 ((D 7 w).toNatClampNeg)) (p := 31) dX4_unrivalledIn_30 (s_o2 ho) (l_o ho 2 (by decide)) (hm_in hD hH hw) rfl (c3 hC (hm_lt hD hH hw)) rfl ?_
    refine e_isub (p := 32) dX4_unrivalledIn_31 rfl ?_
    refine e_imul (p := 33) dX4_unrivalledIn_32 rfl ?_
    refine e_sipush (v := 200) (p := 36) dX4_unrivalledIn_33 (by decide) rfl ?_
    refine e_idiv (p := 37) dX4_unrivalledIn_36 (by decide) rfl ?_
    refine e_istore_n (ls1 := [.ref o, .int (nI w), .int y, .int (((D 8 w) * (200 - (D 3 ((D 7 w).toNatClampNeg)))) / 200)]) (p := 38) dX4_unrivalledIn_37 rfl rfl ?_
    refine e_aload_n (p := 39) dX4_unrivalledIn_38 rfl rfl ?_
    refine e_getR (c := 4) (j := 6) (n := 18) (b := (o + 5)) (p := 42) dX4_unrivalledIn_39 rfl (s_o ho) (l_o0 ho) (by decide) rfl (r_o6 hF ho) rfl ?_
    refine e_iload_n (p := 43) dX4_unrivalledIn_42 rfl rfl ?_
    refine f_iald (n := 8) (i := w) (v := D 6 w) (p := 44) dX4_unrivalledIn_43 (s_o5 ho) (l_o ho 5 (by decide)) (in_nJ (by omega) (by decide)) (nI_cl (by omega)) (c6 hC (by omega)) rfl ?_
    rcases (show D 6 w = 1 ∨ D 6 w = 2 ∨ D 6 w = 3 ∨ (¬ D 6 w = 1 ∧ ¬ D 6 w = 2 ∧ ¬ D 6 w = 3) by
    by_cases z1 : D 6 w = 1
    · exact Or.inl z1
    · by_cases z2 : D 6 w = 2
      · exact Or.inr (Or.inl z2)
      · by_cases z3 : D 6 w = 3
        · exact Or.inr (Or.inr (Or.inl z3))
        · exact Or.inr (Or.inr (Or.inr ⟨z1, z2, z3⟩))) with hk | hk | hk | hk
    · rw [hk]
      refine e_swIn (p := 72) dX4_unrivalledIn_44 (by decide) rfl (by decide) rfl ?_
      refine e_aload_n (p := 73) dX4_unrivalledIn_72 rfl rfl ?_
      refine e_getR (c := 4) (j := 8) (n := 18) (b := (o + 7)) (p := 76) dX4_unrivalledIn_73 rfl (s_o ho) (l_o0 ho) (by decide) rfl (r_o8 hF ho) rfl ?_
      refine e_iload_n (p := 77) dX4_unrivalledIn_76 rfl rfl ?_
      refine f_iald (n := 8) (i := w) (v := D 8 w) (p := 78) dX4_unrivalledIn_77 (s_o7 ho) (l_o ho 7 (by decide)) (in_nJ (by omega) (by decide)) (nI_cl (by omega)) (c8 hC (by omega)) rfl ?_
      exact e_iretE dX4_unrivalledIn_78 rfl rfl (by decide) ⟨by simp [heartS, *], rfl⟩
    · rw [hk]
      refine e_swIn (p := 79) dX4_unrivalledIn_44 (by decide) rfl (by decide) rfl ?_
      refine e_iload_n (p := 80) dX4_unrivalledIn_79 rfl rfl ?_
      refine e_aload_n (p := 81) dX4_unrivalledIn_80 rfl rfl ?_
      refine e_getR (c := 4) (j := 4) (n := 18) (b := (o + 3)) (p := 84) dX4_unrivalledIn_81 rfl (s_o ho) (l_o0 ho) (by decide) rfl (r_o4 hF ho) rfl ?_
      refine e_aload_n (p := 85) dX4_unrivalledIn_84 rfl rfl ?_
      refine e_getR (c := 4) (j := 7) (n := 18) (b := (o + 6)) (p := 88) dX4_unrivalledIn_85 rfl (s_o ho) (l_o0 ho) (by decide) rfl (r_o7 hF ho) rfl ?_
      refine e_iload_n (p := 89) dX4_unrivalledIn_88 rfl rfl ?_
      refine f_iald (n := 8) (i := w) (v := D 7 w) (p := 90) dX4_unrivalledIn_89 (s_o6 ho) (l_o ho 6 (by decide)) (in_nJ (by omega) (by decide)) (nI_cl (by omega)) (c7 hC (by omega)) rfl ?_
      refine f_iald (n := 6) (i := (D 7 w).toNatClampNeg) (v := D 4 ((D 7 w).toNatClampNeg)) (p := 91) dX4_unrivalledIn_90 (s_o3 ho) (l_o ho 3 (by decide)) (hm_in hD hH hw) rfl (c4 hC (hm_lt hD hH hw)) rfl ?_
      refine e_iconst (v := 2) (p := 92) dX4_unrivalledIn_91 (by decide) rfl ?_
      refine e_idiv (p := 93) dX4_unrivalledIn_92 (by decide) rfl ?_
      refine e_max (p := 96) dX4_unrivalledIn_93 rfl (Nat.le_of_ble_eq_true rfl) rfl ?_
      exact e_iretE dX4_unrivalledIn_96 rfl rfl (by decide) ⟨by simp [heartS, *], rfl⟩
    · rw [hk]
      refine e_swIn (p := 97) dX4_unrivalledIn_44 (by decide) rfl (by decide) rfl ?_
      refine e_iload_n (p := 98) dX4_unrivalledIn_97 rfl rfl ?_
      refine e_iconst (v := 2) (p := 99) dX4_unrivalledIn_98 (by decide) rfl ?_
      refine e_idiv (p := 100) dX4_unrivalledIn_99 (by decide) rfl ?_
      exact e_iretE dX4_unrivalledIn_100 rfl rfl (by decide) ⟨by simp [heartS, *], rfl⟩
    · obtain ⟨z1, z2, z3⟩ := hk
      refine e_swOut (p := 101) dX4_unrivalledIn_44 (sw_out13 z1 z2 z3) (by decide) rfl ?_
      refine e_iload_n (p := 102) dX4_unrivalledIn_101 rfl rfl ?_
      exact e_iretE dX4_unrivalledIn_102 rfl rfl (by decide) ⟨by simp [heartS, *], rfl⟩
  · skip
    refine e_iconst (v := 0) (p := 10) dX4_unrivalledIn_9 (by decide) rfl ?_
    exact e_iretE dX4_unrivalledIn_10 rfl rfl (by decide) ⟨by simp [heartS, *], rfl⟩
set_option maxRecDepth 10000 in
theorem x_womenIn_L {I : Nat → Nat → Int32} {J : Nat → Nat → Int64} {F : Nat → Nat → Option Nat} {nc ns : Nat} {o : Nat} {D : oD} (ho : isO o) (hF : RFok F) (hC : oC I o D) (hD : WFc D) {h : Int32} : ∀ (m j : Nat) (acc : Int32), j + m = dN D 2 → Ev 0 mX4_womenIn 4 [.ref o, .int h, .int acc, .int (nI j)] [] ((SH, nc, ns), I, J, F) (some (.int (gN (fun w a => if D 7 w = h then a ||| bit w else a) j m acc))) ((SH, nc, ns), I, J, F)
  | 0, j, acc, hj => by
    obtain ⟨b0, b1, b2, b3, b4, b5, b6⟩ := hD.2
    refine e_iload_n (p := 5) dX4_womenIn_4 rfl rfl ?_
    refine e_aload_n (p := 6) dX4_womenIn_5 rfl rfl ?_
    refine e_getR (c := 4) (j := 2) (n := 18) (b := (o + 1)) (p := 9) dX4_womenIn_6 rfl (s_o ho) (l_o0 ho) (by decide) rfl (r_o2 hF ho) rfl ?_
    refine e_iconst (v := 2) (p := 10) dX4_womenIn_9 (by decide) rfl ?_
    refine f_iald (n := 7) (i := 2) (v := nI (dN D 2)) (p := 11) dX4_womenIn_10 (s_o1 ho) (l_o ho 1 (by decide)) (by decide) (by decide) (cN hC hD (by decide)) rfl ?_
    refine e_icmp_ge (t := 36) (p := 14) dX4_womenIn_11 (by decide) rfl rfl (fun hc11 => ?_) (fun hc11 => absurd (nle (by omega) (by omega)) hc11)
    refine e_iload_n (p := 37) dX4_womenIn_36 rfl rfl ?_
    exact e_iretE dX4_womenIn_37 rfl rfl (by decide) ⟨rfl, rfl⟩
  | m + 1, j, acc, hj => by
    obtain ⟨b0, b1, b2, b3, b4, b5, b6⟩ := hD.2
    refine e_iload_n (p := 5) dX4_womenIn_4 rfl rfl ?_
    refine e_aload_n (p := 6) dX4_womenIn_5 rfl rfl ?_
    refine e_getR (c := 4) (j := 2) (n := 18) (b := (o + 1)) (p := 9) dX4_womenIn_6 rfl (s_o ho) (l_o0 ho) (by decide) rfl (r_o2 hF ho) rfl ?_
    refine e_iconst (v := 2) (p := 10) dX4_womenIn_9 (by decide) rfl ?_
    refine f_iald (n := 7) (i := 2) (v := nI (dN D 2)) (p := 11) dX4_womenIn_10 (s_o1 ho) (l_o ho 1 (by decide)) (by decide) (by decide) (cN hC hD (by decide)) rfl ?_
    refine e_icmp_ge (t := 36) (p := 14) dX4_womenIn_11 (by decide) rfl rfl (fun hc11 => absurd hc11 (nge (by omega) (by omega))) (fun hc11 => ?_)
    refine e_aload_n (p := 15) dX4_womenIn_14 rfl rfl ?_
    refine e_getR (c := 4) (j := 7) (n := 18) (b := (o + 6)) (p := 18) dX4_womenIn_15 rfl (s_o ho) (l_o0 ho) (by decide) rfl (r_o7 hF ho) rfl ?_
    refine e_iload_n (p := 19) dX4_womenIn_18 rfl rfl ?_
    refine f_iald (n := 8) (i := j) (v := D 7 j) (p := 20) dX4_womenIn_19 (s_o6 ho) (l_o ho 6 (by decide)) (in_nJ (by omega) (by decide)) (nI_cl (by omega)) (c7 hC (by omega)) rfl ?_
    refine e_iload_n (p := 21) dX4_womenIn_20 rfl rfl ?_
    refine e_icmp_ne (t := 30) (p := 24) dX4_womenIn_21 (by decide) rfl rfl (fun hc21 => ?_) (fun hc21 => ?_)
    · skip
      refine e_iinc (ls1 := [.ref o, .int h, .int acc, .int ((nI j) + 1)]) (p := 33) dX4_womenIn_30 rfl rfl rfl ?_
      refine e_goto (p := 4) dX4_womenIn_33 (by decide) rfl ?_
      rw [nI_1]
      exact Ev.res (by simp only [gN_s, hc21, bit, Int32.or_zero, Int32.add_zero, ↓reduceIte]) (x_womenIn_L ho hF hC hD m (j + 1) _ (by omega))
    · skip
      refine e_iload_n (p := 25) dX4_womenIn_24 rfl rfl ?_
      refine e_iconst (v := 1) (p := 26) dX4_womenIn_25 (by decide) rfl ?_
      refine e_iload_n (p := 27) dX4_womenIn_26 rfl rfl ?_
      refine e_ishl (p := 28) dX4_womenIn_27 rfl ?_
      refine e_ior (p := 29) dX4_womenIn_28 rfl ?_
      refine e_istore_n (ls1 := [.ref o, .int h, .int (acc ||| (1 <<< ((nI j) &&& 31))), .int (nI j)]) (p := 30) dX4_womenIn_29 rfl rfl ?_
      refine e_iinc (ls1 := [.ref o, .int h, .int (acc ||| (1 <<< ((nI j) &&& 31))), .int ((nI j) + 1)]) (p := 33) dX4_womenIn_30 rfl rfl rfl ?_
      refine e_goto (p := 4) dX4_womenIn_33 (by decide) rfl ?_
      rw [nI_1]
      exact Ev.res (by simp only [gN_s, hc21, bit, Int32.or_zero, Int32.add_zero, ↓reduceIte]) (x_womenIn_L ho hF hC hD m (j + 1) _ (by omega))
set_option maxRecDepth 10000 in
theorem x_womenIn {I : Nat → Nat → Int32} {J : Nat → Nat → Int64} {F : Nat → Nat → Option Nat} {nc ns : Nat} {o : Nat} {D : oD} (ho : isO o) (hF : RFok F) (hC : oC I o D) (hD : WFc D) {h : Int32} : Ev 0 mX4_womenIn 0 [.ref o, .int h, .null, .null] [] ((SH, nc, ns), I, J, F) (some (.int (womenInS D h))) ((SH, nc, ns), I, J, F) := by
  obtain ⟨b0, b1, b2, b3, b4, b5, b6⟩ := hD.2
  refine e_iconst (v := 0) (p := 1) dX4_womenIn_0 (by decide) rfl ?_
  refine e_istore_n (ls1 := [.ref o, .int h, .int 0, .null]) (p := 2) dX4_womenIn_1 rfl rfl ?_
  refine e_iconst (v := 0) (p := 3) dX4_womenIn_2 (by decide) rfl ?_
  refine e_istore_n (ls1 := [.ref o, .int h, .int 0, .int 0]) (p := 4) dX4_womenIn_3 rfl rfl ?_
  exact x_womenIn_L ho hF hC hD _ 0 _ (by omega)
set_option maxRecDepth 10000 in
theorem x_lettersDue_L {I : Nat → Nat → Int32} {J : Nat → Nat → Int64} {F : Nat → Nat → Option Nat} {nc ns : Nat} {o : Nat} {D : oD} (ho : isO o) (hF : RFok F) (hC : oC I o D) (hD : WFc D) {h y : Int32} : ∀ (m j : Nat) (acc : Int32), j + m = dN D 4 → Ev 0 mX4_lettersDue 5 [.ref o, .int h, .int y, .int acc, .int (nI j)] [] ((SH, nc, ns), I, J, F) (some (.int (gN (fun k a => if D 12 k = h then (if D 13 k < y then a else a ||| bit k) else a) j m acc))) ((SH, nc, ns), I, J, F)
  | 0, j, acc, hj => by
    obtain ⟨b0, b1, b2, b3, b4, b5, b6⟩ := hD.2
    refine e_iload (p := 7) dX4_lettersDue_5 rfl rfl ?_
    refine e_aload_n (p := 8) dX4_lettersDue_7 rfl rfl ?_
    refine e_getR (c := 4) (j := 2) (n := 18) (b := (o + 1)) (p := 11) dX4_lettersDue_8 rfl (s_o ho) (l_o0 ho) (by decide) rfl (r_o2 hF ho) rfl ?_
    refine e_iconst (v := 4) (p := 12) dX4_lettersDue_11 (by decide) rfl ?_
    refine f_iald (n := 7) (i := 4) (v := nI (dN D 4)) (p := 13) dX4_lettersDue_12 (s_o1 ho) (l_o ho 1 (by decide)) (by decide) (by decide) (cN hC hD (by decide)) rfl ?_
    refine e_icmp_ge (t := 51) (p := 16) dX4_lettersDue_13 (by decide) rfl rfl (fun hc13 => ?_) (fun hc13 => absurd (nle (by omega) (by omega)) hc13)
    refine e_iload_n (p := 52) dX4_lettersDue_51 rfl rfl ?_
    exact e_iretE dX4_lettersDue_52 rfl rfl (by decide) ⟨rfl, rfl⟩
  | m + 1, j, acc, hj => by
    obtain ⟨b0, b1, b2, b3, b4, b5, b6⟩ := hD.2
    refine e_iload (p := 7) dX4_lettersDue_5 rfl rfl ?_
    refine e_aload_n (p := 8) dX4_lettersDue_7 rfl rfl ?_
    refine e_getR (c := 4) (j := 2) (n := 18) (b := (o + 1)) (p := 11) dX4_lettersDue_8 rfl (s_o ho) (l_o0 ho) (by decide) rfl (r_o2 hF ho) rfl ?_
    refine e_iconst (v := 4) (p := 12) dX4_lettersDue_11 (by decide) rfl ?_
    refine f_iald (n := 7) (i := 4) (v := nI (dN D 4)) (p := 13) dX4_lettersDue_12 (s_o1 ho) (l_o ho 1 (by decide)) (by decide) (by decide) (cN hC hD (by decide)) rfl ?_
    refine e_icmp_ge (t := 51) (p := 16) dX4_lettersDue_13 (by decide) rfl rfl (fun hc13 => absurd hc13 (nge (by omega) (by omega))) (fun hc13 => ?_)
    refine e_aload_n (p := 17) dX4_lettersDue_16 rfl rfl ?_
    refine e_getR (c := 4) (j := 12) (n := 18) (b := (o + 11)) (p := 20) dX4_lettersDue_17 rfl (s_o ho) (l_o0 ho) (by decide) rfl (r_o12 hF ho) rfl ?_
    refine e_iload (p := 22) dX4_lettersDue_20 rfl rfl ?_
    refine f_iald (n := 6) (i := j) (v := D 12 j) (p := 23) dX4_lettersDue_22 (s_o11 ho) (l_o ho 11 (by decide)) (in_nJ (by omega) (by decide)) (nI_cl (by omega)) (c12 hC (by omega)) rfl ?_
    refine e_iload_n (p := 24) dX4_lettersDue_23 rfl rfl ?_
    refine e_icmp_ne (t := 45) (p := 27) dX4_lettersDue_24 (by decide) rfl rfl (fun hc24 => ?_) (fun hc24 => ?_)
    · skip
      refine e_iinc (ls1 := [.ref o, .int h, .int y, .int acc, .int ((nI j) + 1)]) (p := 48) dX4_lettersDue_45 rfl rfl rfl ?_
      refine e_goto (p := 5) dX4_lettersDue_48 (by decide) rfl ?_
      rw [nI_1]
      exact Ev.res (by simp only [gN_s, hc24, bit, Int32.or_zero, Int32.add_zero, ↓reduceIte]) (x_lettersDue_L ho hF hC hD m (j + 1) _ (by omega))
    · skip
      refine e_aload_n (p := 28) dX4_lettersDue_27 rfl rfl ?_
      refine e_getR (c := 4) (j := 13) (n := 18) (b := (o + 12)) (p := 31) dX4_lettersDue_28 rfl (s_o ho) (l_o0 ho) (by decide) rfl (r_o13 hF ho) rfl ?_
      refine e_iload (p := 33) dX4_lettersDue_31 rfl rfl ?_
      refine f_iald (n := 6) (i := j) (v := D 13 j) (p := 34) dX4_lettersDue_33 (s_o12 ho) (l_o ho 12 (by decide)) (in_nJ (by omega) (by decide)) (nI_cl (by omega)) (c13 hC (by omega)) rfl ?_
      refine e_iload_n (p := 35) dX4_lettersDue_34 rfl rfl ?_
      refine e_icmp_lt (t := 45) (p := 38) dX4_lettersDue_35 (by decide) rfl rfl (fun hc35 => ?_) (fun hc35 => ?_)
      · skip
        refine e_iinc (ls1 := [.ref o, .int h, .int y, .int acc, .int ((nI j) + 1)]) (p := 48) dX4_lettersDue_45 rfl rfl rfl ?_
        refine e_goto (p := 5) dX4_lettersDue_48 (by decide) rfl ?_
        rw [nI_1]
        exact Ev.res (by simp only [gN_s, hc24, hc35, (Int32.not_le.mpr hc35), bit, Int32.or_zero, Int32.add_zero, ↓reduceIte]) (x_lettersDue_L ho hF hC hD m (j + 1) _ (by omega))
      · skip
        refine e_iload_n (p := 39) dX4_lettersDue_38 rfl rfl ?_
        refine e_iconst (v := 1) (p := 40) dX4_lettersDue_39 (by decide) rfl ?_
        refine e_iload (p := 42) dX4_lettersDue_40 rfl rfl ?_
        refine e_ishl (p := 43) dX4_lettersDue_42 rfl ?_
        refine e_ior (p := 44) dX4_lettersDue_43 rfl ?_
        refine e_istore_n (ls1 := [.ref o, .int h, .int y, .int (acc ||| (1 <<< ((nI j) &&& 31))), .int (nI j)]) (p := 45) dX4_lettersDue_44 rfl rfl ?_
        refine e_iinc (ls1 := [.ref o, .int h, .int y, .int (acc ||| (1 <<< ((nI j) &&& 31))), .int ((nI j) + 1)]) (p := 48) dX4_lettersDue_45 rfl rfl rfl ?_
        refine e_goto (p := 5) dX4_lettersDue_48 (by decide) rfl ?_
        rw [nI_1]
        exact Ev.res (by simp only [gN_s, hc24, hc35, (Int32.not_lt.mp hc35), bit, Int32.or_zero, Int32.add_zero, ↓reduceIte]) (x_lettersDue_L ho hF hC hD m (j + 1) _ (by omega))
set_option maxRecDepth 10000 in
theorem x_lettersDue {I : Nat → Nat → Int32} {J : Nat → Nat → Int64} {F : Nat → Nat → Option Nat} {nc ns : Nat} {o : Nat} {D : oD} (ho : isO o) (hF : RFok F) (hC : oC I o D) (hD : WFc D) {h y : Int32} : Ev 0 mX4_lettersDue 0 [.ref o, .int h, .int y, .null, .null] [] ((SH, nc, ns), I, J, F) (some (.int (dueS D h y))) ((SH, nc, ns), I, J, F) := by
  obtain ⟨b0, b1, b2, b3, b4, b5, b6⟩ := hD.2
  refine e_iconst (v := 0) (p := 1) dX4_lettersDue_0 (by decide) rfl ?_
  refine e_istore_n (ls1 := [.ref o, .int h, .int y, .int 0, .null]) (p := 2) dX4_lettersDue_1 rfl rfl ?_
  refine e_iconst (v := 0) (p := 3) dX4_lettersDue_2 (by decide) rfl ?_
  refine e_istore (ls1 := [.ref o, .int h, .int y, .int 0, .int 0]) (p := 5) dX4_lettersDue_3 rfl rfl ?_
  exact x_lettersDue_L ho hF hC hD _ 0 _ (by omega)
set_option maxRecDepth 10000 in
theorem x_rivalsOf_L {I : Nat → Nat → Int32} {J : Nat → Nat → Int64} {F : Nat → Nat → Option Nat} {nc ns : Nat} {o : Nat} {D : oD} (ho : isO o) (hF : RFok F) (hC : oC I o D) (hD : WFc D) {h : Int32} : ∀ (m j : Nat) (acc : Int32), j + m = dN D 3 → Ev 0 mX4_rivalsOf 4 [.ref o, .int h, .int acc, .int (nI j)] [] ((SH, nc, ns), I, J, F) (some (.int (gN (fun k a => if D 10 k = h then a + 1 else a) j m acc))) ((SH, nc, ns), I, J, F)
  | 0, j, acc, hj => by
    obtain ⟨b0, b1, b2, b3, b4, b5, b6⟩ := hD.2
    refine e_iload_n (p := 5) dX4_rivalsOf_4 rfl rfl ?_
    refine e_aload_n (p := 6) dX4_rivalsOf_5 rfl rfl ?_
    refine e_getR (c := 4) (j := 2) (n := 18) (b := (o + 1)) (p := 9) dX4_rivalsOf_6 rfl (s_o ho) (l_o0 ho) (by decide) rfl (r_o2 hF ho) rfl ?_
    refine e_iconst (v := 3) (p := 10) dX4_rivalsOf_9 (by decide) rfl ?_
    refine f_iald (n := 7) (i := 3) (v := nI (dN D 3)) (p := 11) dX4_rivalsOf_10 (s_o1 ho) (l_o ho 1 (by decide)) (by decide) (by decide) (cN hC hD (by decide)) rfl ?_
    refine e_icmp_ge (t := 33) (p := 14) dX4_rivalsOf_11 (by decide) rfl rfl (fun hc11 => ?_) (fun hc11 => absurd (nle (by omega) (by omega)) hc11)
    refine e_iload_n (p := 34) dX4_rivalsOf_33 rfl rfl ?_
    exact e_iretE dX4_rivalsOf_34 rfl rfl (by decide) ⟨rfl, rfl⟩
  | m + 1, j, acc, hj => by
    obtain ⟨b0, b1, b2, b3, b4, b5, b6⟩ := hD.2
    refine e_iload_n (p := 5) dX4_rivalsOf_4 rfl rfl ?_
    refine e_aload_n (p := 6) dX4_rivalsOf_5 rfl rfl ?_
    refine e_getR (c := 4) (j := 2) (n := 18) (b := (o + 1)) (p := 9) dX4_rivalsOf_6 rfl (s_o ho) (l_o0 ho) (by decide) rfl (r_o2 hF ho) rfl ?_
    refine e_iconst (v := 3) (p := 10) dX4_rivalsOf_9 (by decide) rfl ?_
    refine f_iald (n := 7) (i := 3) (v := nI (dN D 3)) (p := 11) dX4_rivalsOf_10 (s_o1 ho) (l_o ho 1 (by decide)) (by decide) (by decide) (cN hC hD (by decide)) rfl ?_
    refine e_icmp_ge (t := 33) (p := 14) dX4_rivalsOf_11 (by decide) rfl rfl (fun hc11 => absurd hc11 (nge (by omega) (by omega))) (fun hc11 => ?_)
    refine e_aload_n (p := 15) dX4_rivalsOf_14 rfl rfl ?_
    refine e_getR (c := 4) (j := 10) (n := 18) (b := (o + 9)) (p := 18) dX4_rivalsOf_15 rfl (s_o ho) (l_o0 ho) (by decide) rfl (r_o10 hF ho) rfl ?_
    refine e_iload_n (p := 19) dX4_rivalsOf_18 rfl rfl ?_
    refine f_iald (n := 8) (i := j) (v := D 10 j) (p := 20) dX4_rivalsOf_19 (s_o9 ho) (l_o ho 9 (by decide)) (in_nJ (by omega) (by decide)) (nI_cl (by omega)) (c10 hC (by omega)) rfl ?_
    refine e_iload_n (p := 21) dX4_rivalsOf_20 rfl rfl ?_
    refine e_icmp_ne (t := 27) (p := 24) dX4_rivalsOf_21 (by decide) rfl rfl (fun hc21 => ?_) (fun hc21 => ?_)
    · skip
      refine e_iinc (ls1 := [.ref o, .int h, .int acc, .int ((nI j) + 1)]) (p := 30) dX4_rivalsOf_27 rfl rfl rfl ?_
      refine e_goto (p := 4) dX4_rivalsOf_30 (by decide) rfl ?_
      rw [nI_1]
      exact Ev.res (by simp only [gN_s, hc21, bit, Int32.or_zero, Int32.add_zero, ↓reduceIte]) (x_rivalsOf_L ho hF hC hD m (j + 1) _ (by omega))
    · skip
      refine e_iinc (ls1 := [.ref o, .int h, .int (acc + 1), .int (nI j)]) (p := 27) dX4_rivalsOf_24 rfl rfl rfl ?_
      refine e_iinc (ls1 := [.ref o, .int h, .int (acc + 1), .int ((nI j) + 1)]) (p := 30) dX4_rivalsOf_27 rfl rfl rfl ?_
      refine e_goto (p := 4) dX4_rivalsOf_30 (by decide) rfl ?_
      rw [nI_1]
      exact Ev.res (by simp only [gN_s, hc21, bit, Int32.or_zero, Int32.add_zero, ↓reduceIte]) (x_rivalsOf_L ho hF hC hD m (j + 1) _ (by omega))
set_option maxRecDepth 10000 in
theorem x_rivalsOf {I : Nat → Nat → Int32} {J : Nat → Nat → Int64} {F : Nat → Nat → Option Nat} {nc ns : Nat} {o : Nat} {D : oD} (ho : isO o) (hF : RFok F) (hC : oC I o D) (hD : WFc D) {h : Int32} : Ev 0 mX4_rivalsOf 0 [.ref o, .int h, .null, .null] [] ((SH, nc, ns), I, J, F) (some (.int (rivalsS D h))) ((SH, nc, ns), I, J, F) := by
  obtain ⟨b0, b1, b2, b3, b4, b5, b6⟩ := hD.2
  refine e_iconst (v := 0) (p := 1) dX4_rivalsOf_0 (by decide) rfl ?_
  refine e_istore_n (ls1 := [.ref o, .int h, .int 0, .null]) (p := 2) dX4_rivalsOf_1 rfl rfl ?_
  refine e_iconst (v := 0) (p := 3) dX4_rivalsOf_2 (by decide) rfl ?_
  refine e_istore_n (ls1 := [.ref o, .int h, .int 0, .int 0]) (p := 4) dX4_rivalsOf_3 rfl rfl ?_
  exact x_rivalsOf_L ho hF hC hD _ 0 _ (by omega)
set_option maxRecDepth 10000 in
theorem x_loveIn_L {I : Nat → Nat → Int32} {J : Nat → Nat → Int64} {F : Nat → Nat → Option Nat} {nc ns : Nat} {o : Nat} {D : oD} (ho : isO o) (hF : RFok F) (hC : oC I o D) (hD : WFc D) {w : Nat} {y : Int32} : ∀ (m j : Nat) (acc : Int32), j + m = dN D 3 → Ev 2 mX4_loveIn 10 [.ref o, .int (nI w), .int y, .int acc, .int (nI j)] [] ((SH, nc, ns), I, J, F) (some (.int (gN (fun r a => if D 10 r = nI w then a * (100 - D 11 r) / 100 else a) j m acc))) ((SH, nc, ns), I, J, F)
  | 0, j, acc, hj => by
    obtain ⟨b0, b1, b2, b3, b4, b5, b6⟩ := hD.2
    refine e_iload (p := 12) dX4_loveIn_10 rfl rfl ?_
    refine e_aload_n (p := 13) dX4_loveIn_12 rfl rfl ?_
    refine e_getR (c := 4) (j := 2) (n := 18) (b := (o + 1)) (p := 16) dX4_loveIn_13 rfl (s_o ho) (l_o0 ho) (by decide) rfl (r_o2 hF ho) rfl ?_
    refine e_iconst (v := 3) (p := 17) dX4_loveIn_16 (by decide) rfl ?_
    refine f_iald (n := 7) (i := 3) (v := nI (dN D 3)) (p := 18) dX4_loveIn_17 (s_o1 ho) (l_o ho 1 (by decide)) (by decide) (by decide) (cN hC hD (by decide)) rfl ?_
    refine e_icmp_ge (t := 54) (p := 21) dX4_loveIn_18 (by decide) rfl rfl (fun hc18 => ?_) (fun hc18 => absurd (nle (by omega) (by omega)) hc18)
    refine e_iload_n (p := 55) dX4_loveIn_54 rfl rfl ?_
    exact e_iretE dX4_loveIn_55 rfl rfl (by decide) ⟨rfl, rfl⟩
  | m + 1, j, acc, hj => by
    obtain ⟨b0, b1, b2, b3, b4, b5, b6⟩ := hD.2
    refine e_iload (p := 12) dX4_loveIn_10 rfl rfl ?_
    refine e_aload_n (p := 13) dX4_loveIn_12 rfl rfl ?_
    refine e_getR (c := 4) (j := 2) (n := 18) (b := (o + 1)) (p := 16) dX4_loveIn_13 rfl (s_o ho) (l_o0 ho) (by decide) rfl (r_o2 hF ho) rfl ?_
    refine e_iconst (v := 3) (p := 17) dX4_loveIn_16 (by decide) rfl ?_
    refine f_iald (n := 7) (i := 3) (v := nI (dN D 3)) (p := 18) dX4_loveIn_17 (s_o1 ho) (l_o ho 1 (by decide)) (by decide) (by decide) (cN hC hD (by decide)) rfl ?_
    refine e_icmp_ge (t := 54) (p := 21) dX4_loveIn_18 (by decide) rfl rfl (fun hc18 => absurd hc18 (nge (by omega) (by omega))) (fun hc18 => ?_)
    refine e_aload_n (p := 22) dX4_loveIn_21 rfl rfl ?_
    refine e_getR (c := 4) (j := 10) (n := 18) (b := (o + 9)) (p := 25) dX4_loveIn_22 rfl (s_o ho) (l_o0 ho) (by decide) rfl (r_o10 hF ho) rfl ?_
    refine e_iload (p := 27) dX4_loveIn_25 rfl rfl ?_
    refine f_iald (n := 8) (i := j) (v := D 10 j) (p := 28) dX4_loveIn_27 (s_o9 ho) (l_o ho 9 (by decide)) (in_nJ (by omega) (by decide)) (nI_cl (by omega)) (c10 hC (by omega)) rfl ?_
    refine e_iload_n (p := 29) dX4_loveIn_28 rfl rfl ?_
    refine e_icmp_ne (t := 48) (p := 32) dX4_loveIn_29 (by decide) rfl rfl (fun hc29 => ?_) (fun hc29 => ?_)
    · skip
      refine e_iinc (ls1 := [.ref o, .int (nI w), .int y, .int acc, .int ((nI j) + 1)]) (p := 51) dX4_loveIn_48 rfl rfl rfl ?_
      refine e_goto (p := 10) dX4_loveIn_51 (by decide) rfl ?_
      rw [nI_1]
      exact Ev.res (by simp only [gN_s, hc29, bit, Int32.or_zero, Int32.add_zero, ↓reduceIte]) (x_loveIn_L ho hF hC hD m (j + 1) _ (by omega))
    · skip
      refine e_iload_n (p := 33) dX4_loveIn_32 rfl rfl ?_
      refine e_bipush (v := 100) (p := 35) dX4_loveIn_33 (by decide) rfl ?_
      refine e_aload_n (p := 36) dX4_loveIn_35 rfl rfl ?_
      refine e_getR (c := 4) (j := 11) (n := 18) (b := (o + 10)) (p := 39) dX4_loveIn_36 rfl (s_o ho) (l_o0 ho) (by decide) rfl (r_o11 hF ho) rfl ?_
      refine e_iload (p := 41) dX4_loveIn_39 rfl rfl ?_
      refine f_iald (n := 8) (i := j) (v := D 11 j) (p := 42) dX4_loveIn_41 (s_o10 ho) (l_o ho 10 (by decide)) (in_nJ (by omega) (by decide)) (nI_cl (by omega)) (c11 hC (by omega)) rfl ?_
      refine e_isub (p := 43) dX4_loveIn_42 rfl ?_
      refine e_imul (p := 44) dX4_loveIn_43 rfl ?_
      refine e_bipush (v := 100) (p := 46) dX4_loveIn_44 (by decide) rfl ?_
      refine e_idiv (p := 47) dX4_loveIn_46 (by decide) rfl ?_
      refine e_istore_n (ls1 := [.ref o, .int (nI w), .int y, .int ((acc * (100 - (D 11 j))) / 100), .int (nI j)]) (p := 48) dX4_loveIn_47 rfl rfl ?_
      refine e_iinc (ls1 := [.ref o, .int (nI w), .int y, .int ((acc * (100 - (D 11 j))) / 100), .int ((nI j) + 1)]) (p := 51) dX4_loveIn_48 rfl rfl rfl ?_
      refine e_goto (p := 10) dX4_loveIn_51 (by decide) rfl ?_
      rw [nI_1]
      exact Ev.res (by simp only [gN_s, hc29, bit, Int32.or_zero, Int32.add_zero, ↓reduceIte]) (x_loveIn_L ho hF hC hD m (j + 1) _ (by omega))
set_option maxRecDepth 10000 in
theorem x_loveIn {I : Nat → Nat → Int32} {J : Nat → Nat → Int64} {F : Nat → Nat → Option Nat} {nc ns : Nat} {o : Nat} {D : oD} (ho : isO o) (hF : RFok F) (hC : oC I o D) (hD : WFc D) (hH : WFh D) {w : Nat} {y : Int32} (hw : w < dN D 2) : Ev 2 mX4_loveIn 0 [.ref o, .int (nI w), .int y, .null, .null] [] ((SH, nc, ns), I, J, F) (some (.int (loveS D w y))) ((SH, nc, ns), I, J, F) := by
  obtain ⟨b0, b1, b2, b3, b4, b5, b6⟩ := hD.2
  refine e_aload_n (p := 1) dX4_loveIn_0 rfl rfl ?_
  refine e_iload_n (p := 2) dX4_loveIn_1 rfl rfl ?_
  refine e_iload_n (p := 3) dX4_loveIn_2 rfl rfl ?_
  refine e_callV_int (p := 6) (k' := 1) (a := [.ref o, .int (nI w), .int y]) (rr := []) dX4_loveIn_3 rfl rfl rfl rfl (rc_of rfl (s_o ho) (l_o0 ho) ⟨rfl, by decide⟩) (Nat.le_of_ble_eq_true rfl) (Nat.le_of_ble_eq_true rfl) (by decide) (x_unrivalledIn ho hF hC hD hH hw) (Or.inl rfl) rfl ?_
  refine e_istore_n (ls1 := [.ref o, .int (nI w), .int y, .int (heartS D w y), .null]) (p := 7) dX4_loveIn_6 rfl rfl ?_
  refine e_iconst (v := 0) (p := 8) dX4_loveIn_7 (by decide) rfl ?_
  refine e_istore (ls1 := [.ref o, .int (nI w), .int y, .int (heartS D w y), .int 0]) (p := 10) dX4_loveIn_8 rfl rfl ?_
  exact x_loveIn_L ho hF hC hD _ 0 _ (by omega)
set_option maxRecDepth 10000 in
theorem x_loveAt {I : Nat → Nat → Int32} {J : Nat → Nat → Int64} {F : Nat → Nat → Option Nat} {nc ns : Nat} {o : Nat} {D : oD} (ho : isO o) (hF : RFok F) (hC : oC I o D) (hD : WFc D) (hH : WFh D) {w : Nat} {y : Int32} (hw : w < dN D 2) : Ev 3 mX4_loveAt 0 [.ref o, .int (nI w), .int y] [] ((SH, nc, ns), I, J, F) (some (.int (loveS D w (y * D 0 0)))) ((SH, nc, ns), I, J, F) := by
  refine e_aload_n (p := 1) dX4_loveAt_0 rfl rfl ?_
  refine e_iload_n (p := 2) dX4_loveAt_1 rfl rfl ?_
  refine e_iload_n (p := 3) dX4_loveAt_2 rfl rfl ?_
  refine e_aload_n (p := 4) dX4_loveAt_3 rfl rfl ?_
  refine f_getI (c := 4) (j := 0) (n := 18) (v := D 0 0) (p := 7) dX4_loveAt_4 rfl (s_o ho) (l_o0 ho) (by decide) (Or.inl rfl) hC.1 rfl ?_
  refine e_imul (p := 8) dX4_loveAt_7 rfl ?_
  refine e_callV_int (p := 11) (k' := 2) (a := [.ref o, .int (nI w), .int (y * (D 0 0))]) (rr := []) dX4_loveAt_8 rfl rfl rfl rfl (rc_of rfl (s_o ho) (l_o0 ho) ⟨rfl, by decide⟩) (Nat.le_of_ble_eq_true rfl) (Nat.le_of_ble_eq_true rfl) (by decide) (x_loveIn ho hF hC hD hH hw) (Or.inl rfl) rfl ?_
  exact e_iretE dX4_loveAt_11 rfl rfl (by decide) ⟨rfl, rfl⟩
set_option maxRecDepth 10000 in
theorem x_loveOfAllIn_L {I : Nat → Nat → Int32} {J : Nat → Nat → Int64} {F : Nat → Nat → Option Nat} {nc ns : Nat} {o : Nat} {D : oD} (ho : isO o) (hF : RFok F) (hC : oC I o D) (hD : WFc D) (hH : WFh D) {y : Int32} : ∀ (m j : Nat) (acc : Int32), j + m = dN D 2 → Ev 3 mX4_loveOfAllIn 4 [.ref o, .int y, .int acc, .int (nI j)] [] ((SH, nc, ns), I, J, F) (some (.int (gN (fun w a => a + loveS D w y) j m acc))) ((SH, nc, ns), I, J, F)
  | 0, j, acc, hj => by
    obtain ⟨b0, b1, b2, b3, b4, b5, b6⟩ := hD.2
    refine e_iload_n (p := 5) dX4_loveOfAllIn_4 rfl rfl ?_
    refine e_aload_n (p := 6) dX4_loveOfAllIn_5 rfl rfl ?_
    refine e_getR (c := 4) (j := 2) (n := 18) (b := (o + 1)) (p := 9) dX4_loveOfAllIn_6 rfl (s_o ho) (l_o0 ho) (by decide) rfl (r_o2 hF ho) rfl ?_
    refine e_iconst (v := 2) (p := 10) dX4_loveOfAllIn_9 (by decide) rfl ?_
    refine f_iald (n := 7) (i := 2) (v := nI (dN D 2)) (p := 11) dX4_loveOfAllIn_10 (s_o1 ho) (l_o ho 1 (by decide)) (by decide) (by decide) (cN hC hD (by decide)) rfl ?_
    refine e_icmp_ge (t := 29) (p := 14) dX4_loveOfAllIn_11 (by decide) rfl rfl (fun hc11 => ?_) (fun hc11 => absurd (nle (by omega) (by omega)) hc11)
    refine e_iload_n (p := 30) dX4_loveOfAllIn_29 rfl rfl ?_
    exact e_iretE dX4_loveOfAllIn_30 rfl rfl (by decide) ⟨rfl, rfl⟩
  | m + 1, j, acc, hj => by
    obtain ⟨b0, b1, b2, b3, b4, b5, b6⟩ := hD.2
    refine e_iload_n (p := 5) dX4_loveOfAllIn_4 rfl rfl ?_
    refine e_aload_n (p := 6) dX4_loveOfAllIn_5 rfl rfl ?_
    refine e_getR (c := 4) (j := 2) (n := 18) (b := (o + 1)) (p := 9) dX4_loveOfAllIn_6 rfl (s_o ho) (l_o0 ho) (by decide) rfl (r_o2 hF ho) rfl ?_
    refine e_iconst (v := 2) (p := 10) dX4_loveOfAllIn_9 (by decide) rfl ?_
    refine f_iald (n := 7) (i := 2) (v := nI (dN D 2)) (p := 11) dX4_loveOfAllIn_10 (s_o1 ho) (l_o ho 1 (by decide)) (by decide) (by decide) (cN hC hD (by decide)) rfl ?_
    refine e_icmp_ge (t := 29) (p := 14) dX4_loveOfAllIn_11 (by decide) rfl rfl (fun hc11 => absurd hc11 (nge (by omega) (by omega))) (fun hc11 => ?_)
    refine e_iload_n (p := 15) dX4_loveOfAllIn_14 rfl rfl ?_
    refine e_aload_n (p := 16) dX4_loveOfAllIn_15 rfl rfl ?_
    refine e_iload_n (p := 17) dX4_loveOfAllIn_16 rfl rfl ?_
    refine e_iload_n (p := 18) dX4_loveOfAllIn_17 rfl rfl ?_
    refine e_callV_int (p := 21) (k' := 2) (a := [.ref o, .int (nI j), .int y]) (rr := [.int acc]) dX4_loveOfAllIn_18 rfl rfl rfl rfl (rc_of rfl (s_o ho) (l_o0 ho) ⟨rfl, by decide⟩) (Nat.le_of_ble_eq_true rfl) (Nat.le_of_ble_eq_true rfl) (by decide) (x_loveIn ho hF hC hD hH (by omega)) (Or.inl rfl) rfl ?_
    refine e_iadd (p := 22) dX4_loveOfAllIn_21 rfl ?_
    refine e_istore_n (ls1 := [.ref o, .int y, .int (acc + (loveS D j y)), .int (nI j)]) (p := 23) dX4_loveOfAllIn_22 rfl rfl ?_
    refine e_iinc (ls1 := [.ref o, .int y, .int (acc + (loveS D j y)), .int ((nI j) + 1)]) (p := 26) dX4_loveOfAllIn_23 rfl rfl rfl ?_
    refine e_goto (p := 4) dX4_loveOfAllIn_26 (by decide) rfl ?_
    rw [nI_1]
    exact Ev.res (by simp only [gN_s, bit, Int32.or_zero, Int32.add_zero, ↓reduceIte]) (x_loveOfAllIn_L ho hF hC hD hH m (j + 1) _ (by omega))
set_option maxRecDepth 10000 in
theorem x_loveOfAllIn {I : Nat → Nat → Int32} {J : Nat → Nat → Int64} {F : Nat → Nat → Option Nat} {nc ns : Nat} {o : Nat} {D : oD} (ho : isO o) (hF : RFok F) (hC : oC I o D) (hD : WFc D) (hH : WFh D) {y : Int32} : Ev 3 mX4_loveOfAllIn 0 [.ref o, .int y, .null, .null] [] ((SH, nc, ns), I, J, F) (some (.int (yS D y))) ((SH, nc, ns), I, J, F) := by
  obtain ⟨b0, b1, b2, b3, b4, b5, b6⟩ := hD.2
  refine e_iconst (v := 0) (p := 1) dX4_loveOfAllIn_0 (by decide) rfl ?_
  refine e_istore_n (ls1 := [.ref o, .int y, .int 0, .null]) (p := 2) dX4_loveOfAllIn_1 rfl rfl ?_
  refine e_iconst (v := 0) (p := 3) dX4_loveOfAllIn_2 (by decide) rfl ?_
  refine e_istore_n (ls1 := [.ref o, .int y, .int 0, .int 0]) (p := 4) dX4_loveOfAllIn_3 rfl rfl ?_
  exact x_loveOfAllIn_L ho hF hC hD hH _ 0 _ (by omega)
set_option maxRecDepth 10000 in
theorem x_womenFitting_L {I : Nat → Nat → Int32} {J : Nat → Nat → Int64} {F : Nat → Nat → Option Nat} {nc ns : Nat} {o : Nat} {D : oD} (ho : isO o) (hF : RFok F) (hC : oC I o D) (hD : WFc D) {k : Nat} (hk : k < dN D 6) : ∀ (m j : Nat) (acc : Int32), j + m = dN D 2 → Ev 0 mX4_womenFitting 4 [.ref o, .int (nI k), .int acc, .int (nI j)] [] ((SH, nc, ns), I, J, F) (some (.int (gN (fun w a => if D 16 k * D 0 0 - D 9 w = D 17 k then a ||| bit w else a) j m acc))) ((SH, nc, ns), I, J, F)
  | 0, j, acc, hj => by
    obtain ⟨b0, b1, b2, b3, b4, b5, b6⟩ := hD.2
    refine e_iload_n (p := 5) dX4_womenFitting_4 rfl rfl ?_
    refine e_aload_n (p := 6) dX4_womenFitting_5 rfl rfl ?_
    refine e_getR (c := 4) (j := 2) (n := 18) (b := (o + 1)) (p := 9) dX4_womenFitting_6 rfl (s_o ho) (l_o0 ho) (by decide) rfl (r_o2 hF ho) rfl ?_
    refine e_iconst (v := 2) (p := 10) dX4_womenFitting_9 (by decide) rfl ?_
    refine f_iald (n := 7) (i := 2) (v := nI (dN D 2)) (p := 11) dX4_womenFitting_10 (s_o1 ho) (l_o ho 1 (by decide)) (by decide) (by decide) (cN hC hD (by decide)) rfl ?_
    refine e_icmp_ge (t := 53) (p := 14) dX4_womenFitting_11 (by decide) rfl rfl (fun hc11 => ?_) (fun hc11 => absurd (nle (by omega) (by omega)) hc11)
    refine e_iload_n (p := 54) dX4_womenFitting_53 rfl rfl ?_
    exact e_iretE dX4_womenFitting_54 rfl rfl (by decide) ⟨rfl, rfl⟩
  | m + 1, j, acc, hj => by
    obtain ⟨b0, b1, b2, b3, b4, b5, b6⟩ := hD.2
    refine e_iload_n (p := 5) dX4_womenFitting_4 rfl rfl ?_
    refine e_aload_n (p := 6) dX4_womenFitting_5 rfl rfl ?_
    refine e_getR (c := 4) (j := 2) (n := 18) (b := (o + 1)) (p := 9) dX4_womenFitting_6 rfl (s_o ho) (l_o0 ho) (by decide) rfl (r_o2 hF ho) rfl ?_
    refine e_iconst (v := 2) (p := 10) dX4_womenFitting_9 (by decide) rfl ?_
    refine f_iald (n := 7) (i := 2) (v := nI (dN D 2)) (p := 11) dX4_womenFitting_10 (s_o1 ho) (l_o ho 1 (by decide)) (by decide) (by decide) (cN hC hD (by decide)) rfl ?_
    refine e_icmp_ge (t := 53) (p := 14) dX4_womenFitting_11 (by decide) rfl rfl (fun hc11 => absurd hc11 (nge (by omega) (by omega))) (fun hc11 => ?_)
    refine e_aload_n (p := 15) dX4_womenFitting_14 rfl rfl ?_
    refine e_getR (c := 4) (j := 16) (n := 18) (b := (o + 15)) (p := 18) dX4_womenFitting_15 rfl (s_o ho) (l_o0 ho) (by decide) rfl (r_o16 hF ho) rfl ?_
    refine e_iload_n (p := 19) dX4_womenFitting_18 rfl rfl ?_
    refine f_iald (n := 4) (i := k) (v := D 16 k) (p := 20) dX4_womenFitting_19 (s_o15 ho) (l_o ho 15 (by decide)) (in_nJ (by omega) (by decide)) (nI_cl (by omega)) (c16 hC (by omega)) rfl ?_
    refine e_aload_n (p := 21) dX4_womenFitting_20 rfl rfl ?_
    refine f_getI (c := 4) (j := 0) (n := 18) (v := D 0 0) (p := 24) dX4_womenFitting_21 rfl (s_o ho) (l_o0 ho) (by decide) (Or.inl rfl) hC.1 rfl ?_
    refine e_imul (p := 25) dX4_womenFitting_24 rfl ?_
    refine e_aload_n (p := 26) dX4_womenFitting_25 rfl rfl ?_
    refine e_getR (c := 4) (j := 9) (n := 18) (b := (o + 8)) (p := 29) dX4_womenFitting_26 rfl (s_o ho) (l_o0 ho) (by decide) rfl (r_o9 hF ho) rfl ?_
    refine e_iload_n (p := 30) dX4_womenFitting_29 rfl rfl ?_
    refine f_iald (n := 8) (i := j) (v := D 9 j) (p := 31) dX4_womenFitting_30 (s_o8 ho) (l_o ho 8 (by decide)) (in_nJ (by omega) (by decide)) (nI_cl (by omega)) (c9 hC (by omega)) rfl ?_
    refine e_isub (p := 32) dX4_womenFitting_31 rfl ?_
    refine e_aload_n (p := 33) dX4_womenFitting_32 rfl rfl ?_
    refine e_getR (c := 4) (j := 17) (n := 18) (b := (o + 16)) (p := 36) dX4_womenFitting_33 rfl (s_o ho) (l_o0 ho) (by decide) rfl (r_o17 hF ho) rfl ?_
    refine e_iload_n (p := 37) dX4_womenFitting_36 rfl rfl ?_
    refine f_iald (n := 4) (i := k) (v := D 17 k) (p := 38) dX4_womenFitting_37 (s_o16 ho) (l_o ho 16 (by decide)) (in_nJ (by omega) (by decide)) (nI_cl (by omega)) (c17 hC (by omega)) rfl ?_
    refine e_icmp_ne (t := 47) (p := 41) dX4_womenFitting_38 (by decide) rfl rfl (fun hc38 => ?_) (fun hc38 => ?_)
    · skip
      refine e_iinc (ls1 := [.ref o, .int (nI k), .int acc, .int ((nI j) + 1)]) (p := 50) dX4_womenFitting_47 rfl rfl rfl ?_
      refine e_goto (p := 4) dX4_womenFitting_50 (by decide) rfl ?_
      rw [nI_1]
      exact Ev.res (by simp only [gN_s, hc38, bit, Int32.or_zero, Int32.add_zero, ↓reduceIte]) (x_womenFitting_L ho hF hC hD hk m (j + 1) _ (by omega))
    · skip
      refine e_iload_n (p := 42) dX4_womenFitting_41 rfl rfl ?_
      refine e_iconst (v := 1) (p := 43) dX4_womenFitting_42 (by decide) rfl ?_
      refine e_iload_n (p := 44) dX4_womenFitting_43 rfl rfl ?_
      refine e_ishl (p := 45) dX4_womenFitting_44 rfl ?_
      refine e_ior (p := 46) dX4_womenFitting_45 rfl ?_
      refine e_istore_n (ls1 := [.ref o, .int (nI k), .int (acc ||| (1 <<< ((nI j) &&& 31))), .int (nI j)]) (p := 47) dX4_womenFitting_46 rfl rfl ?_
      refine e_iinc (ls1 := [.ref o, .int (nI k), .int (acc ||| (1 <<< ((nI j) &&& 31))), .int ((nI j) + 1)]) (p := 50) dX4_womenFitting_47 rfl rfl rfl ?_
      refine e_goto (p := 4) dX4_womenFitting_50 (by decide) rfl ?_
      rw [nI_1]
      exact Ev.res (by simp only [gN_s, hc38, bit, Int32.or_zero, Int32.add_zero, ↓reduceIte]) (x_womenFitting_L ho hF hC hD hk m (j + 1) _ (by omega))
set_option maxRecDepth 10000 in
theorem x_womenFitting {I : Nat → Nat → Int32} {J : Nat → Nat → Int64} {F : Nat → Nat → Option Nat} {nc ns : Nat} {o : Nat} {D : oD} (ho : isO o) (hF : RFok F) (hC : oC I o D) (hD : WFc D) {k : Nat} (hk : k < dN D 6) : Ev 0 mX4_womenFitting 0 [.ref o, .int (nI k), .null, .null] [] ((SH, nc, ns), I, J, F) (some (.int (fitS D k))) ((SH, nc, ns), I, J, F) := by
  obtain ⟨b0, b1, b2, b3, b4, b5, b6⟩ := hD.2
  refine e_iconst (v := 0) (p := 1) dX4_womenFitting_0 (by decide) rfl ?_
  refine e_istore_n (ls1 := [.ref o, .int (nI k), .int 0, .null]) (p := 2) dX4_womenFitting_1 rfl rfl ?_
  refine e_iconst (v := 0) (p := 3) dX4_womenFitting_2 (by decide) rfl ?_
  refine e_istore_n (ls1 := [.ref o, .int (nI k), .int 0, .int 0]) (p := 4) dX4_womenFitting_3 rfl rfl ?_
  exact x_womenFitting_L ho hF hC hD hk _ 0 _ (by omega)
set_option maxRecDepth 10000 in
theorem x_reachOf {I : Nat → Nat → Int32} {J : Nat → Nat → Int64} {F : Nat → Nat → Option Nat} {nc ns : Nat} {o : Nat} {D : oD} (ho : isO o) (hF : RFok F) (hC : oC I o D) (hD : WFc D) {h : Nat} (hh : h < 6) : Ev 0 mX4_reachOf 0 [.ref o, .int (nI h)] [] ((SH, nc, ns), I, J, F) (some (.int (reachS D h))) ((SH, nc, ns), I, J, F) := by
  obtain ⟨b0, b1, b2, b3, b4, b5, b6⟩ := hD.2
  refine e_iload_n (p := 1) dX4_reachOf_0 rfl rfl ?_
  refine e_if_lt (t := 13) (p := 4) dX4_reachOf_1 (by decide) rfl rfl (fun hc1 => absurd hc1 (nI_pos (by omega))) (fun hc1 => ?_)
  refine e_iload_n (p := 5) dX4_reachOf_4 rfl rfl ?_
  refine e_aload_n (p := 6) dX4_reachOf_5 rfl rfl ?_
  refine e_getR (c := 4) (j := 5) (n := 18) (b := (o + 4)) (p := 9) dX4_reachOf_6 rfl (s_o ho) (l_o0 ho) (by decide) rfl (r_o5 hF ho) rfl ?_
  refine e_alen (c := 12) (n := 6) (v := 6) (p := 10) dX4_reachOf_9 (s_o4 ho) (l_o ho 4 (by decide)) (by decide) rfl rfl ?_
  refine e_icmp_lt (t := 17) (p := 13) dX4_reachOf_10 (by decide) rfl rfl (fun hc10 => ?_) (fun hc10 => absurd (nI_lt (b := 6) hh (by decide)) hc10)
  refine e_aload_n (p := 18) dX4_reachOf_17 rfl rfl ?_
  refine e_getR (c := 4) (j := 5) (n := 18) (b := (o + 4)) (p := 21) dX4_reachOf_18 rfl (s_o ho) (l_o0 ho) (by decide) rfl (r_o5 hF ho) rfl ?_
  refine e_iload_n (p := 22) dX4_reachOf_21 rfl rfl ?_
  refine f_iald (n := 6) (i := h) (v := D 5 h) (p := 23) dX4_reachOf_22 (s_o4 ho) (l_o ho 4 (by decide)) (in_nJ (by omega) (by decide)) (nI_cl (by omega)) (c5 hC (by omega)) rfl ?_
  refine e_iconst (v := 1) (p := 24) dX4_reachOf_23 (by decide) rfl ?_
  refine e_iload_n (p := 25) dX4_reachOf_24 rfl rfl ?_
  refine e_ishl (p := 26) dX4_reachOf_25 rfl ?_
  refine e_ior (p := 27) dX4_reachOf_26 rfl ?_
  exact e_iretE dX4_reachOf_27 rfl rfl (by decide) ⟨rfl, rfl⟩
set_option maxRecDepth 10000 in
theorem x_canReach {I : Nat → Nat → Int32} {J : Nat → Nat → Int64} {F : Nat → Nat → Option Nat} {nc ns : Nat} {o : Nat} {D : oD} (ho : isO o) (hF : RFok F) (hC : oC I o D) (hD : WFc D) {a : Nat} {b : Int32} (ha : a < 6) : Ev 1 mX4_canReach 0 [.ref o, .int (nI a), .int b] [] ((SH, nc, ns), I, J, F) (some (.int (if (reachS D a >>> (b &&& 31)) &&& 1 = 0 then 0 else 1))) ((SH, nc, ns), I, J, F) := by
  obtain ⟨b0, b1, b2, b3, b4, b5, b6⟩ := hD.2
  refine e_aload_n (p := 1) dX4_canReach_0 rfl rfl ?_
  refine e_iload_n (p := 2) dX4_canReach_1 rfl rfl ?_
  refine e_callV_int (p := 5) (k' := 0) (a := [.ref o, .int (nI a)]) (rr := []) dX4_canReach_2 rfl rfl rfl rfl (rc_of rfl (s_o ho) (l_o0 ho) ⟨rfl, by decide⟩) (Nat.le_of_ble_eq_true rfl) (Nat.le_of_ble_eq_true rfl) (by decide) (x_reachOf ho hF hC hD ha) (Or.inl rfl) rfl ?_
  refine e_iload_n (p := 6) dX4_canReach_5 rfl rfl ?_
  refine e_ishr (p := 7) dX4_canReach_6 rfl ?_
  refine e_iconst (v := 1) (p := 8) dX4_canReach_7 (by decide) rfl ?_
  refine e_iand (p := 9) dX4_canReach_8 rfl ?_
  refine e_if_eq (t := 16) (p := 12) dX4_canReach_9 (by decide) rfl rfl (fun hc9 => ?_) (fun hc9 => ?_)
  · skip
    refine e_iconst (v := 0) (p := 17) dX4_canReach_16 (by decide) rfl ?_
    exact e_iretE dX4_canReach_17 rfl (by decide) (by decide) ⟨by simp only [*, ↓reduceIte], rfl⟩
  · skip
    refine e_iconst (v := 1) (p := 13) dX4_canReach_12 (by decide) rfl ?_
    refine e_goto (p := 17) dX4_canReach_13 (by decide) rfl ?_
    exact e_iretE dX4_canReach_17 rfl (by decide) (by decide) ⟨by simp only [*, ↓reduceIte], rfl⟩
set_option maxRecDepth 10000 in
theorem x_reachOfAll_L {I : Nat → Nat → Int32} {J : Nat → Nat → Int64} {F : Nat → Nat → Option Nat} {nc ns : Nat} {o : Nat} {D : oD} (ho : isO o) (hF : RFok F) (hC : oC I o D) (hD : WFc D) {b : Int32} : ∀ (m j : Nat) (acc : Int32), j + m = dN D 0 → Ev 1 mX4_reachOfAll 4 [.ref o, .int b, .int acc, .int (nI j)] [] ((SH, nc, ns), I, J, F) (some (.int (gN (fun h a => if (b >>> (nI h &&& 31)) &&& 1 = 0 then a else a ||| reachS D h) j m acc))) ((SH, nc, ns), I, J, F)
  | 0, j, acc, hj => by
    obtain ⟨b0, b1, b2, b3, b4, b5, b6⟩ := hD.2
    refine e_iload_n (p := 5) dX4_reachOfAll_4 rfl rfl ?_
    refine e_aload_n (p := 6) dX4_reachOfAll_5 rfl rfl ?_
    refine e_getR (c := 4) (j := 2) (n := 18) (b := (o + 1)) (p := 9) dX4_reachOfAll_6 rfl (s_o ho) (l_o0 ho) (by decide) rfl (r_o2 hF ho) rfl ?_
    refine e_iconst (v := 0) (p := 10) dX4_reachOfAll_9 (by decide) rfl ?_
    refine f_iald (n := 7) (i := 0) (v := nI (dN D 0)) (p := 11) dX4_reachOfAll_10 (s_o1 ho) (l_o ho 1 (by decide)) (by decide) (by decide) (cN hC hD (by decide)) rfl ?_
    refine e_icmp_ge (t := 36) (p := 14) dX4_reachOfAll_11 (by decide) rfl rfl (fun hc11 => ?_) (fun hc11 => absurd (nle (by omega) (by omega)) hc11)
    refine e_iload_n (p := 37) dX4_reachOfAll_36 rfl rfl ?_
    exact e_iretE dX4_reachOfAll_37 rfl rfl (by decide) ⟨rfl, rfl⟩
  | m + 1, j, acc, hj => by
    obtain ⟨b0, b1, b2, b3, b4, b5, b6⟩ := hD.2
    refine e_iload_n (p := 5) dX4_reachOfAll_4 rfl rfl ?_
    refine e_aload_n (p := 6) dX4_reachOfAll_5 rfl rfl ?_
    refine e_getR (c := 4) (j := 2) (n := 18) (b := (o + 1)) (p := 9) dX4_reachOfAll_6 rfl (s_o ho) (l_o0 ho) (by decide) rfl (r_o2 hF ho) rfl ?_
    refine e_iconst (v := 0) (p := 10) dX4_reachOfAll_9 (by decide) rfl ?_
    refine f_iald (n := 7) (i := 0) (v := nI (dN D 0)) (p := 11) dX4_reachOfAll_10 (s_o1 ho) (l_o ho 1 (by decide)) (by decide) (by decide) (cN hC hD (by decide)) rfl ?_
    refine e_icmp_ge (t := 36) (p := 14) dX4_reachOfAll_11 (by decide) rfl rfl (fun hc11 => absurd hc11 (nge (by omega) (by omega))) (fun hc11 => ?_)
    refine e_iload_n (p := 15) dX4_reachOfAll_14 rfl rfl ?_
    refine e_iload_n (p := 16) dX4_reachOfAll_15 rfl rfl ?_
    refine e_ishr (p := 17) dX4_reachOfAll_16 rfl ?_
    refine e_iconst (v := 1) (p := 18) dX4_reachOfAll_17 (by decide) rfl ?_
    refine e_iand (p := 19) dX4_reachOfAll_18 rfl ?_
    refine e_if_eq (t := 30) (p := 22) dX4_reachOfAll_19 (by decide) rfl rfl (fun hc19 => ?_) (fun hc19 => ?_)
    · skip
      refine e_iinc (ls1 := [.ref o, .int b, .int acc, .int ((nI j) + 1)]) (p := 33) dX4_reachOfAll_30 rfl rfl rfl ?_
      refine e_goto (p := 4) dX4_reachOfAll_33 (by decide) rfl ?_
      rw [nI_1]
      exact Ev.res (by simp only [gN_s, hc19, bit, Int32.or_zero, Int32.add_zero, ↓reduceIte]) (x_reachOfAll_L ho hF hC hD m (j + 1) _ (by omega))
    · skip
      refine e_iload_n (p := 23) dX4_reachOfAll_22 rfl rfl ?_
      refine e_aload_n (p := 24) dX4_reachOfAll_23 rfl rfl ?_
      refine e_iload_n (p := 25) dX4_reachOfAll_24 rfl rfl ?_
      refine e_callV_int (p := 28) (k' := 0) (a := [.ref o, .int (nI j)]) (rr := [.int acc]) dX4_reachOfAll_25 rfl rfl rfl rfl (rc_of rfl (s_o ho) (l_o0 ho) ⟨rfl, by decide⟩) (Nat.le_of_ble_eq_true rfl) (Nat.le_of_ble_eq_true rfl) (by decide) (x_reachOf ho hF hC hD (by omega)) (Or.inl rfl) rfl ?_
      refine e_ior (p := 29) dX4_reachOfAll_28 rfl ?_
      refine e_istore_n (ls1 := [.ref o, .int b, .int (acc ||| (reachS D j)), .int (nI j)]) (p := 30) dX4_reachOfAll_29 rfl rfl ?_
      refine e_iinc (ls1 := [.ref o, .int b, .int (acc ||| (reachS D j)), .int ((nI j) + 1)]) (p := 33) dX4_reachOfAll_30 rfl rfl rfl ?_
      refine e_goto (p := 4) dX4_reachOfAll_33 (by decide) rfl ?_
      rw [nI_1]
      exact Ev.res (by simp only [gN_s, hc19, bit, Int32.or_zero, Int32.add_zero, ↓reduceIte]) (x_reachOfAll_L ho hF hC hD m (j + 1) _ (by omega))
set_option maxRecDepth 10000 in
theorem x_reachOfAll {I : Nat → Nat → Int32} {J : Nat → Nat → Int64} {F : Nat → Nat → Option Nat} {nc ns : Nat} {o : Nat} {D : oD} (ho : isO o) (hF : RFok F) (hC : oC I o D) (hD : WFc D) {b : Int32} : Ev 1 mX4_reachOfAll 0 [.ref o, .int b, .null, .null] [] ((SH, nc, ns), I, J, F) (some (.int (reachAllS D b))) ((SH, nc, ns), I, J, F) := by
  obtain ⟨b0, b1, b2, b3, b4, b5, b6⟩ := hD.2
  refine e_iconst (v := 0) (p := 1) dX4_reachOfAll_0 (by decide) rfl ?_
  refine e_istore_n (ls1 := [.ref o, .int b, .int 0, .null]) (p := 2) dX4_reachOfAll_1 rfl rfl ?_
  refine e_iconst (v := 0) (p := 3) dX4_reachOfAll_2 (by decide) rfl ?_
  refine e_istore_n (ls1 := [.ref o, .int b, .int 0, .int 0]) (p := 4) dX4_reachOfAll_3 rfl rfl ?_
  exact x_reachOfAll_L ho hF hC hD _ 0 _ (by omega)
set_option maxRecDepth 10000 in
theorem x_landingsApart_L {I : Nat → Nat → Int32} {J : Nat → Nat → Int64} {F : Nat → Nat → Option Nat} {nc ns : Nat} {o : Nat} {D : oD} (ho : isO o) (hF : RFok F) (hC : oC I o D) (hD : WFc D) {a b : Int32} : ∀ (m j : Nat) (s : Int32), j + m = dN D 0 → Ev 2 mX4_landingsApart 7 [.ref o, .int a, .int b, .int s, .int (nI j)] [] ((SH, nc, ns), I, J, F) (some (.int (apartG D b j m s))) ((SH, nc, ns), I, J, F)
  | 0, j, s, hj => by
    obtain ⟨b0, b1, b2, b3, b4, b5, b6⟩ := hD.2
    refine e_iload (p := 9) dX4_landingsApart_7 rfl rfl ?_
    refine e_aload_n (p := 10) dX4_landingsApart_9 rfl rfl ?_
    refine e_getR (c := 4) (j := 2) (n := 18) (b := (o + 1)) (p := 13) dX4_landingsApart_10 rfl (s_o ho) (l_o0 ho) (by decide) rfl (r_o2 hF ho) rfl ?_
    refine e_iconst (v := 0) (p := 14) dX4_landingsApart_13 (by decide) rfl ?_
    refine f_iald (n := 7) (i := 0) (v := nI (dN D 0)) (p := 15) dX4_landingsApart_14 (s_o1 ho) (l_o ho 1 (by decide)) (by decide) (by decide) (cN hC hD (by decide)) rfl ?_
    refine e_icmp_ge (t := 41) (p := 18) dX4_landingsApart_15 (by decide) rfl rfl (fun hc15 => ?_) (fun hc15 => absurd (nle (by omega) (by omega)) hc15)
    refine e_bipush (v := -2) (p := 43) dX4_landingsApart_41 (by decide) rfl ?_
    exact e_iretE dX4_landingsApart_43 rfl rfl (by decide) ⟨rfl, rfl⟩
  | m + 1, j, s, hj => by
    obtain ⟨b0, b1, b2, b3, b4, b5, b6⟩ := hD.2
    refine e_iload (p := 9) dX4_landingsApart_7 rfl rfl ?_
    refine e_aload_n (p := 10) dX4_landingsApart_9 rfl rfl ?_
    refine e_getR (c := 4) (j := 2) (n := 18) (b := (o + 1)) (p := 13) dX4_landingsApart_10 rfl (s_o ho) (l_o0 ho) (by decide) rfl (r_o2 hF ho) rfl ?_
    refine e_iconst (v := 0) (p := 14) dX4_landingsApart_13 (by decide) rfl ?_
    refine f_iald (n := 7) (i := 0) (v := nI (dN D 0)) (p := 15) dX4_landingsApart_14 (s_o1 ho) (l_o ho 1 (by decide)) (by decide) (by decide) (cN hC hD (by decide)) rfl ?_
    refine e_icmp_ge (t := 41) (p := 18) dX4_landingsApart_15 (by decide) rfl rfl (fun hc15 => absurd hc15 (nge (by omega) (by omega))) (fun hc15 => ?_)
    refine e_iload_n (p := 19) dX4_landingsApart_18 rfl rfl ?_
    refine e_iload_n (p := 20) dX4_landingsApart_19 rfl rfl ?_
    refine e_ishr (p := 21) dX4_landingsApart_20 rfl ?_
    refine e_iconst (v := 1) (p := 22) dX4_landingsApart_21 (by decide) rfl ?_
    refine e_iand (p := 23) dX4_landingsApart_22 rfl ?_
    refine e_if_eq (t := 29) (p := 26) dX4_landingsApart_23 (by decide) rfl rfl (fun hc23 => ?_) (fun hc23 => ?_)
    · skip
      refine e_aload_n (p := 30) dX4_landingsApart_29 rfl rfl ?_
      refine e_iload_n (p := 31) dX4_landingsApart_30 rfl rfl ?_
      refine e_callV_int (p := 34) (k' := 1) (a := [.ref o, .int s]) (rr := []) dX4_landingsApart_31 rfl rfl rfl rfl (rc_of rfl (s_o ho) (l_o0 ho) ⟨rfl, by decide⟩) (Nat.le_of_ble_eq_true rfl) (Nat.le_of_ble_eq_true rfl) (by decide) (x_reachOfAll ho hF hC hD) (Or.inl rfl) rfl ?_
      refine e_istore_n (ls1 := [.ref o, .int a, .int b, .int (reachAllS D s), .int (nI j)]) (p := 35) dX4_landingsApart_34 rfl rfl ?_
      refine e_iinc (ls1 := [.ref o, .int a, .int b, .int (reachAllS D s), .int ((nI j) + 1)]) (p := 38) dX4_landingsApart_35 rfl rfl rfl ?_
      refine e_goto (p := 7) dX4_landingsApart_38 (by decide) rfl ?_
      rw [nI_1]
      exact Ev.res (by simp only [apartG, hc23, ↓reduceIte]) (x_landingsApart_L ho hF hC hD m (j + 1) _ (by omega))
    · skip
      refine e_iload (p := 28) dX4_landingsApart_26 rfl rfl ?_
      exact e_iretE dX4_landingsApart_28 rfl rfl (by decide) ⟨by simp only [apartG, hc23, ↓reduceIte], rfl⟩
set_option maxRecDepth 10000 in
theorem x_landingsApart {I : Nat → Nat → Int32} {J : Nat → Nat → Int64} {F : Nat → Nat → Option Nat} {nc ns : Nat} {o : Nat} {D : oD} (ho : isO o) (hF : RFok F) (hC : oC I o D) (hD : WFc D) {a : Nat} {b : Int32} : Ev 2 mX4_landingsApart 0 [.ref o, .int (nI a), .int b, .null, .null] [] ((SH, nc, ns), I, J, F) (some (.int (apartS D a b))) ((SH, nc, ns), I, J, F) := by
  obtain ⟨b0, b1, b2, b3, b4, b5, b6⟩ := hD.2
  refine e_iconst (v := 1) (p := 1) dX4_landingsApart_0 (by decide) rfl ?_
  refine e_iload_n (p := 2) dX4_landingsApart_1 rfl rfl ?_
  refine e_ishl (p := 3) dX4_landingsApart_2 rfl ?_
  refine e_istore_n (ls1 := [.ref o, .int (nI a), .int b, .int (1 <<< ((nI a) &&& 31)), .null]) (p := 4) dX4_landingsApart_3 rfl rfl ?_
  refine e_iconst (v := 0) (p := 5) dX4_landingsApart_4 (by decide) rfl ?_
  refine e_istore (ls1 := [.ref o, .int (nI a), .int b, .int (1 <<< ((nI a) &&& 31)), .int 0]) (p := 7) dX4_landingsApart_5 rfl rfl ?_
  exact x_landingsApart_L ho hF hC hD _ 0 _ (by omega)
set_option maxRecDepth 10000 in
theorem x_bitCount {I : Nat → Nat → Int32} {J : Nat → Nat → Int64} {F : Nat → Nat → Option Nat} {nc ns : Nat} {x : Int32} : Ev 0 mJ6_bitCount_0f7a4 0 [.int x] [] ((SH, nc, ns), I, J, F) (some (.int (bcS x))) ((SH, nc, ns), I, J, F) := by
  refine e_iload_n (p := 1) dJ6_bitCount_0f7a4_0 rfl rfl ?_
  refine e_iload_n (p := 2) dJ6_bitCount_0f7a4_1 rfl rfl ?_
  refine e_iconst (v := 1) (p := 3) dJ6_bitCount_0f7a4_2 (by decide) rfl ?_
  refine e_iushr (p := 4) dJ6_bitCount_0f7a4_3 rfl ?_
  refine e_ldcwI (p := 7) dJ6_bitCount_0f7a4_4 rfl rfl ?_
  refine e_iand (p := 8) dJ6_bitCount_0f7a4_7 rfl ?_
  refine e_isub (p := 9) dJ6_bitCount_0f7a4_8 rfl ?_
  refine e_istore_n (ls1 := [.int (x - (((x.toUInt32 >>> ((1 : Int32).toUInt32 &&& Int32.toUInt32 31)).toInt32) &&& 1431655765))]) (p := 10) dJ6_bitCount_0f7a4_9 rfl rfl ?_
  refine e_iload_n (p := 11) dJ6_bitCount_0f7a4_10 rfl rfl ?_
  refine e_ldcwI (p := 14) dJ6_bitCount_0f7a4_11 rfl rfl ?_
  refine e_iand (p := 15) dJ6_bitCount_0f7a4_14 rfl ?_
  refine e_iload_n (p := 16) dJ6_bitCount_0f7a4_15 rfl rfl ?_
  refine e_iconst (v := 2) (p := 17) dJ6_bitCount_0f7a4_16 (by decide) rfl ?_
  refine e_iushr (p := 18) dJ6_bitCount_0f7a4_17 rfl ?_
  refine e_ldcwI (p := 21) dJ6_bitCount_0f7a4_18 rfl rfl ?_
  refine e_iand (p := 22) dJ6_bitCount_0f7a4_21 rfl ?_
  refine e_iadd (p := 23) dJ6_bitCount_0f7a4_22 rfl ?_
  refine e_istore_n (ls1 := [.int (((x - (((x.toUInt32 >>> ((1 : Int32).toUInt32 &&& Int32.toUInt32 31)).toInt32) &&& 1431655765)) &&& 858993459) + ((((x - (((x.toUInt32 >>> ((1 : Int32).toUInt32 &&& Int32.toUInt32 31)).toInt32) &&& 1431655765)).toUInt32 >>> ((2 : Int32).toUInt32 &&& Int32.toUInt32 31)).toInt32) &&& 858993459))]) (p := 24) dJ6_bitCount_0f7a4_23 rfl rfl ?_
  refine e_iload_n (p := 25) dJ6_bitCount_0f7a4_24 rfl rfl ?_
  refine e_iload_n (p := 26) dJ6_bitCount_0f7a4_25 rfl rfl ?_
  refine e_iconst (v := 4) (p := 27) dJ6_bitCount_0f7a4_26 (by decide) rfl ?_
  refine e_iushr (p := 28) dJ6_bitCount_0f7a4_27 rfl ?_
  refine e_iadd (p := 29) dJ6_bitCount_0f7a4_28 rfl ?_
  refine e_ldcwI (p := 32) dJ6_bitCount_0f7a4_29 rfl rfl ?_
  refine e_iand (p := 33) dJ6_bitCount_0f7a4_32 rfl ?_
  refine e_istore_n (ls1 := [.int (((((x - (((x.toUInt32 >>> ((1 : Int32).toUInt32 &&& Int32.toUInt32 31)).toInt32) &&& 1431655765)) &&& 858993459) + ((((x - (((x.toUInt32 >>> ((1 : Int32).toUInt32 &&& Int32.toUInt32 31)).toInt32) &&& 1431655765)).toUInt32 >>> ((2 : Int32).toUInt32 &&& Int32.toUInt32 31)).toInt32) &&& 858993459)) + (((((x - (((x.toUInt32 >>> ((1 : Int32).toUInt32 &&& Int32.toUInt32 31)).toInt32) &&& 1431655765)) &&& 858993459) + ((((x - (((x.toUInt32 >>> ((1 : Int32).toUInt32 &&& Int32.toUInt32 31)).toInt32) &&& 1431655765)).toUInt32 >>> ((2 : Int32).toUInt32 &&& Int32.toUInt32 31)).toInt32) &&& 858993459)).toUInt32 >>> ((4 : Int32).toUInt32 &&& Int32.toUInt32 31)).toInt32)) &&& 252645135)]) (p := 34) dJ6_bitCount_0f7a4_33 rfl rfl ?_
  refine e_iload_n (p := 35) dJ6_bitCount_0f7a4_34 rfl rfl ?_
  refine e_iload_n (p := 36) dJ6_bitCount_0f7a4_35 rfl rfl ?_
  refine e_bipush (v := 8) (p := 38) dJ6_bitCount_0f7a4_36 (by decide) rfl ?_
  refine e_iushr (p := 39) dJ6_bitCount_0f7a4_38 rfl ?_
  refine e_iadd (p := 40) dJ6_bitCount_0f7a4_39 rfl ?_
  refine e_istore_n (ls1 := [.int ((((((x - (((x.toUInt32 >>> ((1 : Int32).toUInt32 &&& Int32.toUInt32 31)).toInt32) &&& 1431655765)) &&& 858993459) + ((((x - (((x.toUInt32 >>> ((1 : Int32).toUInt32 &&& Int32.toUInt32 31)).toInt32) &&& 1431655765)).toUInt32 >>> ((2 : Int32).toUInt32 &&& Int32.toUInt32 31)).toInt32) &&& 858993459)) + (((((x - (((x.toUInt32 >>> ((1 : Int32).toUInt32 &&& Int32.toUInt32 31)).toInt32) &&& 1431655765)) &&& 858993459) + ((((x - (((x.toUInt32 >>> ((1 : Int32).toUInt32 &&& Int32.toUInt32 31)).toInt32) &&& 1431655765)).toUInt32 >>> ((2 : Int32).toUInt32 &&& Int32.toUInt32 31)).toInt32) &&& 858993459)).toUInt32 >>> ((4 : Int32).toUInt32 &&& Int32.toUInt32 31)).toInt32)) &&& 252645135) + (((((((x - (((x.toUInt32 >>> ((1 : Int32).toUInt32 &&& Int32.toUInt32 31)).toInt32) &&& 1431655765)) &&& 858993459) + ((((x - (((x.toUInt32 >>> ((1 : Int32).toUInt32 &&& Int32.toUInt32 31)).toInt32) &&& 1431655765)).toUInt32 >>> ((2 : Int32).toUInt32 &&& Int32.toUInt32 31)).toInt32) &&& 858993459)) + (((((x - (((x.toUInt32 >>> ((1 : Int32).toUInt32 &&& Int32.toUInt32 31)).toInt32) &&& 1431655765)) &&& 858993459) + ((((x - (((x.toUInt32 >>> ((1 : Int32).toUInt32 &&& Int32.toUInt32 31)).toInt32) &&& 1431655765)).toUInt32 >>> ((2 : Int32).toUInt32 &&& Int32.toUInt32 31)).toInt32) &&& 858993459)).toUInt32 >>> ((4 : Int32).toUInt32 &&& Int32.toUInt32 31)).toInt32)) &&& 252645135).toUInt32 >>> ((8 : Int32).toUInt32 &&& Int32.toUInt32 31)).toInt32))]) (p := 41) dJ6_bitCount_0f7a4_40 rfl rfl ?_
  refine e_iload_n (p := 42) dJ6_bitCount_0f7a4_41 rfl rfl ?_
  refine e_iload_n (p := 43) dJ6_bitCount_0f7a4_42 rfl rfl ?_
  refine e_bipush (v := 16) (p := 45) dJ6_bitCount_0f7a4_43 (by decide) rfl ?_
  refine e_iushr (p := 46) dJ6_bitCount_0f7a4_45 rfl ?_
  refine e_iadd (p := 47) dJ6_bitCount_0f7a4_46 rfl ?_
  refine e_istore_n (ls1 := [.int (((((((x - (((x.toUInt32 >>> ((1 : Int32).toUInt32 &&& Int32.toUInt32 31)).toInt32) &&& 1431655765)) &&& 858993459) + ((((x - (((x.toUInt32 >>> ((1 : Int32).toUInt32 &&& Int32.toUInt32 31)).toInt32) &&& 1431655765)).toUInt32 >>> ((2 : Int32).toUInt32 &&& Int32.toUInt32 31)).toInt32) &&& 858993459)) + (((((x - (((x.toUInt32 >>> ((1 : Int32).toUInt32 &&& Int32.toUInt32 31)).toInt32) &&& 1431655765)) &&& 858993459) + ((((x - (((x.toUInt32 >>> ((1 : Int32).toUInt32 &&& Int32.toUInt32 31)).toInt32) &&& 1431655765)).toUInt32 >>> ((2 : Int32).toUInt32 &&& Int32.toUInt32 31)).toInt32) &&& 858993459)).toUInt32 >>> ((4 : Int32).toUInt32 &&& Int32.toUInt32 31)).toInt32)) &&& 252645135) + (((((((x - (((x.toUInt32 >>> ((1 : Int32).toUInt32 &&& Int32.toUInt32 31)).toInt32) &&& 1431655765)) &&& 858993459) + ((((x - (((x.toUInt32 >>> ((1 : Int32).toUInt32 &&& Int32.toUInt32 31)).toInt32) &&& 1431655765)).toUInt32 >>> ((2 : Int32).toUInt32 &&& Int32.toUInt32 31)).toInt32) &&& 858993459)) + (((((x - (((x.toUInt32 >>> ((1 : Int32).toUInt32 &&& Int32.toUInt32 31)).toInt32) &&& 1431655765)) &&& 858993459) + ((((x - (((x.toUInt32 >>> ((1 : Int32).toUInt32 &&& Int32.toUInt32 31)).toInt32) &&& 1431655765)).toUInt32 >>> ((2 : Int32).toUInt32 &&& Int32.toUInt32 31)).toInt32) &&& 858993459)).toUInt32 >>> ((4 : Int32).toUInt32 &&& Int32.toUInt32 31)).toInt32)) &&& 252645135).toUInt32 >>> ((8 : Int32).toUInt32 &&& Int32.toUInt32 31)).toInt32)) + ((((((((x - (((x.toUInt32 >>> ((1 : Int32).toUInt32 &&& Int32.toUInt32 31)).toInt32) &&& 1431655765)) &&& 858993459) + ((((x - (((x.toUInt32 >>> ((1 : Int32).toUInt32 &&& Int32.toUInt32 31)).toInt32) &&& 1431655765)).toUInt32 >>> ((2 : Int32).toUInt32 &&& Int32.toUInt32 31)).toInt32) &&& 858993459)) + (((((x - (((x.toUInt32 >>> ((1 : Int32).toUInt32 &&& Int32.toUInt32 31)).toInt32) &&& 1431655765)) &&& 858993459) + ((((x - (((x.toUInt32 >>> ((1 : Int32).toUInt32 &&& Int32.toUInt32 31)).toInt32) &&& 1431655765)).toUInt32 >>> ((2 : Int32).toUInt32 &&& Int32.toUInt32 31)).toInt32) &&& 858993459)).toUInt32 >>> ((4 : Int32).toUInt32 &&& Int32.toUInt32 31)).toInt32)) &&& 252645135) + (((((((x - (((x.toUInt32 >>> ((1 : Int32).toUInt32 &&& Int32.toUInt32 31)).toInt32) &&& 1431655765)) &&& 858993459) + ((((x - (((x.toUInt32 >>> ((1 : Int32).toUInt32 &&& Int32.toUInt32 31)).toInt32) &&& 1431655765)).toUInt32 >>> ((2 : Int32).toUInt32 &&& Int32.toUInt32 31)).toInt32) &&& 858993459)) + (((((x - (((x.toUInt32 >>> ((1 : Int32).toUInt32 &&& Int32.toUInt32 31)).toInt32) &&& 1431655765)) &&& 858993459) + ((((x - (((x.toUInt32 >>> ((1 : Int32).toUInt32 &&& Int32.toUInt32 31)).toInt32) &&& 1431655765)).toUInt32 >>> ((2 : Int32).toUInt32 &&& Int32.toUInt32 31)).toInt32) &&& 858993459)).toUInt32 >>> ((4 : Int32).toUInt32 &&& Int32.toUInt32 31)).toInt32)) &&& 252645135).toUInt32 >>> ((8 : Int32).toUInt32 &&& Int32.toUInt32 31)).toInt32)).toUInt32 >>> ((16 : Int32).toUInt32 &&& Int32.toUInt32 31)).toInt32))]) (p := 48) dJ6_bitCount_0f7a4_47 rfl rfl ?_
  refine e_iload_n (p := 49) dJ6_bitCount_0f7a4_48 rfl rfl ?_
  refine e_bipush (v := 63) (p := 51) dJ6_bitCount_0f7a4_49 (by decide) rfl ?_
  refine e_iand (p := 52) dJ6_bitCount_0f7a4_51 rfl ?_
  exact e_iretE dJ6_bitCount_0f7a4_52 rfl rfl (by decide) ⟨rfl, rfl⟩
theorem all_eq : ∀ n, n < 7 → (1 : Int32) <<< (nI n &&& 31) - 1 = nI (2 ^ n - 1) := by decide
theorem pow6 : ∀ n, n < 7 → 2 ^ n - 1 < 64 := by decide
set_option maxRecDepth 10000 in
theorem x_fewestBells_L {I : Nat → Nat → Int32} {J : Nat → Nat → Int64} {F : Nat → Nat → Option Nat} {nc ns : Nat} {o : Nat} {D : oD} (ho : isO o) (hF : RFok F) (hC : oC I o D) (hD : WFc D)  : ∀ (m j : Nat) (best : Int32), j + m = 2 ^ dN D 0 - 1 → Ev 2 mX4_fewestBells 15 [.ref o, .int (nI (2 ^ dN D 0 - 1)), .int best, .int (nI j)] [] ((SH, nc, ns), I, J, F) (some (.int (gN (bellsF D) j m best))) ((SH, nc, ns), I, J, F)
  | 0, j, best, hj => by
    obtain ⟨b0, b1, b2, b3, b4, b5, b6⟩ := hD.2
    have b7 := pow6 (dN D 0) (by omega)
    refine e_iload_n (p := 16) dX4_fewestBells_15 rfl rfl ?_
    refine e_iload_n (p := 17) dX4_fewestBells_16 rfl rfl ?_
    refine e_icmp_ge (t := 48) (p := 20) dX4_fewestBells_17 (by decide) rfl rfl (fun hc17 => ?_) (fun hc17 => absurd (nle (by omega) (by omega)) hc17)
    refine e_iload_n (p := 49) dX4_fewestBells_48 rfl rfl ?_
    exact e_iretE dX4_fewestBells_49 rfl rfl (by decide) ⟨rfl, rfl⟩
  | m + 1, j, best, hj => by
    obtain ⟨b0, b1, b2, b3, b4, b5, b6⟩ := hD.2
    have b7 := pow6 (dN D 0) (by omega)
    refine e_iload_n (p := 16) dX4_fewestBells_15 rfl rfl ?_
    refine e_iload_n (p := 17) dX4_fewestBells_16 rfl rfl ?_
    refine e_icmp_ge (t := 48) (p := 20) dX4_fewestBells_17 (by decide) rfl rfl (fun hc17 => absurd hc17 (nge (by omega) (by omega))) (fun hc17 => ?_)
    refine e_iload_n (p := 21) dX4_fewestBells_20 rfl rfl ?_
    refine e_callS_int (p := 24) (k' := 0) (a := [.int (nI j)]) (rr := []) dX4_fewestBells_21 rfl rfl rfl rfl rfl (rc_st rfl) (Nat.le_of_ble_eq_true rfl) (Nat.le_of_ble_eq_true rfl) (by decide) x_bitCount (Or.inl rfl) rfl ?_
    refine e_iload_n (p := 25) dX4_fewestBells_24 rfl rfl ?_
    refine e_callS_int (p := 28) (k' := 0) (a := [.int best]) (rr := [.int (bcS (nI j))]) dX4_fewestBells_25 rfl rfl rfl rfl rfl (rc_st rfl) (Nat.le_of_ble_eq_true rfl) (Nat.le_of_ble_eq_true rfl) (by decide) x_bitCount (Or.inl rfl) rfl ?_
    refine e_icmp_ge (t := 42) (p := 31) dX4_fewestBells_28 (by decide) rfl rfl (fun hc28 => ?_) (fun hc28 => ?_)
    · skip
      refine e_iinc (ls1 := [.ref o, .int (nI (2 ^ dN D 0 - 1)), .int best, .int ((nI j) + 1)]) (p := 45) dX4_fewestBells_42 rfl rfl rfl ?_
      refine e_goto (p := 15) dX4_fewestBells_45 (by decide) rfl ?_
      rw [nI_1]
      exact Ev.res (by simp only [gN_s, bellsF, hc28, (Int32.not_lt.mpr hc28), bit, Int32.or_zero, Int32.add_zero, ↓reduceIte]) (x_fewestBells_L ho hF hC hD m (j + 1) best  (by omega))
    · skip
      refine e_aload_n (p := 32) dX4_fewestBells_31 rfl rfl ?_
      refine e_iload_n (p := 33) dX4_fewestBells_32 rfl rfl ?_
      refine e_callV_int (p := 36) (k' := 1) (a := [.ref o, .int (nI j)]) (rr := []) dX4_fewestBells_33 rfl rfl rfl rfl (rc_of rfl (s_o ho) (l_o0 ho) ⟨rfl, by decide⟩) (Nat.le_of_ble_eq_true rfl) (Nat.le_of_ble_eq_true rfl) (by decide) (x_reachOfAll ho hF hC hD) (Or.inl rfl) rfl ?_
      refine e_iload_n (p := 37) dX4_fewestBells_36 rfl rfl ?_
      refine e_icmp_ne (t := 42) (p := 40) dX4_fewestBells_37 (by decide) rfl rfl (fun hc37 => ?_) (fun hc37 => ?_)
      · skip
        refine e_iinc (ls1 := [.ref o, .int (nI (2 ^ dN D 0 - 1)), .int best, .int ((nI j) + 1)]) (p := 45) dX4_fewestBells_42 rfl rfl rfl ?_
        refine e_goto (p := 15) dX4_fewestBells_45 (by decide) rfl ?_
        rw [nI_1]
        exact Ev.res (by simp only [gN_s, bellsF, hc28, hc37, (Int32.not_le.mp hc28), bit, Int32.or_zero, Int32.add_zero, ↓reduceIte]) (x_fewestBells_L ho hF hC hD m (j + 1) best  (by omega))
      · skip
        refine e_iload_n (p := 41) dX4_fewestBells_40 rfl rfl ?_
        refine e_istore_n (ls1 := [.ref o, .int (nI (2 ^ dN D 0 - 1)), .int (nI j), .int (nI j)]) (p := 42) dX4_fewestBells_41 rfl rfl ?_
        refine e_iinc (ls1 := [.ref o, .int (nI (2 ^ dN D 0 - 1)), .int (nI j), .int ((nI j) + 1)]) (p := 45) dX4_fewestBells_42 rfl rfl rfl ?_
        refine e_goto (p := 15) dX4_fewestBells_45 (by decide) rfl ?_
        rw [nI_1]
        exact Ev.res (by simp only [gN_s, bellsF, hc28, hc37, (Int32.not_le.mp hc28), bit, Int32.or_zero, Int32.add_zero, ↓reduceIte]) (x_fewestBells_L ho hF hC hD m (j + 1) (nI j)  (by omega))
set_option maxRecDepth 10000 in
theorem x_fewestBells {I : Nat → Nat → Int32} {J : Nat → Nat → Int64} {F : Nat → Nat → Option Nat} {nc ns : Nat} {o : Nat} {D : oD} (ho : isO o) (hF : RFok F) (hC : oC I o D) (hD : WFc D)  : Ev 2 mX4_fewestBells 0 [.ref o, .null, .null, .null] [] ((SH, nc, ns), I, J, F) (some (.int (bellsS D))) ((SH, nc, ns), I, J, F) := by
  obtain ⟨b0, b1, b2, b3, b4, b5, b6⟩ := hD.2
  refine e_iconst (v := 1) (p := 1) dX4_fewestBells_0 (by decide) rfl ?_
  refine e_aload_n (p := 2) dX4_fewestBells_1 rfl rfl ?_
  refine e_getR (c := 4) (j := 2) (n := 18) (b := (o + 1)) (p := 5) dX4_fewestBells_2 rfl (s_o ho) (l_o0 ho) (by decide) rfl (r_o2 hF ho) rfl ?_
  refine e_iconst (v := 0) (p := 6) dX4_fewestBells_5 (by decide) rfl ?_
  refine f_iald (n := 7) (i := 0) (v := nI (dN D 0)) (p := 7) dX4_fewestBells_6 (s_o1 ho) (l_o ho 1 (by decide)) (by decide) (by decide) (cN hC hD (by decide)) rfl ?_
  refine e_ishl (p := 8) dX4_fewestBells_7 rfl ?_
  refine e_iconst (v := 1) (p := 9) dX4_fewestBells_8 (by decide) rfl ?_
  refine e_isub (p := 10) dX4_fewestBells_9 rfl ?_
  refine e_istore_n (ls1 := [.ref o, .int ((1 <<< ((nI (dN D 0)) &&& 31)) - 1), .null, .null]) (p := 11) dX4_fewestBells_10 rfl rfl ?_
  rw [all_eq _ (by omega)]
  refine e_iload_n (p := 12) dX4_fewestBells_11 rfl rfl ?_
  refine e_istore_n (ls1 := [.ref o, .int (nI (2 ^ dN D 0 - 1)), .int (nI (2 ^ dN D 0 - 1)), .null]) (p := 13) dX4_fewestBells_12 rfl rfl ?_
  refine e_iconst (v := 0) (p := 14) dX4_fewestBells_13 (by decide) rfl ?_
  refine e_istore_n (ls1 := [.ref o, .int (nI (2 ^ dN D 0 - 1)), .int (nI (2 ^ dN D 0 - 1)), .int 0]) (p := 15) dX4_fewestBells_14 rfl rfl ?_
  exact x_fewestBells_L ho hF hC hD _ 0 _ (by omega)
set_option maxRecDepth 10000 in
theorem x_dearest_L {I : Nat → Nat → Int32} {J : Nat → Nat → Int64} {F : Nat → Nat → Option Nat} {nc ns : Nat} {o : Nat} {D : oD} (ho : isO o) (hF : RFok F) (hC : oC I o D) (hD : WFc D) (hH : WFh D) {hs lo y : Int32} : ∀ (m j : Nat) (best : Int32) (most : Int32) (z : Value), j + m = dN D 2 → Ev 3 mX4_dearest 10 [.ref o, .int hs, .int lo, .int y, .int best, .int most, .int (nI j), z] [] ((SH, nc, ns), I, J, F) (some (.int (gN (dearF D hs lo y) j m (best, most)).1)) ((SH, nc, ns), I, J, F)
  | 0, j, best, most, z, hj => by
    obtain ⟨b0, b1, b2, b3, b4, b5, b6⟩ := hD.2
    refine e_iload (p := 12) dX4_dearest_10 rfl rfl ?_
    refine e_aload_n (p := 13) dX4_dearest_12 rfl rfl ?_
    refine e_getR (c := 4) (j := 2) (n := 18) (b := (o + 1)) (p := 16) dX4_dearest_13 rfl (s_o ho) (l_o0 ho) (by decide) rfl (r_o2 hF ho) rfl ?_
    refine e_iconst (v := 2) (p := 17) dX4_dearest_16 (by decide) rfl ?_
    refine f_iald (n := 7) (i := 2) (v := nI (dN D 2)) (p := 18) dX4_dearest_17 (s_o1 ho) (l_o ho 1 (by decide)) (by decide) (by decide) (cN hC hD (by decide)) rfl ?_
    refine e_icmp_ge (t := 82) (p := 21) dX4_dearest_18 (by decide) rfl rfl (fun hc18 => ?_) (fun hc18 => absurd (nle (by omega) (by omega)) hc18)
    refine e_iload (p := 84) dX4_dearest_82 rfl rfl ?_
    exact e_iretE dX4_dearest_84 rfl rfl (by decide) ⟨rfl, rfl⟩
  | m + 1, j, best, most, z, hj => by
    obtain ⟨b0, b1, b2, b3, b4, b5, b6⟩ := hD.2
    refine e_iload (p := 12) dX4_dearest_10 rfl rfl ?_
    refine e_aload_n (p := 13) dX4_dearest_12 rfl rfl ?_
    refine e_getR (c := 4) (j := 2) (n := 18) (b := (o + 1)) (p := 16) dX4_dearest_13 rfl (s_o ho) (l_o0 ho) (by decide) rfl (r_o2 hF ho) rfl ?_
    refine e_iconst (v := 2) (p := 17) dX4_dearest_16 (by decide) rfl ?_
    refine f_iald (n := 7) (i := 2) (v := nI (dN D 2)) (p := 18) dX4_dearest_17 (s_o1 ho) (l_o ho 1 (by decide)) (by decide) (by decide) (cN hC hD (by decide)) rfl ?_
    refine e_icmp_ge (t := 82) (p := 21) dX4_dearest_18 (by decide) rfl rfl (fun hc18 => absurd hc18 (nge (by omega) (by omega))) (fun hc18 => ?_)
    refine e_iload_n (p := 22) dX4_dearest_21 rfl rfl ?_
    refine e_aload_n (p := 23) dX4_dearest_22 rfl rfl ?_
    refine e_getR (c := 4) (j := 7) (n := 18) (b := (o + 6)) (p := 26) dX4_dearest_23 rfl (s_o ho) (l_o0 ho) (by decide) rfl (r_o7 hF ho) rfl ?_
    refine e_iload (p := 28) dX4_dearest_26 rfl rfl ?_
    refine f_iald (n := 8) (i := j) (v := D 7 j) (p := 29) dX4_dearest_28 (s_o6 ho) (l_o ho 6 (by decide)) (in_nJ (by omega) (by decide)) (nI_cl (by omega)) (c7 hC (by omega)) rfl ?_
    refine e_ishr (p := 30) dX4_dearest_29 rfl ?_
    refine e_iconst (v := 1) (p := 31) dX4_dearest_30 (by decide) rfl ?_
    refine e_iand (p := 32) dX4_dearest_31 rfl ?_
    refine e_if_eq (t := 76) (p := 35) dX4_dearest_32 (by decide) rfl rfl (fun hc32 => ?_) (fun hc32 => ?_)
    · skip
      refine e_iinc (ls1 := [.ref o, .int hs, .int lo, .int y, .int best, .int most, .int ((nI j) + 1), z]) (p := 79) dX4_dearest_76 rfl rfl rfl ?_
      refine e_goto (p := 10) dX4_dearest_79 (by decide) rfl ?_
      rw [nI_1]
      exact Ev.res (by simp only [gN_s, dearF, hc32, bit, Int32.or_zero, Int32.add_zero, ↓reduceIte]) (x_dearest_L ho hF hC hD hH m (j + 1) best most (z) (by omega))
    · skip
      refine e_iload_n (p := 36) dX4_dearest_35 rfl rfl ?_
      refine e_iload (p := 38) dX4_dearest_36 rfl rfl ?_
      refine e_ishr (p := 39) dX4_dearest_38 rfl ?_
      refine e_iconst (v := 1) (p := 40) dX4_dearest_39 (by decide) rfl ?_
      refine e_iand (p := 41) dX4_dearest_40 rfl ?_
      refine e_if_eq (t := 47) (p := 44) dX4_dearest_41 (by decide) rfl rfl (fun hc41 => ?_) (fun hc41 => ?_)
      · skip
        refine e_aload_n (p := 48) dX4_dearest_47 rfl rfl ?_
        refine e_iload (p := 50) dX4_dearest_48 rfl rfl ?_
        refine e_iload_n (p := 51) dX4_dearest_50 rfl rfl ?_
        refine e_aload_n (p := 52) dX4_dearest_51 rfl rfl ?_
        refine f_getI (c := 4) (j := 0) (n := 18) (v := D 0 0) (p := 55) dX4_dearest_52 rfl (s_o ho) (l_o0 ho) (by decide) (Or.inl rfl) hC.1 rfl ?_
        refine e_imul (p := 56) dX4_dearest_55 rfl ?_
        refine e_callV_int (p := 59) (k' := 2) (a := [.ref o, .int (nI j), .int (y * (D 0 0))]) (rr := []) dX4_dearest_56 rfl rfl rfl rfl (rc_of rfl (s_o ho) (l_o0 ho) ⟨rfl, by decide⟩) (Nat.le_of_ble_eq_true rfl) (Nat.le_of_ble_eq_true rfl) (by decide) (x_loveIn ho hF hC hD hH (by omega)) (Or.inl rfl) rfl ?_
        refine e_istore (ls1 := [.ref o, .int hs, .int lo, .int y, .int best, .int most, .int (nI j), .int (loveS D j (y * (D 0 0)))]) (p := 61) dX4_dearest_59 rfl rfl ?_
        refine e_iload (p := 63) dX4_dearest_61 rfl rfl ?_
        refine e_iload (p := 65) dX4_dearest_63 rfl rfl ?_
        refine e_icmp_le (t := 76) (p := 68) dX4_dearest_65 (by decide) rfl rfl (fun hc65 => ?_) (fun hc65 => ?_)
        · skip
          refine e_iinc (ls1 := [.ref o, .int hs, .int lo, .int y, .int best, .int most, .int ((nI j) + 1), .int (loveS D j (y * (D 0 0)))]) (p := 79) dX4_dearest_76 rfl rfl rfl ?_
          refine e_goto (p := 10) dX4_dearest_79 (by decide) rfl ?_
          rw [nI_1]
          exact Ev.res (by simp only [gN_s, dearF, hc32, hc41, hc65, (Int32.not_lt.mpr hc65), bit, Int32.or_zero, Int32.add_zero, ↓reduceIte]) (x_dearest_L ho hF hC hD hH m (j + 1) best most (.int (loveS D j (y * (D 0 0)))) (by omega))
        · skip
          refine e_iload (p := 70) dX4_dearest_68 rfl rfl ?_
          refine e_istore (ls1 := [.ref o, .int hs, .int lo, .int y, .int best, .int (loveS D j (y * (D 0 0))), .int (nI j), .int (loveS D j (y * (D 0 0)))]) (p := 72) dX4_dearest_70 rfl rfl ?_
          refine e_iload (p := 74) dX4_dearest_72 rfl rfl ?_
          refine e_istore (ls1 := [.ref o, .int hs, .int lo, .int y, .int (nI j), .int (loveS D j (y * (D 0 0))), .int (nI j), .int (loveS D j (y * (D 0 0)))]) (p := 76) dX4_dearest_74 rfl rfl ?_
          refine e_iinc (ls1 := [.ref o, .int hs, .int lo, .int y, .int (nI j), .int (loveS D j (y * (D 0 0))), .int ((nI j) + 1), .int (loveS D j (y * (D 0 0)))]) (p := 79) dX4_dearest_76 rfl rfl rfl ?_
          refine e_goto (p := 10) dX4_dearest_79 (by decide) rfl ?_
          rw [nI_1]
          exact Ev.res (by simp only [gN_s, dearF, hc32, hc41, hc65, (Int32.not_le.mp hc65), bit, Int32.or_zero, Int32.add_zero, ↓reduceIte]) (x_dearest_L ho hF hC hD hH m (j + 1) (nI j) (loveS D j (y * (D 0 0))) (.int (loveS D j (y * (D 0 0)))) (by omega))
      · skip
        refine e_goto (p := 76) dX4_dearest_44 (by decide) rfl ?_
        refine e_iinc (ls1 := [.ref o, .int hs, .int lo, .int y, .int best, .int most, .int ((nI j) + 1), z]) (p := 79) dX4_dearest_76 rfl rfl rfl ?_
        refine e_goto (p := 10) dX4_dearest_79 (by decide) rfl ?_
        rw [nI_1]
        exact Ev.res (by simp only [gN_s, dearF, hc32, hc41, bit, Int32.or_zero, Int32.add_zero, ↓reduceIte]) (x_dearest_L ho hF hC hD hH m (j + 1) best most (z) (by omega))
set_option maxRecDepth 10000 in
theorem x_dearest {I : Nat → Nat → Int32} {J : Nat → Nat → Int64} {F : Nat → Nat → Option Nat} {nc ns : Nat} {o : Nat} {D : oD} (ho : isO o) (hF : RFok F) (hC : oC I o D) (hD : WFc D) (hH : WFh D) {hs lo y : Int32} : Ev 3 mX4_dearest 0 [.ref o, .int hs, .int lo, .int y, .null, .null, .null, .null] [] ((SH, nc, ns), I, J, F) (some (.int (dearS D hs lo y))) ((SH, nc, ns), I, J, F) := by
  obtain ⟨b0, b1, b2, b3, b4, b5, b6⟩ := hD.2
  refine e_bipush (v := -2) (p := 2) dX4_dearest_0 (by decide) rfl ?_
  refine e_istore (ls1 := [.ref o, .int hs, .int lo, .int y, .int (-2), .null, .null, .null]) (p := 4) dX4_dearest_2 rfl rfl ?_
  refine e_iconst (v := 0) (p := 5) dX4_dearest_4 (by decide) rfl ?_
  refine e_istore (ls1 := [.ref o, .int hs, .int lo, .int y, .int (-2), .int 0, .null, .null]) (p := 7) dX4_dearest_5 rfl rfl ?_
  refine e_iconst (v := 0) (p := 8) dX4_dearest_7 (by decide) rfl ?_
  refine e_istore (ls1 := [.ref o, .int hs, .int lo, .int y, .int (-2), .int 0, .int 0, .null]) (p := 10) dX4_dearest_8 rfl rfl ?_
  exact x_dearest_L ho hF hC hD hH _ 0 _ _ _ (by omega)
set_option maxRecDepth 10000 in
theorem x_overTrial_L {I : Nat → Nat → Int32} {J : Nat → Nat → Int64} {F : Nat → Nat → Option Nat} {nc ns : Nat} {o : Nat} {D : oD} (ho : isO o) (hF : RFok F) (hC : oC I o D) (hD : WFc D) (hT : WFt D) {x : Int32} : ∀ (m j : Nat) (acc : Int64), j + m = tN D → Ev 0 mX4_overTrial 5 [.ref o, .int x, .long acc, .null, .int (nI j)] [] ((SH, nc, ns), I, J, F) (some (.long (gN (fun _ a => a * x.toInt64) j m acc))) ((SH, nc, ns), I, J, F)
  | 0, j, acc, hj => by
    have bt := hT.2
    refine e_iload (p := 7) dX4_overTrial_5 rfl rfl ?_
    refine e_aload_n (p := 8) dX4_overTrial_7 rfl rfl ?_
    refine f_getI (c := 4) (j := 1) (n := 18) (v := nI (tN D)) (p := 11) dX4_overTrial_8 rfl (s_o ho) (l_o0 ho) (by decide) (Or.inl rfl) (hC.2.1.trans hT.1) rfl ?_
    refine e_icmp_ge (t := 25) (p := 14) dX4_overTrial_11 (by decide) rfl rfl (fun hc11 => ?_) (fun hc11 => absurd (nle (by omega) (by omega)) hc11)
    refine e_lload_n (p := 26) dX4_overTrial_25 rfl rfl ?_
    exact e_lretE dX4_overTrial_26 rfl ⟨rfl, rfl⟩
  | m + 1, j, acc, hj => by
    have bt := hT.2
    refine e_iload (p := 7) dX4_overTrial_5 rfl rfl ?_
    refine e_aload_n (p := 8) dX4_overTrial_7 rfl rfl ?_
    refine f_getI (c := 4) (j := 1) (n := 18) (v := nI (tN D)) (p := 11) dX4_overTrial_8 rfl (s_o ho) (l_o0 ho) (by decide) (Or.inl rfl) (hC.2.1.trans hT.1) rfl ?_
    refine e_icmp_ge (t := 25) (p := 14) dX4_overTrial_11 (by decide) rfl rfl (fun hc11 => absurd hc11 (nge (by omega) (by omega))) (fun hc11 => ?_)
    refine e_lload_n (p := 15) dX4_overTrial_14 rfl rfl ?_
    refine e_iload_n (p := 16) dX4_overTrial_15 rfl rfl ?_
    refine e_i2l (p := 17) dX4_overTrial_16 rfl ?_
    refine e_lmul (p := 18) dX4_overTrial_17 rfl ?_
    refine e_lstore_n (ls1 := [.ref o, .int x, .long (acc * x.toInt64), .null, .int (nI j)]) (p := 19) dX4_overTrial_18 rfl rfl ?_
    refine e_iinc (ls1 := [.ref o, .int x, .long (acc * x.toInt64), .null, .int ((nI j) + 1)]) (p := 22) dX4_overTrial_19 rfl rfl rfl ?_
    refine e_goto (p := 5) dX4_overTrial_22 (by decide) rfl ?_
    rw [nI_1]
    exact Ev.res (by simp only [gN_s, bit, Int32.or_zero, Int32.add_zero, ↓reduceIte]) (x_overTrial_L ho hF hC hD hT m (j + 1) (acc * x.toInt64)  (by omega))
set_option maxRecDepth 10000 in
theorem x_overTrial {I : Nat → Nat → Int32} {J : Nat → Nat → Int64} {F : Nat → Nat → Option Nat} {nc ns : Nat} {o : Nat} {D : oD} (ho : isO o) (hF : RFok F) (hC : oC I o D) (hD : WFc D) (hT : WFt D) {x : Int32} : Ev 0 mX4_overTrial 0 [.ref o, .int x, .null, .null, .null] [] ((SH, nc, ns), I, J, F) (some (.long (powS D x.toInt64))) ((SH, nc, ns), I, J, F) := by
  refine e_lconst (v := 1) (p := 1) dX4_overTrial_0 (by decide) rfl ?_
  refine e_lstore_n (ls1 := [.ref o, .int x, .long 1, .null, .null]) (p := 2) dX4_overTrial_1 rfl rfl ?_
  refine e_iconst (v := 0) (p := 3) dX4_overTrial_2 (by decide) rfl ?_
  refine e_istore (ls1 := [.ref o, .int x, .long 1, .null, .int 0]) (p := 5) dX4_overTrial_3 rfl rfl ?_
  exact x_overTrial_L ho hF hC hD hT _ 0 _ (by omega)
set_option maxRecDepth 10000 in
theorem x_hasHW {I : Nat → Nat → Int32} {J : Nat → Nat → Int64} {F : Nat → Nat → Option Nat} {nc ns : Nat} {o : Nat} {D : oD} (ho : isO o) (hF : RFok F) (hC : oC I o D) (hD : WFc D)  : Ev 0 mX4_hasHarbourAndWoman 0 [.ref o] [] ((SH, nc, ns), I, J, F) (some (.int (if nI (dN D 0) ≤ 0 then 0 else if nI (dN D 2) ≤ 0 then 0 else 1))) ((SH, nc, ns), I, J, F) := by
  obtain ⟨b0, b1, b2, b3, b4, b5, b6⟩ := hD.2
  refine e_aload_n (p := 1) dX4_hasHarbourAndWoman_0 rfl rfl ?_
  refine e_getR (c := 4) (j := 2) (n := 18) (b := (o + 1)) (p := 4) dX4_hasHarbourAndWoman_1 rfl (s_o ho) (l_o0 ho) (by decide) rfl (r_o2 hF ho) rfl ?_
  refine e_iconst (v := 0) (p := 5) dX4_hasHarbourAndWoman_4 (by decide) rfl ?_
  refine f_iald (n := 7) (i := 0) (v := nI (dN D 0)) (p := 6) dX4_hasHarbourAndWoman_5 (s_o1 ho) (l_o ho 1 (by decide)) (by decide) (by decide) (cN hC hD (by decide)) rfl ?_
  refine e_if_le (t := 22) (p := 9) dX4_hasHarbourAndWoman_6 (by decide) rfl rfl (fun hc6 => ?_) (fun hc6 => ?_)
  · skip
    refine e_iconst (v := 0) (p := 23) dX4_hasHarbourAndWoman_22 (by decide) rfl ?_
    exact e_iretE dX4_hasHarbourAndWoman_23 rfl (by decide) (by decide) ⟨by simp only [*, ↓reduceIte], rfl⟩
  · skip
    refine e_aload_n (p := 10) dX4_hasHarbourAndWoman_9 rfl rfl ?_
    refine e_getR (c := 4) (j := 2) (n := 18) (b := (o + 1)) (p := 13) dX4_hasHarbourAndWoman_10 rfl (s_o ho) (l_o0 ho) (by decide) rfl (r_o2 hF ho) rfl ?_
    refine e_iconst (v := 2) (p := 14) dX4_hasHarbourAndWoman_13 (by decide) rfl ?_
    refine f_iald (n := 7) (i := 2) (v := nI (dN D 2)) (p := 15) dX4_hasHarbourAndWoman_14 (s_o1 ho) (l_o ho 1 (by decide)) (by decide) (by decide) (cN hC hD (by decide)) rfl ?_
    refine e_if_le (t := 22) (p := 18) dX4_hasHarbourAndWoman_15 (by decide) rfl rfl (fun hc15 => ?_) (fun hc15 => ?_)
    · skip
      refine e_iconst (v := 0) (p := 23) dX4_hasHarbourAndWoman_22 (by decide) rfl ?_
      exact e_iretE dX4_hasHarbourAndWoman_23 rfl (by decide) (by decide) ⟨by simp only [*, ↓reduceIte], rfl⟩
    · skip
      refine e_iconst (v := 1) (p := 19) dX4_hasHarbourAndWoman_18 (by decide) rfl ?_
      refine e_goto (p := 23) dX4_hasHarbourAndWoman_19 (by decide) rfl ?_
      exact e_iretE dX4_hasHarbourAndWoman_23 rfl (by decide) (by decide) ⟨by simp only [*, ↓reduceIte], rfl⟩
