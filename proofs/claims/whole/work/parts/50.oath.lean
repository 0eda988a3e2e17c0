set_option maxRecDepth 10000 in
theorem x_isOfAge {I : Nat → Nat → Int32} {J : Nat → Nat → Int64} {F : Nat → Nat → Option Nat} {nc ns : Nat} {o : Nat} {D : oD} (ho : isO o) (hF : RFok F) (hC : oC I o D) (hD : WFc D) {w : Nat} {y : Int32} (hw : w < dN D 2) : Ev 0 mX4_isOfAge 0 [.ref o, .int (nI w), .int y, .null] [] ((SH, nc, ns), I, J, F) (some (.int (ageOk (y - D 9 w)))) ((SH, nc, ns), I, J, F) := by
  obtain ⟨b0, b1, b2, b3, b4, b5, b6⟩ := hD.2
  refine e_iload_n (p := 1) dX4_isOfAge_0 rfl rfl ?_
  refine e_aload_n (p := 2) dX4_isOfAge_1 rfl rfl ?_
  refine e_getR (c := 4) (j := 9) (n := 18) (b := (o + 8)) (p := 5) dX4_isOfAge_2 rfl (s_o ho) (l_o0 ho) (by decide) rfl (r_o9 hF ho) rfl ?_
  refine e_iload_n (p := 6) dX4_isOfAge_5 rfl rfl ?_
  refine f_iald (n := 8) (i := w) (v := D 9 w) (p := 7) dX4_isOfAge_6 (s_o8 ho) (l_o ho 8 (by decide)) (in_nJ (by omega) (by decide)) (nI_cl (by omega)) (c9 hC (by omega)) rfl ?_
  refine e_isub (p := 8) dX4_isOfAge_7 rfl ?_
  refine e_istore_n (ls1 := [.ref o, .int (nI w), .int y, .int (y - (D 9 w))]) (p := 9) dX4_isOfAge_8 rfl rfl ?_
  refine e_iload_n (p := 10) dX4_isOfAge_9 rfl rfl ?_
  refine e_bipush (v := 16) (p := 12) dX4_isOfAge_10 (by decide) rfl ?_
  refine e_icmp_lt (t := 25) (p := 15) dX4_isOfAge_12 (by decide) rfl rfl (fun hc12 => ?_) (fun hc12 => ?_)
  · skip
    refine e_iconst (v := 0) (p := 26) dX4_isOfAge_25 (by decide) rfl ?_
    exact e_iretE dX4_isOfAge_26 rfl (by decide) (by decide) ⟨by simp [ageOk, *], rfl⟩
  · skip
    refine e_iload_n (p := 16) dX4_isOfAge_15 rfl rfl ?_
    refine e_bipush (v := 40) (p := 18) dX4_isOfAge_16 (by decide) rfl ?_
    refine e_icmp_gt (t := 25) (p := 21) dX4_isOfAge_18 (by decide) rfl rfl (fun hc18 => ?_) (fun hc18 => ?_)
    · skip
      refine e_iconst (v := 0) (p := 26) dX4_isOfAge_25 (by decide) rfl ?_
      exact e_iretE dX4_isOfAge_26 rfl (by decide) (by decide) ⟨by simp [ageOk, *], rfl⟩
    · skip
      refine e_iconst (v := 1) (p := 22) dX4_isOfAge_21 (by decide) rfl ?_
      refine e_goto (p := 26) dX4_isOfAge_22 (by decide) rfl ?_
      exact e_iretE dX4_isOfAge_26 rfl (by decide) (by decide) ⟨by simp [ageOk, *], rfl⟩
set_option maxRecDepth 10000 in
theorem x_isTold {I : Nat → Nat → Int32} {J : Nat → Nat → Int64} {F : Nat → Nat → Option Nat} {nc ns : Nat} {o : Nat} {D : oD} (ho : isO o) (hF : RFok F) (hC : oC I o D) (hD : WFc D)  : Ev 0 mX4_isTold 0 [.ref o] [] ((SH, nc, ns), I, J, F) (some (.int (if D 0 0 ≤ 0 then 0 else 1))) ((SH, nc, ns), I, J, F) := by
  refine e_aload_n (p := 1) dX4_isTold_0 rfl rfl ?_
  refine f_getI (c := 4) (j := 0) (n := 18) (v := D 0 0) (p := 4) dX4_isTold_1 rfl (s_o ho) (l_o0 ho) (by decide) (Or.inl rfl) hC.1 rfl ?_
  refine e_if_le (t := 11) (p := 7) dX4_isTold_4 (by decide) rfl rfl (fun hc4 => ?_) (fun hc4 => ?_)
  · skip
    refine e_iconst (v := 0) (p := 12) dX4_isTold_11 (by decide) rfl ?_
    exact e_iretE dX4_isTold_12 rfl (by decide) (by decide) ⟨by simp [*], rfl⟩
  · skip
    refine e_iconst (v := 1) (p := 8) dX4_isTold_7 (by decide) rfl ?_
    refine e_goto (p := 12) dX4_isTold_8 (by decide) rfl ?_
    exact e_iretE dX4_isTold_12 rfl (by decide) (by decide) ⟨by simp [*], rfl⟩
set_option maxRecDepth 10000 in
theorem x_servedIn {I : Nat → Nat → Int32} {J : Nat → Nat → Int64} {F : Nat → Nat → Option Nat} {nc ns : Nat} {o : Nat} {D : oD} (ho : isO o) (hF : RFok F) (hC : oC I o D) (hD : WFc D) {k : Nat} {y : Int32} (hk : k < dN D 5) : Ev 0 mX4_servedIn 0 [.ref o, .int (nI k), .int y] [] ((SH, nc, ns), I, J, F) (some (.int (servedS D k y))) ((SH, nc, ns), I, J, F) := by
  obtain ⟨b0, b1, b2, b3, b4, b5, b6⟩ := hD.2
  refine e_aload_n (p := 1) dX4_servedIn_0 rfl rfl ?_
  refine e_getR (c := 4) (j := 15) (n := 18) (b := (o + 14)) (p := 4) dX4_servedIn_1 rfl (s_o ho) (l_o0 ho) (by decide) rfl (r_o15 hF ho) rfl ?_
  refine e_iload_n (p := 5) dX4_servedIn_4 rfl rfl ?_
  refine f_iald (n := 5) (i := k) (v := D 15 k) (p := 6) dX4_servedIn_5 (s_o14 ho) (l_o ho 14 (by decide)) (in_nJ (by omega) (by decide)) (nI_cl (by omega)) (c15 hC (by omega)) rfl ?_
  refine e_iconst (v := 0) (p := 7) dX4_servedIn_6 (by decide) rfl ?_
  refine e_iload_n (p := 8) dX4_servedIn_7 rfl rfl ?_
  refine e_aload_n (p := 9) dX4_servedIn_8 rfl rfl ?_
  refine e_getR (c := 4) (j := 14) (n := 18) (b := (o + 13)) (p := 12) dX4_servedIn_9 rfl (s_o ho) (l_o0 ho) (by decide) rfl (r_o14 hF ho) rfl ?_
  refine e_iload_n (p := 13) dX4_servedIn_12 rfl rfl ?_
  refine f_iald (n := 5) (i := k) (v := D 14 k) (p := 14) dX4_servedIn_13 (s_o13 ho) (l_o ho 13 (by decide)) (in_nJ (by omega) (by decide)) (nI_cl (by omega)) (c14 hC (by omega)) rfl ?_
  refine e_isub (p := 15) dX4_servedIn_14 rfl ?_
  refine e_max (p := 18) dX4_servedIn_15 rfl (Nat.le_of_ble_eq_true rfl) rfl ?_
  refine e_imul (p := 19) dX4_servedIn_18 rfl ?_
  exact e_iretE dX4_servedIn_19 rfl rfl (by decide) ⟨rfl, rfl⟩
theorem sw_out13 {x : Int32} (h1 : ¬ x = 1) (h2 : ¬ x = 2) (h3 : ¬ x = 3) : x.toInt < 1 ∨ 3 < x.toInt := by
  by_cases h : x.toInt < 1
  · exact Or.inl h
  · by_cases z : 3 < x.toInt
    · exact Or.inr z
    · exfalso
      have e1 : x.toInt = 1 ∨ x.toInt = 2 ∨ x.toInt = 3 := by omega
      rcases e1 with e | e | e
      · exact h1 (Int32.toInt_inj.mp e)
      · exact h2 (Int32.toInt_inj.mp e)
      · exact h3 (Int32.toInt_inj.mp e)
set_option maxRecDepth 10000 in
theorem x_unrivalledIn {I : Nat → Nat → Int32} {J : Nat → Nat → Int64} {F : Nat → Nat → Option Nat} {nc ns : Nat} {o : Nat} {D : oD} (ho : isO o) (hF : RFok F) (hC : oC I o D) (hD : WFc D) (hH : WFh D) {w : Nat} {y : Int32} (hw : w < dN D 2) : Ev 1 mX4_unrivalledIn 0 [.ref o, .int (nI w), .int y, .null] [] ((SH, nc, ns), I, J, F) (some (.int (heartS D w y))) ((SH, nc, ns), I, J, F) := by
  obtain ⟨b0, b1, b2, b3, b4, b5, b6⟩ := hD.2
  refine e_aload_n (p := 1) dX4_unrivalledIn_0 rfl rfl ?_
  refine e_iload_n (p := 2) dX4_unrivalledIn_1 rfl rfl ?_
  refine e_iload_n (p := 3) dX4_unrivalledIn_2 rfl rfl ?_
  refine e_callV_int (p := 6) (k' := 0) (a := [.ref o, .int (nI w), .int y]) (rr := []) dX4_unrivalledIn_3 rfl rfl rfl rfl (rc_of rfl (s_o ho) (l_o0 ho) ⟨rfl, by decide⟩) (Nat.le_of_ble_eq_true rfl) (Nat.le_of_ble_eq_true rfl) (by decide) (x_isOfAge ho hF hC hD hw) (Or.inl rfl) rfl ?_
  refine e_if_ne (t := 11) (p := 9) dX4_unrivalledIn_6 (by decide) rfl rfl (fun hc6 => ?_) (fun hc6 => ?_)
  · skip
    refine e_aload_n (p := 12) dX4_unrivalledIn_11 rfl rfl ?_
    refine e_getR (c := 4) (j := 8) (n := 18) (b := (o + 7)) (p := 15) dX4_unrivalledIn_12 rfl (s_o ho) (l_o0 ho) (by decide) rfl (r_o8 hF ho) rfl ?_
    refine e_iload_n (p := 16) dX4_unrivalledIn_15 rfl rfl ?_
    refine f_iald (n := 8) (i := w) (v := D 8 w) (p := 17) dX4_unrivalledIn_16 (s_o7 ho) (l_o ho 7 (by decide)) (in_nJ (by omega) (by decide)) (nI_cl (by omega)) (c8 hC (by omega)) rfl ?_
    refine e_sipush (v := 200) (p := 20) dX4_unrivalledIn_17 (by decide) rfl ?_
    refine e_aload_n (p := 21) dX4_unrivalledIn_20 rfl rfl ?_
    refine e_getR (c := 4) (j := 3) (n := 18) (b := (o + 2)) (p := 24) dX4_unrivalledIn_21 rfl (s_o ho) (l_o0 ho) (by decide) rfl (r_o3 hF ho) rfl ?_
    refine e_aload_n (p := 25) dX4_unrivalledIn_24 rfl rfl ?_
    refine e_getR (c := 4) (j := 7) (n := 18) (b := (o + 6)) (p := 28) dX4_unrivalledIn_25 rfl (s_o ho) (l_o0 ho) (by decide) rfl (r_o7 hF ho) rfl ?_
    refine e_iload_n (p := 29) dX4_unrivalledIn_28 rfl rfl ?_
    refine f_iald (n := 8) (i := w) (v := D 7 w) (p := 30) dX4_unrivalledIn_29 (s_o6 ho) (l_o ho 6 (by decide)) (in_nJ (by omega) (by decide)) (nI_cl (by omega)) (c7 hC (by omega)) rfl ?_
    refine f_iald (n := 6) (i := (D 7 w).toNatClampNeg) (v := D 3 ((D 7 w).toNatClampNeg)) (p := 31) dX4_unrivalledIn_30 (s_o2 ho) (l_o ho 2 (by decide)) (hm_in hD hH hw) rfl (c3 hC (hm_lt hD hH hw)) rfl ?_
    refine e_isub (p := 32) dX4_unrivalledIn_31 rfl ?_
    refine e_imul (p := 33) dX4_unrivalledIn_32 rfl ?_
    refine e_sipush (v := 200) (p := 36) dX4_unrivalledIn_33 (by decide) rfl ?_
    refine e_idiv (p := 37) dX4_unrivalledIn_36 (by decide) rfl ?_
    refine e_istore_n (ls1 := [.ref o, .int (nI w), .int y, .int (((D 8 w) * (200 - (D 3 ((D 7 w).toNatClampNeg)))) / 200)]) (p := 38) dX4_unrivalledIn_37 rfl rfl ?_
    refine e_aload_n (p := 39) dX4_unrivalledIn_38 rfl rfl ?_
    refine e_getR (c := 4) (j := 6) (n := 18) (b := (o + 5)) (p := 42) dX4_unrivalledIn_39 rfl (s_o ho) (l_o0 ho) (by decide) rfl (r_o6 hF ho) rfl ?_
    refine e_iload_n (p := 43) dX4_unrivalledIn_42 rfl rfl ?_
    refine f_iald (n := 8) (i := w) (v := D 6 w) (p := 44) dX4_unrivalledIn_43 (s_o5 ho) (l_o ho 5 (by decide)) (in_nJ (by omega) (by decide)) (nI_cl (by omega)) (c6 hC (by omega)) rfl ?_
    rcases (show D 6 w = 1 ∨ D 6 w = 2 ∨ D 6 w = 3 ∨ (¬ D 6 w = 1 ∧ ¬ D 6 w = 2 ∧ ¬ D 6 w = 3) by
    by_cases z1 : D 6 w = 1
    · exact Or.inl z1
    · by_cases z2 : D 6 w = 2
      · exact Or.inr (Or.inl z2)
      · by_cases z3 : D 6 w = 3
        · exact Or.inr (Or.inr (Or.inl z3))
        · exact Or.inr (Or.inr (Or.inr ⟨z1, z2, z3⟩))) with hk | hk | hk | hk
    · rw [hk]
      refine e_swIn (p := 72) dX4_unrivalledIn_44 (by decide) rfl (by decide) rfl ?_
      refine e_aload_n (p := 73) dX4_unrivalledIn_72 rfl rfl ?_
      refine e_getR (c := 4) (j := 8) (n := 18) (b := (o + 7)) (p := 76) dX4_unrivalledIn_73 rfl (s_o ho) (l_o0 ho) (by decide) rfl (r_o8 hF ho) rfl ?_
      refine e_iload_n (p := 77) dX4_unrivalledIn_76 rfl rfl ?_
      refine f_iald (n := 8) (i := w) (v := D 8 w) (p := 78) dX4_unrivalledIn_77 (s_o7 ho) (l_o ho 7 (by decide)) (in_nJ (by omega) (by decide)) (nI_cl (by omega)) (c8 hC (by omega)) rfl ?_
      exact e_iretE dX4_unrivalledIn_78 rfl rfl (by decide) ⟨by simp [heartS, *], rfl⟩
    · rw [hk]
      refine e_swIn (p := 79) dX4_unrivalledIn_44 (by decide) rfl (by decide) rfl ?_
      refine e_iload_n (p := 80) dX4_unrivalledIn_79 rfl rfl ?_
      refine e_aload_n (p := 81) dX4_unrivalledIn_80 rfl rfl ?_
      refine e_getR (c := 4) (j := 4) (n := 18) (b := (o + 3)) (p := 84) dX4_unrivalledIn_81 rfl (s_o ho) (l_o0 ho) (by decide) rfl (r_o4 hF ho) rfl ?_
      refine e_aload_n (p := 85) dX4_unrivalledIn_84 rfl rfl ?_
      refine e_getR (c := 4) (j := 7) (n := 18) (b := (o + 6)) (p := 88) dX4_unrivalledIn_85 rfl (s_o ho) (l_o0 ho) (by decide) rfl (r_o7 hF ho) rfl ?_
      refine e_iload_n (p := 89) dX4_unrivalledIn_88 rfl rfl ?_
      refine f_iald (n := 8) (i := w) (v := D 7 w) (p := 90) dX4_unrivalledIn_89 (s_o6 ho) (l_o ho 6 (by decide)) (in_nJ (by omega) (by decide)) (nI_cl (by omega)) (c7 hC (by omega)) rfl ?_
      refine f_iald (n := 6) (i := (D 7 w).toNatClampNeg) (v := D 4 ((D 7 w).toNatClampNeg)) (p := 91) dX4_unrivalledIn_90 (s_o3 ho) (l_o ho 3 (by decide)) (hm_in hD hH hw) rfl (c4 hC (hm_lt hD hH hw)) rfl ?_
      refine e_iconst (v := 2) (p := 92) dX4_unrivalledIn_91 (by decide) rfl ?_
      refine e_idiv (p := 93) dX4_unrivalledIn_92 (by decide) rfl ?_
      refine e_max (p := 96) dX4_unrivalledIn_93 rfl (Nat.le_of_ble_eq_true rfl) rfl ?_
      exact e_iretE dX4_unrivalledIn_96 rfl rfl (by decide) ⟨by simp [heartS, *], rfl⟩
    · rw [hk]
      refine e_swIn (p := 97) dX4_unrivalledIn_44 (by decide) rfl (by decide) rfl ?_
      refine e_iload_n (p := 98) dX4_unrivalledIn_97 rfl rfl ?_
      refine e_iconst (v := 2) (p := 99) dX4_unrivalledIn_98 (by decide) rfl ?_
      refine e_idiv (p := 100) dX4_unrivalledIn_99 (by decide) rfl ?_
      exact e_iretE dX4_unrivalledIn_100 rfl rfl (by decide) ⟨by simp [heartS, *], rfl⟩
    · obtain ⟨z1, z2, z3⟩ := hk
      refine e_swOut (p := 101) dX4_unrivalledIn_44 (sw_out13 z1 z2 z3) (by decide) rfl ?_
      refine e_iload_n (p := 102) dX4_unrivalledIn_101 rfl rfl ?_
      exact e_iretE dX4_unrivalledIn_102 rfl rfl (by decide) ⟨by simp [heartS, *], rfl⟩
  · skip
    refine e_iconst (v := 0) (p := 10) dX4_unrivalledIn_9 (by decide) rfl ?_
    exact e_iretE dX4_unrivalledIn_10 rfl rfl (by decide) ⟨by simp [heartS, *], rfl⟩
