/-! The crew: divide. -/
set_option maxRecDepth 10000 in
theorem x_divide_1 {J : Nat → Nat → Int64} {F : Nat → Nat → Option Nat} {nc ns : Nat} {I0 : Nat → Nat → Int32} {o : Nat} {D : oD} (ho : isO o) (hF : RFok F) (hC0 : oC I0 o D) (hW : WF D) {v : Nat} {y : Int32} (hv : v ≤ 999) (hy : inR y 0 270)  {Q : Option Value → hp_H → Prop} : ∀ (m j : Nat) (I : Nat → Nat → Int32), j + m = dN D 5 → (Fr 82 85 I0 I ∧ ∀ i, i < j → I 83 i = 0) → (∀ (I : Nat → Nat → Int32), (Fr 82 85 I0 I ∧ ∀ i, i < (dN D 5) → I 83 i = 0) → Ew 1 mX0_divide 47 [.ref 82, .ref o, .int (nI v), .int y, .int (nI (dN D 5)), .int (nI (sumN (svN D y) (dN D 5))), .int (nI (dN D 5)), .null, .null] [] ((SH, nc, ns), I, J, F) Q) → Ew 1 mX0_divide 14 [.ref 82, .ref o, .int (nI v), .int y, .int (nI (dN D 5)), .int (nI (sumN (svN D y) j)), .int (nI j), .null, .null] [] ((SH, nc, ns), I, J, F) Q
  | 0, j, I, hj, hI, hq => by
    have hD := hW.c
    have hH := hW.h
    have hT := hW.t
    have bt := hT.2
    obtain ⟨b0, b1, b2, b3, b4, b5, b6⟩ := hD.2
    have hC : oC I o D := oC_fr hC0 ho (fun k h1 h2 => hI.1 k (by omega))
    have hall := all_n hW hy
    obtain rfl : j = dN D 5 := by omega
    refine we_iload (p := 16) dX0_divide_14 rfl rfl ?_
    refine we_iload (p := 18) dX0_divide_16 rfl rfl ?_
    refine we_icmp_ge (t := 47) (p := 21) dX0_divide_18 (by decide) rfl rfl (fun hc18 => ?_) (fun hc18 => absurd (nle (by omega) (by omega)) hc18)
    exact hq _  hI
  | m + 1, j, I, hj, hI, hq => by
    have hD := hW.c
    have hH := hW.h
    have hT := hW.t
    have bt := hT.2
    obtain ⟨b0, b1, b2, b3, b4, b5, b6⟩ := hD.2
    have hC : oC I o D := oC_fr hC0 ho (fun k h1 h2 => hI.1 k (by omega))
    have hall := all_n hW hy
    refine we_iload (p := 16) dX0_divide_14 rfl rfl ?_
    refine we_iload (p := 18) dX0_divide_16 rfl rfl ?_
    refine we_icmp_ge (t := 47) (p := 21) dX0_divide_18 (by decide) rfl rfl (fun hc18 => absurd hc18 (nge (by omega) (by omega))) (fun hc18 => ?_)
    refine we_iload (p := 23) dX0_divide_21 rfl rfl ?_
    refine we_aload_n (p := 24) dX0_divide_23 rfl rfl ?_
    refine we_iload (p := 26) dX0_divide_24 rfl rfl ?_
    refine we_iload_n (p := 27) dX0_divide_26 rfl rfl ?_
    refine we_callV_int (p := 30) (k' := 0) (a := [.ref o, .int (nI j), .int y]) (rr := [.int (nI (sumN (svN D y) j))]) dX0_divide_27 rfl rfl rfl rfl (rc_of rfl (s_o ho) (l_o0 ho) ⟨rfl, by decide⟩) (Nat.le_of_ble_eq_true rfl) (Nat.le_of_ble_eq_true rfl) (by decide) (x_servedIn ho hF hC hW.c (by omega)) (Or.inl rfl) rfl ?_
    refine we_iadd (p := 31) dX0_divide_30 rfl ?_
    refine we_istore (ls1 := [.ref 82, .ref o, .int (nI v), .int y, .int (nI (dN D 5)), .int ((nI (sumN (svN D y) j)) + (servedS D j y)), .int (nI j), .null, .null]) (p := 33) dX0_divide_31 rfl rfl ?_
    refine we_aload_n (p := 34) dX0_divide_33 rfl rfl ?_
    refine we_getR (c := 0) (j := 0) (n := 2) (b := 83) (p := 37) dX0_divide_34 rfl rfl (by decide) (by decide) rfl (r_82_0 hF) rfl ?_
    refine we_iload (p := 39) dX0_divide_37 rfl rfl ?_
    refine we_iconst (v := 0) (p := 40) dX0_divide_39 (by decide) rfl ?_
    refine wf_iast (n := 5) (i := j) (p := 41) dX0_divide_40 rfl (by decide) (in_nJ (by omega) (by decide)) (nI_cl (by omega)) rfl ?_
    refine we_iinc (ls1 := [.ref 82, .ref o, .int (nI v), .int y, .int (nI (dN D 5)), .int ((nI (sumN (svN D y) j)) + (servedS D j y)), .int ((nI j) + 1), .null, .null]) (p := 44) dX0_divide_41 rfl rfl rfl ?_
    refine we_goto (p := 14) dX0_divide_44 (by decide) rfl ?_
    rw [show ((nI (sumN (svN D y) j)) + (servedS D j y) : Int32) = nI (sumN (svN D y) (j + 1)) from (by rw [(sv_n hW hy (by omega)).1, nI_add]; rfl)]
    rw [nI_1]
    exact x_divide_1 ho hF hC0 hW hv hy m (j + 1) _  (by omega) (⟨hI.1.u (by decide) (by decide), fun i hi => by rw [hu_if]; split; rfl; exact hI.2 i (by omega)⟩) hq
set_option maxRecDepth 10000 in
theorem x_divide_2 {J : Nat → Nat → Int64} {F : Nat → Nat → Option Nat} {nc ns : Nat} {I0 : Nat → Nat → Int32} {o : Nat} {D : oD} (ho : isO o) (hF : RFok F) (hC0 : oC I0 o D) (hW : WF D) {v : Nat} {y : Int32} (hv : v ≤ 999) (hy : inR y 0 270) (h0 : 0 < allN D y)  {Q : Option Value → hp_H → Prop} : ∀ (m j : Nat) (I : Nat → Nat → Int32) (z : Value), j + m = dN D 5 → (Fr 82 85 I0 I ∧ (∀ i, i < j → I 83 i = nI (qN D v y i)) ∧ ∀ i, i < j → I 84 i = nI (rN D v y i)) → (∀ (I : Nat → Nat → Int32) (z : Value), (Fr 82 85 I0 I ∧ (∀ i, i < (dN D 5) → I 83 i = nI (qN D v y i)) ∧ ∀ i, i < (dN D 5) → I 84 i = nI (rN D v y i)) → Ew 1 mX0_divide 119 [.ref 82, .ref o, .int (nI v), .int y, .int (nI (dN D 5)), .int (nI (allN D y)), .int (nI (v - sumN (qN D v y) (dN D 5))), .int (nI (dN D 5)), z] [] ((SH, nc, ns), I, J, F) Q) → Ew 1 mX0_divide 59 [.ref 82, .ref o, .int (nI v), .int y, .int (nI (dN D 5)), .int (nI (allN D y)), .int (nI (v - sumN (qN D v y) j)), .int (nI j), z] [] ((SH, nc, ns), I, J, F) Q
  | 0, j, I, z, hj, hI, hq => by
    have hD := hW.c
    have hH := hW.h
    have hT := hW.t
    have bt := hT.2
    obtain ⟨b0, b1, b2, b3, b4, b5, b6⟩ := hD.2
    have hC : oC I o D := oC_fr hC0 ho (fun k h1 h2 => hI.1 k (by omega))
    have hall := all_n hW hy
    have ha0 : allN D y ≤ 12150 := hall _ (Nat.le_refl _)
    obtain rfl : j = dN D 5 := by omega
    refine we_iload (p := 61) dX0_divide_59 rfl rfl ?_
    refine we_iload (p := 63) dX0_divide_61 rfl rfl ?_
    refine we_icmp_ge (t := 119) (p := 66) dX0_divide_63 (by decide) rfl rfl (fun hc63 => ?_) (fun hc63 => absurd (nle (by omega) (by omega)) hc63)
    exact hq _ _ hI
  | m + 1, j, I, z, hj, hI, hq => by
    have hD := hW.c
    have hH := hW.h
    have hT := hW.t
    have bt := hT.2
    obtain ⟨b0, b1, b2, b3, b4, b5, b6⟩ := hD.2
    have hC : oC I o D := oC_fr hC0 ho (fun k h1 h2 => hI.1 k (by omega))
    have hall := all_n hW hy
    have ha0 : allN D y ≤ 12150 := hall _ (Nat.le_refl _)
    have hs := sv_n hW hy (show j < dN D 5 by omega)
    have hm : v * svN D y j ≤ 999 * 2430 := Nat.mul_le_mul hv hs.2
    have gq : nI v * servedS D j y / nI (allN D y) = nI (qN D v y j) := by
      rw [hs.1, pk_mul, pk_div (by omega) h0 (by omega)]
      rfl
    have gr : nI v * servedS D j y - nI v * servedS D j y / nI (allN D y) * nI (allN D y) = nI (rN D v y j) := by
      rw [hs.1, pk_mul, pk_rem (by omega) h0 (by omega)]
      rfl
    have gs := q_le (v := v) h0 (j + 1) (by omega)
    refine we_iload (p := 61) dX0_divide_59 rfl rfl ?_
    refine we_iload (p := 63) dX0_divide_61 rfl rfl ?_
    refine we_icmp_ge (t := 119) (p := 66) dX0_divide_63 (by decide) rfl rfl (fun hc63 => absurd hc63 (nge (by omega) (by omega))) (fun hc63 => ?_)
    refine we_iload_n (p := 67) dX0_divide_66 rfl rfl ?_
    refine we_aload_n (p := 68) dX0_divide_67 rfl rfl ?_
    refine we_iload (p := 70) dX0_divide_68 rfl rfl ?_
    refine we_iload_n (p := 71) dX0_divide_70 rfl rfl ?_
    refine we_callV_int (p := 74) (k' := 0) (a := [.ref o, .int (nI j), .int y]) (rr := [.int (nI v)]) dX0_divide_71 rfl rfl rfl rfl (rc_of rfl (s_o ho) (l_o0 ho) ⟨rfl, by decide⟩) (Nat.le_of_ble_eq_true rfl) (Nat.le_of_ble_eq_true rfl) (by decide) (x_servedIn ho hF hC hW.c (by omega)) (Or.inl rfl) rfl ?_
    refine we_imul (p := 75) dX0_divide_74 rfl ?_
    refine we_istore (ls1 := [.ref 82, .ref o, .int (nI v), .int y, .int (nI (dN D 5)), .int (nI (allN D y)), .int (nI (v - sumN (qN D v y) j)), .int (nI j), .int ((nI v) * (servedS D j y))]) (p := 77) dX0_divide_75 rfl rfl ?_
    refine we_aload_n (p := 78) dX0_divide_77 rfl rfl ?_
    refine we_getR (c := 0) (j := 0) (n := 2) (b := 83) (p := 81) dX0_divide_78 rfl rfl (by decide) (by decide) rfl (r_82_0 hF) rfl ?_
    refine we_iload (p := 83) dX0_divide_81 rfl rfl ?_
    refine we_iload (p := 85) dX0_divide_83 rfl rfl ?_
    refine we_iload (p := 87) dX0_divide_85 rfl rfl ?_
    refine we_idiv (p := 88) dX0_divide_87 (nI_ne0 h0 (by omega)) rfl ?_
    refine wf_iast (n := 5) (i := j) (p := 89) dX0_divide_88 rfl (by decide) (in_nJ (by omega) (by decide)) (nI_cl (by omega)) rfl ?_
    refine we_aload_n (p := 90) dX0_divide_89 rfl rfl ?_
    refine we_getR (c := 0) (j := 1) (n := 2) (b := 84) (p := 93) dX0_divide_90 rfl rfl (by decide) (by decide) rfl (r_82_1 hF) rfl ?_
    refine we_iload (p := 95) dX0_divide_93 rfl rfl ?_
    refine we_iload (p := 97) dX0_divide_95 rfl rfl ?_
    refine we_iload (p := 99) dX0_divide_97 rfl rfl ?_
    refine we_irem (p := 100) dX0_divide_99 (nI_ne0 h0 (by omega)) rfl ?_
    refine wf_iast (n := 5) (i := j) (p := 101) dX0_divide_100 rfl (by decide) (in_nJ (by omega) (by decide)) (nI_cl (by omega)) rfl ?_
    refine we_iload (p := 103) dX0_divide_101 rfl rfl ?_
    refine we_aload_n (p := 104) dX0_divide_103 rfl rfl ?_
    refine we_getR (c := 0) (j := 0) (n := 2) (b := 83) (p := 107) dX0_divide_104 rfl rfl (by decide) (by decide) rfl (r_82_0 hF) rfl ?_
    refine we_iload (p := 109) dX0_divide_107 rfl rfl ?_
    refine wf_iald (n := 5) (i := j) (v := nI (qN D v y j)) (p := 110) dX0_divide_109 rfl (by decide) (in_nJ (by omega) (by decide)) (nI_cl (by omega)) (by rw [hu_ne (by decide), hu_eq]; exact gq) rfl ?_
    refine we_isub (p := 111) dX0_divide_110 rfl ?_
    refine we_istore (ls1 := [.ref 82, .ref o, .int (nI v), .int y, .int (nI (dN D 5)), .int (nI (allN D y)), .int ((nI (v - sumN (qN D v y) j)) - (nI (qN D v y j))), .int (nI j), .int ((nI v) * (servedS D j y))]) (p := 113) dX0_divide_111 rfl rfl ?_
    refine we_iinc (ls1 := [.ref 82, .ref o, .int (nI v), .int y, .int (nI (dN D 5)), .int (nI (allN D y)), .int ((nI (v - sumN (qN D v y) j)) - (nI (qN D v y j))), .int ((nI j) + 1), .int ((nI v) * (servedS D j y))]) (p := 116) dX0_divide_113 rfl rfl rfl ?_
    refine we_goto (p := 59) dX0_divide_116 (by decide) rfl ?_
    rw [show ((nI (v - sumN (qN D v y) j)) - (nI (qN D v y j)) : Int32) = nI (v - sumN (qN D v y) (j + 1)) from (by rw [pk_sub (by rw [sumN] at gs; omega), sumN, Nat.sub_sub])]
    rw [nI_1]
    refine x_divide_2 ho hF hC0 hW hv hy h0 m (j + 1) _ _ (by omega) ?_ hq
    refine ⟨(hI.1.u (by decide) (by decide)).u (by decide) (by decide), fun i hi => ?_, fun i hi => ?_⟩
    · rw [hu_ne (by decide), hu_if]
      by_cases c : i = j
      · rw [if_pos c, c]
        exact gq
      · rw [if_neg c]
        exact hI.2.1 i (by omega)
    · rw [hu_if]
      by_cases c : i = j
      · rw [if_pos c, c]
        exact gr
      · rw [if_neg c, hu_ne (by decide)]
        exact hI.2.2 i (by omega)
set_option maxRecDepth 10000 in
theorem x_divide {J : Nat → Nat → Int64} {F : Nat → Nat → Option Nat} {nc ns : Nat} {I0 : Nat → Nat → Int32} {o : Nat} {D : oD} (ho : isO o) (hF : RFok F) (hC0 : oC I0 o D) (hW : WF D) {v : Nat} {y : Int32} (hv : v ≤ 999) (hy : inR y 0 270) : Ew 1 mX0_divide 0 [.ref 82, .ref o, .int (nI v), .int y, .null, .null, .null, .null, .null] [] ((SH, nc, ns), I0, J, F) (Ret nc ns none (fun I' J' F' => Fr 82 85 I0 I' ∧ J' = J ∧ F' = F ∧ ∀ i, i < dN D 5 → I' 83 i = partS D v y i)) := by
  have hD := hW.c
  have hH := hW.h
  have hT := hW.t
  have bt := hT.2
  obtain ⟨b0, b1, b2, b3, b4, b5, b6⟩ := hD.2
  have hall := all_n hW hy
  by_cases h0 : allN D y = 0
  · skip
    refine we_aload_n (p := 1) dX0_divide_0 rfl rfl ?_
    refine we_getR (c := 4) (j := 2) (n := 18) (b := (o + 1)) (p := 4) dX0_divide_1 rfl (s_o ho) (l_o0 ho) (by decide) rfl (r_o2 hF ho) rfl ?_
    refine we_iconst (v := 5) (p := 5) dX0_divide_4 (by decide) rfl ?_
    refine wf_iald (n := 7) (i := 5) (v := nI (dN D 5)) (p := 6) dX0_divide_5 (s_o1 ho) (l_o ho 1 (by decide)) (by decide) (by decide) (cN hC0 hD (by decide)) rfl ?_
    refine we_istore (ls1 := [.ref 82, .ref o, .int (nI v), .int y, .int (nI (dN D 5)), .null, .null, .null, .null]) (p := 8) dX0_divide_6 rfl rfl ?_
    refine we_iconst (v := 0) (p := 9) dX0_divide_8 (by decide) rfl ?_
    refine we_istore (ls1 := [.ref 82, .ref o, .int (nI v), .int y, .int (nI (dN D 5)), .int 0, .null, .null, .null]) (p := 11) dX0_divide_9 rfl rfl ?_
    refine we_iconst (v := 0) (p := 12) dX0_divide_11 (by decide) rfl ?_
    refine we_istore (ls1 := [.ref 82, .ref o, .int (nI v), .int y, .int (nI (dN D 5)), .int 0, .int 0, .null, .null]) (p := 14) dX0_divide_12 rfl rfl ?_
    refine x_divide_1 ho hF hC0 hW hv hy (dN D 5) 0 I0 (by omega) ⟨Fr.rf, fun i hi => absurd hi (by omega)⟩ (fun I1 hI1 => ?_)
    refine we_iload (p := 49) dX0_divide_47 rfl rfl ?_
    refine we_if_gt (t := 53) (p := 52) dX0_divide_49 (by decide) rfl rfl (fun hc49 => absurd hc49 (by rw [show sumN (svN D y) (dN D 5) = 0 from h0]; decide)) (fun hc49 => ?_)
    exact wv_ret dX0_divide_52 rfl (⟨rfl, _, _, _, rfl, hI1.1, rfl, rfl, fun i hi => (hI1.2 i hi).trans (if_pos h0).symm⟩)
  · skip
    replace h0 : 0 < allN D y := by omega
    refine we_aload_n (p := 1) dX0_divide_0 rfl rfl ?_
    refine we_getR (c := 4) (j := 2) (n := 18) (b := (o + 1)) (p := 4) dX0_divide_1 rfl (s_o ho) (l_o0 ho) (by decide) rfl (r_o2 hF ho) rfl ?_
    refine we_iconst (v := 5) (p := 5) dX0_divide_4 (by decide) rfl ?_
    refine wf_iald (n := 7) (i := 5) (v := nI (dN D 5)) (p := 6) dX0_divide_5 (s_o1 ho) (l_o ho 1 (by decide)) (by decide) (by decide) (cN hC0 hD (by decide)) rfl ?_
    refine we_istore (ls1 := [.ref 82, .ref o, .int (nI v), .int y, .int (nI (dN D 5)), .null, .null, .null, .null]) (p := 8) dX0_divide_6 rfl rfl ?_
    refine we_iconst (v := 0) (p := 9) dX0_divide_8 (by decide) rfl ?_
    refine we_istore (ls1 := [.ref 82, .ref o, .int (nI v), .int y, .int (nI (dN D 5)), .int 0, .null, .null, .null]) (p := 11) dX0_divide_9 rfl rfl ?_
    refine we_iconst (v := 0) (p := 12) dX0_divide_11 (by decide) rfl ?_
    refine we_istore (ls1 := [.ref 82, .ref o, .int (nI v), .int y, .int (nI (dN D 5)), .int 0, .int 0, .null, .null]) (p := 14) dX0_divide_12 rfl rfl ?_
    refine x_divide_1 ho hF hC0 hW hv hy (dN D 5) 0 I0 (by omega) ⟨Fr.rf, fun i hi => absurd hi (by omega)⟩ (fun I1 hI1 => ?_)
    refine we_iload (p := 49) dX0_divide_47 rfl rfl ?_
    refine we_if_gt (t := 53) (p := 52) dX0_divide_49 (by decide) rfl rfl (fun hc49 => ?_) (fun hc49 => absurd (nI_lt (a := 0) (b := sumN (svN D y) (dN D 5)) h0 (by have := hall _ (Nat.le_refl _); omega)) hc49)
    refine we_iload_n (p := 54) dX0_divide_53 rfl rfl ?_
    refine we_istore (ls1 := [.ref 82, .ref o, .int (nI v), .int y, .int (nI (dN D 5)), .int (nI (sumN (svN D y) (dN D 5))), .int (nI v), .null, .null]) (p := 56) dX0_divide_54 rfl rfl ?_
    refine we_iconst (v := 0) (p := 57) dX0_divide_56 (by decide) rfl ?_
    refine we_istore (ls1 := [.ref 82, .ref o, .int (nI v), .int y, .int (nI (dN D 5)), .int (nI (sumN (svN D y) (dN D 5))), .int (nI v), .int 0, .null]) (p := 59) dX0_divide_57 rfl rfl ?_
    refine x_divide_2 ho hF hC0 hW hv hy h0 (dN D 5) 0 I1 _ (by omega) ⟨hI1.1, fun i hi => absurd hi (by omega), fun i hi => absurd hi (by omega)⟩ (fun I2 z hI2 => ?_)
    refine we_aload_n (p := 120) dX0_divide_119 rfl rfl ?_
    refine we_iload (p := 122) dX0_divide_120 rfl rfl ?_
    refine we_iload (p := 124) dX0_divide_122 rfl rfl ?_
    obtain ⟨_, _, e1, rfl, I1, J1, F1, rfl, ⟨f1, rfl, rfl, p1⟩⟩ := x_handOut (n := dN D 5) (L := leftN D v y) (f := fun i => nI (rN D v y i)) (q := fun i => nI (qN D v y i)) (g := 0) hF b5 (left_lt h0) hI2.2.1 (fun i hi => (hI2.2.2 i hi).trans (by unfold rho; rw [tb_z]; rfl))
    refine we_callV_v (p := 127) (k' := 0) (a := [.ref 82, .int (nI (v - sumN (qN D v y) (dN D 5))), .int (nI (dN D 5))]) (rr := []) dX0_divide_124 rfl rfl rfl rfl (rc_of rfl rfl (by decide) ⟨rfl, by decide⟩) (Nat.le_of_ble_eq_true rfl) (Nat.le_of_ble_eq_true rfl) (by decide) e1 (Or.inl rfl) rfl ?_
    exact wv_ret dX0_divide_127 rfl (⟨rfl, _, _, _, rfl, hI2.1.tr f1, rfl, rfl, fun i hi => (p1 i hi).trans (if_neg (Nat.ne_of_gt h0)).symm⟩)
