/-! The class seeks routes: the chances; what is told of the best. -/
set_option maxRecDepth 10000 in
theorem x_chance_i {I : Nat → Nat → Int32} {F : Nat → Nat → Option Nat} {nc ns : Nat} {J0 : Nat → Nat → Int64} {o : Nat} {D : oD} {s : Nat → Int32} {n : Nat} (ho : isO o) (hF : RFok F) (hC : oC I o D) (hW : WF D) (hm : mo I 42 s) (hn : n ≤ 3) (h6 : I 65 6 = nI n) {k : Nat} (hk : k < n)  {Q : Option Value → hp_H → Prop} : ∀ (m j : Nat) (J : Nat → Nat → Int64), j + m = dN D 2 → (Fr 69 72 J0 J ∧ (∀ i, i < k → ∀ w, w < dN D 2 → J (69 + i) w = chS D s i w) ∧ ∀ w, w < j → J (69 + k) w = chS D s k w) → (∀ (J : Nat → Nat → Int64), (Fr 69 72 J0 J ∧ (∀ i, i < k → ∀ w, w < dN D 2 → J (69 + i) w = chS D s i w) ∧ ∀ w, w < (dN D 2) → J (69 + k) w = chS D s k w) → Ew 6 mX8_seek 103 [.ref 65, .ref o, .ref 42, .int (nI n), .int (nI k), .int (nI (dN D 2))] [] ((SH, nc, ns), I, J, F) Q) → Ew 6 mX8_seek 44 [.ref 65, .ref o, .ref 42, .int (nI n), .int (nI k), .int (nI j)] [] ((SH, nc, ns), I, J, F) Q
  | 0, j, J, hj, hJ, hq => by
    have hD := hW.c
    have hH := hW.h
    have hT := hW.t
    have bt := hT.2
    obtain ⟨b0, b1, b2, b3, b4, b5, b6⟩ := hD.2
    obtain rfl : j = dN D 2 := by omega
    refine we_iload (p := 46) dX8_seek_44 rfl rfl ?_
    refine we_aload_n (p := 47) dX8_seek_46 rfl rfl ?_
    refine we_getR (c := 4) (j := 2) (n := 18) (b := (o + 1)) (p := 50) dX8_seek_47 rfl (s_o ho) (l_o0 ho) (by decide) rfl (r_o2 hF ho) rfl ?_
    refine we_iconst (v := 2) (p := 51) dX8_seek_50 (by decide) rfl ?_
    refine wf_iald (n := 7) (i := 2) (v := nI (dN D 2)) (p := 52) dX8_seek_51 (s_o1 ho) (l_o ho 1 (by decide)) (by decide) (by decide) (cN hC hD (by decide)) rfl ?_
    refine we_icmp_ge (t := 103) (p := 55) dX8_seek_52 (by decide) rfl rfl (fun hc52 => ?_) (fun hc52 => absurd (nle (by omega) (by omega)) hc52)
    exact hq _  hJ
  | m + 1, j, J, hj, hJ, hq => by
    have hD := hW.c
    have hH := hW.h
    have hT := hW.t
    have bt := hT.2
    obtain ⟨b0, b1, b2, b3, b4, b5, b6⟩ := hD.2
    refine we_iload (p := 46) dX8_seek_44 rfl rfl ?_
    refine we_aload_n (p := 47) dX8_seek_46 rfl rfl ?_
    refine we_getR (c := 4) (j := 2) (n := 18) (b := (o + 1)) (p := 50) dX8_seek_47 rfl (s_o ho) (l_o0 ho) (by decide) rfl (r_o2 hF ho) rfl ?_
    refine we_iconst (v := 2) (p := 51) dX8_seek_50 (by decide) rfl ?_
    refine wf_iald (n := 7) (i := 2) (v := nI (dN D 2)) (p := 52) dX8_seek_51 (s_o1 ho) (l_o ho 1 (by decide)) (by decide) (by decide) (cN hC hD (by decide)) rfl ?_
    refine we_icmp_ge (t := 103) (p := 55) dX8_seek_52 (by decide) rfl rfl (fun hc52 => absurd hc52 (nge (by omega) (by omega))) (fun hc52 => ?_)
    refine we_aload_n (p := 56) dX8_seek_55 rfl rfl ?_
    refine we_getR (c := 8) (j := 4) (n := 7) (b := 68) (p := 59) dX8_seek_56 rfl rfl (by decide) (by decide) rfl (r_65_4 hF) rfl ?_
    refine we_iload (p := 61) dX8_seek_59 rfl rfl ?_
    refine wf_aald (c := 17) (n := 3) (b := (69 + k)) (i := k) (p := 62) dX8_seek_61 rfl (by decide) (in_nJ (by omega) (by decide)) (nI_cl (by omega)) (fm_68 hF (by omega)) rfl ?_
    refine we_iload (p := 64) dX8_seek_62 rfl rfl ?_
    refine we_aload_n (p := 65) dX8_seek_64 rfl rfl ?_
    refine we_iload (p := 67) dX8_seek_65 rfl rfl ?_
    refine we_callV_int (p := 70) (k' := 0) (a := [.ref 42, .int (nI j)]) (rr := [.int (nI j), .ref (69 + k)]) dX8_seek_67 rfl rfl rfl rfl (rc_of rfl rfl (by decide) ⟨rfl, by decide⟩) (Nat.le_of_ble_eq_true rfl) (Nat.le_of_ble_eq_true rfl) (by decide) (x_hasTried (t := 42) ⟨rfl, by decide⟩ hm) (Or.inl rfl) rfl ?_
    refine we_if_eq (t := 77) (p := 73) dX8_seek_70 (by decide) rfl rfl (fun hc70 => ?_) (fun hc70 => ?_)
    · skip
      refine we_aload_n (p := 78) dX8_seek_77 rfl rfl ?_
      refine we_aload_n (p := 79) dX8_seek_78 rfl rfl ?_
      refine we_iload (p := 81) dX8_seek_79 rfl rfl ?_
      refine we_aload_n (p := 82) dX8_seek_81 rfl rfl ?_
      refine wf_getI (c := 3) (j := 0) (n := 6) (v := s 0) (p := 85) dX8_seek_82 rfl rfl (by decide) (by decide) (Or.inl rfl) hm.1 rfl ?_
      refine we_iconst (v := 1) (p := 86) dX8_seek_85 (by decide) rfl ?_
      refine we_iadd (p := 87) dX8_seek_86 rfl ?_
      refine we_iload (p := 89) dX8_seek_87 rfl rfl ?_
      refine we_iadd (p := 90) dX8_seek_89 rfl ?_
      refine we_callV_int (p := 93) (k' := 3) (a := [.ref o, .int (nI j), .int (((s 0) + 1) + (nI k))]) (rr := [.ref o, .int (nI j), .ref (69 + k)]) dX8_seek_90 rfl rfl rfl rfl (rc_of rfl (s_o ho) (l_o0 ho) ⟨rfl, by decide⟩) (Nat.le_of_ble_eq_true rfl) (Nat.le_of_ble_eq_true rfl) (by decide) (x_loveAt ho hF hC hW.c hW.h (by omega)) (Or.inl rfl) rfl ?_
      refine we_callV_long (p := 96) (k' := 0) (a := [.ref o, .int (loveS D j ((((s 0) + 1) + (nI k)) * D 0 0))]) (rr := [.int (nI j), .ref (69 + k)]) dX8_seek_93 rfl rfl rfl rfl (rc_of rfl (s_o ho) (l_o0 ho) ⟨rfl, by decide⟩) (Nat.le_of_ble_eq_true rfl) (Nat.le_of_ble_eq_true rfl) (by decide) (x_overTrial ho hF hC hW.c hW.t) (Or.inl rfl) rfl ?_
      refine wf_last (n := 8) (i := j) (p := 97) dX8_seek_96 (sf_68 (by omega)) (by omega) (in_nJ (by omega) (by decide)) (nI_cl (by omega)) rfl ?_
      refine we_iinc (ls1 := [.ref 65, .ref o, .ref 42, .int (nI n), .int (nI k), .int ((nI j) + 1)]) (p := 100) dX8_seek_97 rfl rfl rfl ?_
      refine we_goto (p := 44) dX8_seek_100 (by decide) rfl ?_
      rw [nI_1]
      refine x_chance_i ho hF hC hW hm hn h6 hk m (j + 1) _  (by omega) ?_ hq
      refine ⟨hJ.1.u (by omega) (by omega), fun i hi w hw => ?_, fun w hw => ?_⟩
      · rw [hu_ne (by omega)]
        exact hJ.2.1 i hi w hw
      · rw [hu_if]
        by_cases c : w = j
        · rw [if_pos c, c]
          exact (if_pos hc70).symm
        · rw [if_neg c]
          exact hJ.2.2 w (by omega)
    · skip
      refine we_lconst (v := 0) (p := 74) dX8_seek_73 (by decide) rfl ?_
      refine we_goto (p := 96) dX8_seek_74 (by decide) rfl ?_
      refine wf_last (n := 8) (i := j) (p := 97) dX8_seek_96 (sf_68 (by omega)) (by omega) (in_nJ (by omega) (by decide)) (nI_cl (by omega)) rfl ?_
      refine we_iinc (ls1 := [.ref 65, .ref o, .ref 42, .int (nI n), .int (nI k), .int ((nI j) + 1)]) (p := 100) dX8_seek_97 rfl rfl rfl ?_
      refine we_goto (p := 44) dX8_seek_100 (by decide) rfl ?_
      rw [nI_1]
      refine x_chance_i ho hF hC hW hm hn h6 hk m (j + 1) _  (by omega) ?_ hq
      refine ⟨hJ.1.u (by omega) (by omega), fun i hi w hw => ?_, fun w hw => ?_⟩
      · rw [hu_ne (by omega)]
        exact hJ.2.1 i hi w hw
      · rw [hu_if]
        by_cases c : w = j
        · rw [if_pos c, c]
          exact (if_neg hc70).symm
        · rw [if_neg c]
          exact hJ.2.2 w (by omega)
set_option maxRecDepth 10000 in
theorem x_chance {I : Nat → Nat → Int32} {F : Nat → Nat → Option Nat} {nc ns : Nat} {J0 : Nat → Nat → Int64} {o : Nat} {D : oD} {s : Nat → Int32} {n : Nat} (ho : isO o) (hF : RFok F) (hC : oC I o D) (hW : WF D) (hm : mo I 42 s) (hn : n ≤ 3) (h6 : I 65 6 = nI n)  {Q : Option Value → hp_H → Prop} : ∀ (m j : Nat) (J : Nat → Nat → Int64) (z : Value), j + m = n → (Fr 69 72 J0 J ∧ ∀ i, i < j → ∀ w, w < dN D 2 → J (69 + i) w = chS D s i w) → (∀ (J : Nat → Nat → Int64) (z : Value), (Fr 69 72 J0 J ∧ ∀ i, i < n → ∀ w, w < dN D 2 → J (69 + i) w = chS D s i w) → Ew 6 mX8_seek 109 [.ref 65, .ref o, .ref 42, .int (nI n), .int (nI n), z] [] ((SH, nc, ns), I, J, F) Q) → Ew 6 mX8_seek 32 [.ref 65, .ref o, .ref 42, .int (nI n), .int (nI j), z] [] ((SH, nc, ns), I, J, F) Q
  | 0, j, J, z, hj, hJ, hq => by
    have hD := hW.c
    have hH := hW.h
    have hT := hW.t
    have bt := hT.2
    obtain ⟨b0, b1, b2, b3, b4, b5, b6⟩ := hD.2
    have hjn : j = n := by omega
    refine we_iload (p := 34) dX8_seek_32 rfl rfl ?_
    refine we_aload_n (p := 35) dX8_seek_34 rfl rfl ?_
    refine wf_getI (c := 8) (j := 6) (n := 7) (v := nI n) (p := 38) dX8_seek_35 rfl rfl (by decide) (by decide) (Or.inl rfl) h6 rfl ?_
    refine we_icmp_ge (t := 109) (p := 41) dX8_seek_38 (by decide) rfl rfl (fun hc38 => ?_) (fun hc38 => absurd (nI_le (a := n) (b := j) (by omega) (by omega)) hc38)
    subst hjn; exact hq _ _ hJ
  | m + 1, j, J, z, hj, hJ, hq => by
    have hD := hW.c
    have hH := hW.h
    have hT := hW.t
    have bt := hT.2
    obtain ⟨b0, b1, b2, b3, b4, b5, b6⟩ := hD.2
    refine we_iload (p := 34) dX8_seek_32 rfl rfl ?_
    refine we_aload_n (p := 35) dX8_seek_34 rfl rfl ?_
    refine wf_getI (c := 8) (j := 6) (n := 7) (v := nI n) (p := 38) dX8_seek_35 rfl rfl (by decide) (by decide) (Or.inl rfl) h6 rfl ?_
    refine we_icmp_ge (t := 109) (p := 41) dX8_seek_38 (by decide) rfl rfl (fun hc38 => absurd hc38 (nI_ge (a := j) (b := n) (by omega) (by omega))) (fun hc38 => ?_)
    refine we_iconst (v := 0) (p := 42) dX8_seek_41 (by decide) rfl ?_
    refine we_istore (ls1 := [.ref 65, .ref o, .ref 42, .int (nI n), .int (nI j), .int 0]) (p := 44) dX8_seek_42 rfl rfl ?_
    refine x_chance_i ho hF hC hW hm hn h6 (by omega) (dN D 2) 0 J (by omega) ⟨hJ.1, hJ.2, fun w hw => absurd hw (by omega)⟩ (fun J1 hJ1 => ?_)
    refine we_iinc (ls1 := [.ref 65, .ref o, .ref 42, .int (nI n), .int ((nI j) + 1), .int (nI (dN D 2))]) (p := 106) dX8_seek_103 rfl rfl rfl ?_
    refine we_goto (p := 32) dX8_seek_106 (by decide) rfl ?_
    rw [nI_1]
    refine x_chance ho hF hC hW hm hn h6 m (j + 1) _ _ (by omega) ?_ hq
    refine ⟨hJ1.1, fun i hi w hw => ?_⟩
    by_cases c : i = j
    · subst c
      exact hJ1.2.2 w hw
    · exact hJ1.2.1 i (by omega) w hw
set_option maxRecDepth 10000 in
theorem x_rseek {I : Nat → Nat → Int32} {J : Nat → Nat → Int64} {F : Nat → Nat → Option Nat} {nc ns : Nat} {o : Nat} {D : oD} {s : Nat → Int32} {n : Nat} (ho : isO o) (hF : RFok F) (hC : oC I o D) (hW : WF D) (hm : mo I 42 s) (hS : WFs D s) (ht1 : tol D = 1) (hn : n ≤ 3) {f : Nat → Int32} (hf : I 66 = f) : Ew 6 mX8_seek 0 [.ref 65, .ref o, .ref 42, .int (nI n), .null, .null] [] ((SH, nc, ns), I, J, F) (Ret nc ns none (fun I' J' F' => Fr 65 72 I I' ∧ Fr 65 72 J J' ∧ F' = F ∧ rI D s n I' J' (rout0 D s n 0 f))) := by
  have hD := hW.c
  have hH := hW.h
  have hT := hW.t
  have bt := hT.2
  obtain ⟨b0, b1, b2, b3, b4, b5, b6⟩ := hD.2
  have hat := hS.at_ (tol_h hW ht1)
  refine we_aload_n (p := 1) dX8_seek_0 rfl rfl ?_
  refine we_iload_n (p := 2) dX8_seek_1 rfl rfl ?_
  refine we_iconst (v := 3) (p := 3) dX8_seek_2 (by decide) rfl ?_
  refine we_min (p := 6) dX8_seek_3 rfl (Nat.le_of_ble_eq_true rfl) rfl ?_
  rw [if_neg (show ¬ (3 : Int32) < nI n from nI_nlt (a := 3) (b := n) hn (by omega))]
  refine we_putI (c := 8) (j := 6) (n := 7)  (p := 9) dX8_seek_6 rfl rfl (by decide) (by decide) rfl rfl rfl ?_
  refine we_aload_n (p := 10) dX8_seek_9 rfl rfl ?_
  refine we_aload_n (p := 11) dX8_seek_10 rfl rfl ?_
  refine we_bipush (v := 100) (p := 13) dX8_seek_11 (by decide) rfl ?_
  refine we_callV_long (p := 16) (k' := 0) (a := [.ref o, .int 100]) (rr := [.ref 65]) dX8_seek_13 rfl rfl rfl rfl (rc_of rfl (s_o ho) (l_o0 ho) ⟨rfl, by decide⟩) (Nat.le_of_ble_eq_true rfl) (Nat.le_of_ble_eq_true rfl) (by omega) (x_overTrial ho hF (oC_u hC ho (by decide)) hW.c hW.t) (Or.inl rfl) rfl ?_
  rw [show powS D ((100 : Int32)).toInt64 = powS D 100 from (pow_100 hW).trans (pow_100' hW).symm]
  refine we_putJ (c := 8) (j := 5) (n := 7)  (p := 19) dX8_seek_16 rfl rfl (by decide) (by decide) rfl rfl rfl ?_
  refine we_aload_n (p := 20) dX8_seek_19 rfl rfl ?_
  refine we_iconst (v := 0) (p := 21) dX8_seek_20 (by decide) rfl ?_
  refine we_putI (c := 8) (j := 1) (n := 7)  (p := 24) dX8_seek_21 rfl rfl (by decide) (by decide) rfl rfl rfl ?_
  refine we_aload_n (p := 25) dX8_seek_24 rfl rfl ?_
  refine we_lconst (v := 0) (p := 26) dX8_seek_25 (by decide) rfl ?_
  refine we_putJ (c := 8) (j := 2) (n := 7)  (p := 29) dX8_seek_26 rfl rfl (by decide) (by decide) rfl rfl rfl ?_
  refine we_iconst (v := 0) (p := 30) dX8_seek_29 (by decide) rfl ?_
  refine we_istore (ls1 := [.ref 65, .ref o, .ref 42, .int (nI n), .int 0, .null]) (p := 32) dX8_seek_30 rfl rfl ?_
  refine x_chance (I := (hp_u (hp_u I 65 6 (nI n)) 65 1 0)) (J0 := (hp_u (hp_u J 65 5 (powS D 100)) 65 2 0)) ho hF (oC_u (oC_u hC ho (by decide)) ho (by decide)) hW (mo_u (mo_u hm (by decide)) (by decide)) hn ((hu_nj (by decide)).trans hu_eq) n 0 _ _ (by omega) ⟨Fr.rf, fun i hi => absurd hi (by omega)⟩ (fun J1 z hJ1 => ?_)
  have hg1 : rI D s n (hp_u (hp_u I 65 6 (nI n)) 65 1 0) J1 (0, 0, f) := ⟨hu_eq, (congrFun (hJ1.1 65 (by omega)) 2).trans hu_eq, (hu_nj (by decide)).trans hu_eq, (congrFun (hJ1.1 65 (by omega)) 5).trans ((hu_nj (by decide)).trans hu_eq), fun i hi => (congrFun ((hu_ne (by decide)).trans ((hu_ne (by decide)).trans hf)) i), hJ1.2⟩
  have hfi : Fr 65 72 I (hp_u (hp_u I 65 6 (nI n)) 65 1 0) := (Fr.rf.u (by omega) (by omega)).u (by omega) (by omega)
  have hfj : Fr 65 72 J J1 := ((Fr.rf.u (by omega) (by omega)).u (by omega) (by omega)).tr (hJ1.1.wd (by omega) (by omega))
  refine we_aload_n (p := 110) dX8_seek_109 rfl rfl ?_
  refine we_aload_n (p := 111) dX8_seek_110 rfl rfl ?_
  refine we_iconst (v := 0) (p := 112) dX8_seek_111 (by decide) rfl ?_
  refine we_iconst (v := 0) (p := 113) dX8_seek_112 (by decide) rfl ?_
  refine we_aload_n (p := 114) dX8_seek_113 rfl rfl ?_
  refine wf_getI (c := 3) (j := 1) (n := 6) (v := s 1) (p := 117) dX8_seek_114 rfl rfl (by decide) (by decide) (Or.inl rfl) (mo_u (mo_u hm (by decide)) (by decide)).2.1 rfl ?_
  refine we_lconst (v := 1) (p := 118) dX8_seek_117 (by decide) rfl ?_
  obtain ⟨_, _, e2, rfl, I2, J2, F2, rfl, ⟨f2, k2, rfl, g2, r2⟩⟩ := x_rext ho hF hW (tol_t hW ht1) hn n 0 (s 1).toNatClampNeg 0 0 (s 1) 1 (fun _ => 0) (0, 0, f) (hp_u (hp_u I 65 6 (nI n)) 65 1 0) J1 rfl hat.1 hat.2.2 (by omega) (oC_u (oC_u hC ho (by decide)) ho (by decide)) hg1 (fun i hi => absurd hi (by omega))
  refine we_callV_v (p := 121) (k' := (n + 2)) (a := [.ref 65, .ref o, .int 0, .int 0, .int (s 1), .long 1]) (rr := []) dX8_seek_118 rfl rfl rfl rfl (rc_of rfl rfl (by decide) ⟨rfl, by decide⟩) (Nat.le_of_ble_eq_true rfl) (Nat.le_of_ble_eq_true rfl) (by omega) e2 (Or.inl rfl) rfl ?_
  exact wv_ret dX8_seek_121 rfl (⟨rfl, _, _, _, rfl, hfi.tr f2, hfj.tr k2, rfl, g2⟩)
set_option maxRecDepth 10000 in
theorem x_whole_L {I : Nat → Nat → Int32} {J : Nat → Nat → Int64} {F : Nat → Nat → Option Nat} {nc ns : Nat} {D : oD} {s : Nat → Int32} {n : Nat} {a : rA} (hF : RFok F) (hn : n ≤ 3) (hg : rI D s n I J a)  : ∀ (m j : Nat) (acc : Int64), j + m = n → Ev 0 mX8_wholeOfRow 4 [.ref 65, .long acc, .null, .int (nI j)] [] ((SH, nc, ns), I, J, F) (some (.long (gN (fun _ z => z * powS D 100) j m acc))) ((SH, nc, ns), I, J, F)
  | 0, j, acc, hj => by
    refine e_iload_n (p := 5) dX8_wholeOfRow_4 rfl rfl ?_
    refine e_aload_n (p := 6) dX8_wholeOfRow_5 rfl rfl ?_
    refine f_getI (c := 8) (j := 6) (n := 7) (v := nI n) (p := 9) dX8_wholeOfRow_6 rfl rfl (by decide) (by decide) (Or.inl rfl) hg.2.2.1 rfl ?_
    refine e_icmp_ge (t := 25) (p := 12) dX8_wholeOfRow_9 (by decide) rfl rfl (fun hc9 => ?_) (fun hc9 => absurd (nle (by omega) (by omega)) hc9)
    refine e_lload_n (p := 26) dX8_wholeOfRow_25 rfl rfl ?_
    exact e_lretE dX8_wholeOfRow_26 rfl ⟨rfl, rfl⟩
  | m + 1, j, acc, hj => by
    refine e_iload_n (p := 5) dX8_wholeOfRow_4 rfl rfl ?_
    refine e_aload_n (p := 6) dX8_wholeOfRow_5 rfl rfl ?_
    refine f_getI (c := 8) (j := 6) (n := 7) (v := nI n) (p := 9) dX8_wholeOfRow_6 rfl rfl (by decide) (by decide) (Or.inl rfl) hg.2.2.1 rfl ?_
    refine e_icmp_ge (t := 25) (p := 12) dX8_wholeOfRow_9 (by decide) rfl rfl (fun hc9 => absurd hc9 (nge (by omega) (by omega))) (fun hc9 => ?_)
    refine e_lload_n (p := 13) dX8_wholeOfRow_12 rfl rfl ?_
    refine e_aload_n (p := 14) dX8_wholeOfRow_13 rfl rfl ?_
    refine g_getJ (c := 8) (j := 5) (n := 7) (v := powS D 100) (p := 17) dX8_wholeOfRow_14 rfl rfl (by decide) (by decide) rfl hg.2.2.2.1 rfl ?_
    refine e_lmul (p := 18) dX8_wholeOfRow_17 rfl ?_
    refine e_lstore_n (ls1 := [.ref 65, .long (acc * (powS D 100)), .null, .int (nI j)]) (p := 19) dX8_wholeOfRow_18 rfl rfl ?_
    refine e_iinc (ls1 := [.ref 65, .long (acc * (powS D 100)), .null, .int ((nI j) + 1)]) (p := 22) dX8_wholeOfRow_19 rfl rfl rfl ?_
    refine e_goto (p := 4) dX8_wholeOfRow_22 (by decide) rfl ?_
    rw [nI_1]
    exact Ev.res (by simp only [gN_s, bit, Int32.or_zero, Int32.add_zero, ↓reduceIte]) (x_whole_L hF hn hg m (j + 1) (acc * (powS D 100))  (by omega))
def whoS (D : oD) (n : Nat) : Int64 := gN (fun _ z => z * powS D 100) 0 n 1
set_option maxRecDepth 10000 in
theorem x_whole {I : Nat → Nat → Int32} {J : Nat → Nat → Int64} {F : Nat → Nat → Option Nat} {nc ns : Nat} {D : oD} {s : Nat → Int32} {n : Nat} {a : rA} (hF : RFok F) (hn : n ≤ 3) (hg : rI D s n I J a)  : Ev 0 mX8_wholeOfRow 0 [.ref 65, .null, .null, .null] [] ((SH, nc, ns), I, J, F) (some (.long (whoS D n))) ((SH, nc, ns), I, J, F) := by
  refine e_lconst (v := 1) (p := 1) dX8_wholeOfRow_0 (by decide) rfl ?_
  refine e_lstore_n (ls1 := [.ref 65, .long 1, .null, .null]) (p := 2) dX8_wholeOfRow_1 rfl rfl ?_
  refine e_iconst (v := 0) (p := 3) dX8_wholeOfRow_2 (by decide) rfl ?_
  refine e_istore_n (ls1 := [.ref 65, .long 1, .null, .int 0]) (p := 4) dX8_wholeOfRow_3 rfl rfl ?_
  exact x_whole_L hF hn hg n 0 _ (by omega)
def anyS (D : oD) (n : Nat) (a : rA) : Int64 := if a.1 = 0 then 0 else whoS D n - a.2.1
set_option maxRecDepth 10000 in
theorem x_any {I : Nat → Nat → Int32} {J : Nat → Nat → Int64} {F : Nat → Nat → Option Nat} {nc ns : Nat} {D : oD} {s : Nat → Int32} {n : Nat} {a : rA} (hF : RFok F) (hn : n ≤ 3) (hg : rI D s n I J a)  : Ev 1 mX8_anyOfBest 0 [.ref 65] [] ((SH, nc, ns), I, J, F) (some (.long (anyS D n a))) ((SH, nc, ns), I, J, F) := by
  refine e_aload_n (p := 1) dX8_anyOfBest_0 rfl rfl ?_
  refine f_getI (c := 8) (j := 1) (n := 7) (v := a.1) (p := 4) dX8_anyOfBest_1 rfl rfl (by decide) (by decide) (Or.inl rfl) hg.1 rfl ?_
  refine e_if_ne (t := 11) (p := 7) dX8_anyOfBest_4 (by decide) rfl rfl (fun hc4 => ?_) (fun hc4 => ?_)
  · skip
    refine e_aload_n (p := 12) dX8_anyOfBest_11 rfl rfl ?_
    refine e_callV_long (p := 15) (k' := 0) (a := [.ref 65]) (rr := []) dX8_anyOfBest_12 rfl rfl rfl rfl (rc_of rfl rfl (by decide) ⟨rfl, by decide⟩) (Nat.le_of_ble_eq_true rfl) (Nat.le_of_ble_eq_true rfl) (by decide) (x_whole hF hn hg) (Or.inl rfl) rfl ?_
    refine e_aload_n (p := 16) dX8_anyOfBest_15 rfl rfl ?_
    refine g_getJ (c := 8) (j := 2) (n := 7) (v := a.2.1) (p := 19) dX8_anyOfBest_16 rfl rfl (by decide) (by decide) rfl hg.2.1 rfl ?_
    refine e_lsub (p := 20) dX8_anyOfBest_19 rfl ?_
    exact e_lretE dX8_anyOfBest_20 rfl ⟨by simp only [anyS, hc4, ↓reduceIte], rfl⟩
  · skip
    refine e_lconst (v := 0) (p := 8) dX8_anyOfBest_7 (by decide) rfl ?_
    refine e_goto (p := 20) dX8_anyOfBest_8 (by decide) rfl ?_
    exact e_lretE dX8_anyOfBest_20 rfl ⟨by simp only [anyS, hc4, ↓reduceIte], rfl⟩
def sumF (D : oD) (s : Nat → Int32) (b : Nat → Int32) (i : Nat) (z : Int64) : Int64 := z + chS D s i (b i).toNatClampNeg
set_option maxRecDepth 10000 in
theorem x_sum_L {I : Nat → Nat → Int32} {J : Nat → Nat → Int64} {F : Nat → Nat → Option Nat} {nc ns : Nat} {D : oD} {s : Nat → Int32} {n : Nat} {a : rA} (hF : RFok F) (hn : n ≤ 3) (hg : rI D s n I J a) (hW : WF D) (hb : ∀ i, i < n → ∃ w, w < dN D 2 ∧ a.2.2 i = nI w) (hf : ¬ a.1 ≤ 0)  : ∀ (m j : Nat) (acc : Int64), j + m = n → Ev 0 mX8_sumOfBest 4 [.ref 65, .long acc, .null, .int (nI j)] [] ((SH, nc, ns), I, J, F) (some (.long (gN (sumF D s a.2.2) j m acc))) ((SH, nc, ns), I, J, F)
  | 0, j, acc, hj => by
    have b2 := hW.c.2.2.2.1
    refine e_iload_n (p := 5) dX8_sumOfBest_4 rfl rfl ?_
    refine e_aload_n (p := 6) dX8_sumOfBest_5 rfl rfl ?_
    refine f_getI (c := 8) (j := 6) (n := 7) (v := nI n) (p := 9) dX8_sumOfBest_6 rfl rfl (by decide) (by decide) (Or.inl rfl) hg.2.2.1 rfl ?_
    refine e_icmp_ge (t := 41) (p := 12) dX8_sumOfBest_9 (by decide) rfl rfl (fun hc9 => ?_) (fun hc9 => absurd (nI_le (a := n) (b := j) (by omega) (by omega)) hc9)
    refine e_lload_n (p := 42) dX8_sumOfBest_41 rfl rfl ?_
    exact e_lretE dX8_sumOfBest_42 rfl ⟨rfl, rfl⟩
  | m + 1, j, acc, hj => by
    have b2 := hW.c.2.2.2.1
    refine e_iload_n (p := 5) dX8_sumOfBest_4 rfl rfl ?_
    refine e_aload_n (p := 6) dX8_sumOfBest_5 rfl rfl ?_
    refine f_getI (c := 8) (j := 6) (n := 7) (v := nI n) (p := 9) dX8_sumOfBest_6 rfl rfl (by decide) (by decide) (Or.inl rfl) hg.2.2.1 rfl ?_
    refine e_icmp_ge (t := 41) (p := 12) dX8_sumOfBest_9 (by decide) rfl rfl (fun hc9 => absurd hc9 (nI_ge (a := j) (b := n) (by omega) (by omega))) (fun hc9 => ?_)
    refine e_aload_n (p := 13) dX8_sumOfBest_12 rfl rfl ?_
    refine f_getI (c := 8) (j := 1) (n := 7) (v := a.1) (p := 16) dX8_sumOfBest_13 rfl rfl (by decide) (by decide) (Or.inl rfl) hg.1 rfl ?_
    refine e_if_le (t := 41) (p := 19) dX8_sumOfBest_16 (by decide) rfl rfl (fun hc16 => absurd hc16 hf) (fun hc16 => ?_)
    refine e_lload_n (p := 20) dX8_sumOfBest_19 rfl rfl ?_
    refine e_aload_n (p := 21) dX8_sumOfBest_20 rfl rfl ?_
    refine e_getR (c := 8) (j := 4) (n := 7) (b := 68) (p := 24) dX8_sumOfBest_21 rfl rfl (by decide) (by decide) rfl (r_65_4 hF) rfl ?_
    refine e_iload_n (p := 25) dX8_sumOfBest_24 rfl rfl ?_
    refine f_aald (c := 17) (n := 3) (b := (69 + j)) (i := j) (p := 26) dX8_sumOfBest_25 rfl (by decide) (in_nJ (by omega) (by decide)) (nI_cl (by omega)) (fm_68 hF (by omega)) rfl ?_
    refine e_aload_n (p := 27) dX8_sumOfBest_26 rfl rfl ?_
    refine e_getR (c := 8) (j := 0) (n := 7) (b := 66) (p := 30) dX8_sumOfBest_27 rfl rfl (by decide) (by decide) rfl (r_65_0 hF) rfl ?_
    refine e_iload_n (p := 31) dX8_sumOfBest_30 rfl rfl ?_
    refine f_iald (n := 3) (i := j) (v := a.2.2 j) (p := 32) dX8_sumOfBest_31 rfl (by decide) (in_nJ (by omega) (by decide)) (nI_cl (by omega)) (hg.2.2.2.2.1 j (by omega)) rfl ?_
    refine g_lald (n := 8) (i := (a.2.2 j).toNatClampNeg) (v := chS D s j (a.2.2 j).toNatClampNeg) (p := 33) dX8_sumOfBest_32 (sf_68 (by omega)) (by obtain ⟨w, h1, h2⟩ := hb j (by omega); exact in_ix h2 (by omega) (by decide)) rfl (hg.2.2.2.2.2 j (by omega) _ (by obtain ⟨w, h1, h2⟩ := hb j (by omega); rw [h2, nI_cl (by omega)]; exact h1)) rfl ?_
    refine e_ladd (p := 34) dX8_sumOfBest_33 rfl ?_
    refine e_lstore_n (ls1 := [.ref 65, .long (acc + (chS D s j (a.2.2 j).toNatClampNeg)), .null, .int (nI j)]) (p := 35) dX8_sumOfBest_34 rfl rfl ?_
    refine e_iinc (ls1 := [.ref 65, .long (acc + (chS D s j (a.2.2 j).toNatClampNeg)), .null, .int ((nI j) + 1)]) (p := 38) dX8_sumOfBest_35 rfl rfl rfl ?_
    refine e_goto (p := 4) dX8_sumOfBest_38 (by decide) rfl ?_
    rw [nI_1]
    exact Ev.res (by rw [gN_s, sumF]) (x_sum_L hF hn hg hW hb hf m (j + 1) _ (by omega))
set_option maxRecDepth 10000 in
theorem x_sum {I : Nat → Nat → Int32} {J : Nat → Nat → Int64} {F : Nat → Nat → Option Nat} {nc ns : Nat} {D : oD} {s : Nat → Int32} {n : Nat} {a : rA} (hF : RFok F) (hn : n ≤ 3) (hg : rI D s n I J a) (hW : WF D) (hb : ∀ i, i < n → ∃ w, w < dN D 2 ∧ a.2.2 i = nI w) (hf : ¬ a.1 ≤ 0)  : Ev 0 mX8_sumOfBest 0 [.ref 65, .null, .null, .null] [] ((SH, nc, ns), I, J, F) (some (.long (gN (sumF D s a.2.2) 0 n 0))) ((SH, nc, ns), I, J, F) := by
  refine e_lconst (v := 0) (p := 1) dX8_sumOfBest_0 (by decide) rfl ?_
  refine e_lstore_n (ls1 := [.ref 65, .long 0, .null, .null]) (p := 2) dX8_sumOfBest_1 rfl rfl ?_
  refine e_iconst (v := 0) (p := 3) dX8_sumOfBest_2 (by decide) rfl ?_
  refine e_istore_n (ls1 := [.ref 65, .long 0, .null, .int 0]) (p := 4) dX8_sumOfBest_3 rfl rfl ?_
  exact x_sum_L hF hn hg hW hb hf n 0 _ (by omega)
set_option maxRecDepth 10000 in
theorem x_sum0 {I : Nat → Nat → Int32} {J : Nat → Nat → Int64} {F : Nat → Nat → Option Nat} {nc ns : Nat} {D : oD} {s : Nat → Int32} {n : Nat} {a : rA} (hF : RFok F) (hn : n ≤ 3) (hg : rI D s n I J a) (h0 : 0 < n) (hf : a.1 ≤ 0)  : Ev 0 mX8_sumOfBest 0 [.ref 65, .null, .null, .null] [] ((SH, nc, ns), I, J, F) (some (.long 0)) ((SH, nc, ns), I, J, F) := by
  refine e_lconst (v := 0) (p := 1) dX8_sumOfBest_0 (by decide) rfl ?_
  refine e_lstore_n (ls1 := [.ref 65, .long 0, .null, .null]) (p := 2) dX8_sumOfBest_1 rfl rfl ?_
  refine e_iconst (v := 0) (p := 3) dX8_sumOfBest_2 (by decide) rfl ?_
  refine e_istore_n (ls1 := [.ref 65, .long 0, .null, .int 0]) (p := 4) dX8_sumOfBest_3 rfl rfl ?_
  refine e_iload_n (p := 5) dX8_sumOfBest_4 rfl rfl ?_
  refine e_aload_n (p := 6) dX8_sumOfBest_5 rfl rfl ?_
  refine f_getI (c := 8) (j := 6) (n := 7) (v := nI n) (p := 9) dX8_sumOfBest_6 rfl rfl (by decide) (by decide) (Or.inl rfl) hg.2.2.1 rfl ?_
  refine e_icmp_ge (t := 41) (p := 12) dX8_sumOfBest_9 (by decide) rfl rfl (fun hc9 => absurd hc9 (nI_ge (a := 0) (b := n) h0 (by omega))) (fun hc9 => ?_)
  refine e_aload_n (p := 13) dX8_sumOfBest_12 rfl rfl ?_
  refine f_getI (c := 8) (j := 1) (n := 7) (v := a.1) (p := 16) dX8_sumOfBest_13 rfl rfl (by decide) (by decide) (Or.inl rfl) hg.1 rfl ?_
  refine e_if_le (t := 41) (p := 19) dX8_sumOfBest_16 (by decide) rfl rfl (fun hc16 => ?_) (fun hc16 => absurd hf hc16)
  refine e_lload_n (p := 42) dX8_sumOfBest_41 rfl rfl ?_
  exact e_lretE dX8_sumOfBest_42 rfl ⟨rfl, rfl⟩
