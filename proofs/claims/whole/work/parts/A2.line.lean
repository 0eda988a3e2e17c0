/-! The class reads seas and women; a line of any sort. -/
theorem fn_v {T : Nat → Nat} {n so : Nat} {S : pZ} (hN : nOK T S) (hz : zF (pFn T n so S) = 0) : zV (pFn T n so S) < 8 ∧ (so = 0 → zV (pFn T n so S) < 6) := by
  unfold pFn at hz ⊢
  split at hz
  · rename_i h
    rw [if_pos h]
    split at hz
    · rename_i i e
      split at hz
      · rename_i q
        simp only [e, q, ↓reduceIte]
        have hi : i < zC S := by
          have := (fnd_lt _ _ _ e).2.1
          omega
        have := hN.2 i hi
        exact ⟨this.1, fun z => this.2.1 (q.trans z)⟩
      · exact absurd hz (by show ¬ (2 : Nat) = 0; decide)
    · exact absurd hz (by show ¬ (2 : Nat) = 0; decide)
  · exact absurd hz (by show ¬ (1 : Nat) = 0; decide)
set_option maxRecDepth 10000 in
theorem x_readSea {I : Nat → Nat → Int32} {J : Nat → Nat → Int64} {F : Nat → Nat → Option Nat} {nc ns : Nat} {T : Nat → Nat} {n o : Nat} {S : pZ} (ho : isO o) (hF : RFok F) (hdF : F 3 0 = some o) (ht : txC T n I J) (hc : cS T n o S I J) (hz : zF S = 0) : Ew 3 mX7_readSea 0 [.ref 3, .null, .null] [] ((SH, nc, ns), I, J, F) (RdP nc ns T n o I J F (pSea T n S)) := by
  refine we_aload_n (p := 1) dX7_readSea_0 rfl rfl ?_
  refine we_iconst (v := 0) (p := 2) dX7_readSea_1 (by decide) rfl ?_
  obtain ⟨_, _, e1, I1, J1, rfl, f1, ⟨z1, rfl, c1⟩ | ⟨z1, rfl, g1, s1⟩⟩ := x_findName (so := 0) ho hF hdF ht hc hz (by decide)
  · skip
    refine we_callV_int (p := 5) (k' := 1) (a := [.ref 3, .int 0]) (rr := []) dX7_readSea_2 rfl rfl rfl rfl (rc_of rfl rfl (by decide) ⟨rfl, by decide⟩) (Nat.le_of_ble_eq_true rfl) (Nat.le_of_ble_eq_true rfl) (by decide) e1 (Or.inl rfl) rfl ?_
    refine we_if_ne (t := 10) (p := 8) dX7_readSea_5 (by decide) rfl rfl (fun hc5 => ?_) (fun hc5 => absurd hc5 (by decide))
    have v1 := (fn_v hc.2.2.2.1 z1).2 rfl
    refine we_aload_n (p := 11) dX7_readSea_10 rfl rfl ?_
    refine wf_getI (c := 7) (j := 15) (n := 16) (v := nI (zV (pFn T n 0 S))) (p := 14) dX7_readSea_11 rfl rfl (by decide) (by decide) (Or.inl rfl) c1.2.2.2.2.2.1 rfl ?_
    refine we_istore_n (ls1 := [.ref 3, .int (nI (zV (pFn T n 0 S))), .null]) (p := 15) dX7_readSea_14 rfl rfl ?_
    refine we_aload_n (p := 16) dX7_readSea_15 rfl rfl ?_
    obtain ⟨_, _, e2, rfl, I2, J2, F2, rfl, ⟨rfl, a2, r2⟩⟩ := x_advance (I := I1) hF (ht.rd ho f1) (tE_le c1.2.1).1 c1.1.1
    refine we_callV_v (p := 19) (k' := 2) (a := [.ref 3]) (rr := []) dX7_readSea_16 rfl rfl rfl rfl (rc_of rfl rfl (by decide) ⟨rfl, by decide⟩) (Nat.le_of_ble_eq_true rfl) (Nat.le_of_ble_eq_true rfl) (by decide) e2 (Or.inl rfl) rfl ?_
    refine we_aload_n (p := 20) dX7_readSea_19 rfl rfl ?_
    refine we_iconst (v := 0) (p := 21) dX7_readSea_20 (by decide) rfl ?_
    obtain ⟨_, _, e3, I3, J3, rfl, f3, ⟨z3, rfl, c3⟩ | ⟨z3, rfl, g3, s3⟩⟩ := x_findName (so := 0) ho hF hdF ((ht.rd ho f1).av a2) (c1.av ho a2 r2) z1 (by decide)
    · skip
      refine we_callV_int (p := 24) (k' := 1) (a := [.ref 3, .int 0]) (rr := []) dX7_readSea_21 rfl rfl rfl rfl (rc_of rfl rfl (by decide) ⟨rfl, by decide⟩) (Nat.le_of_ble_eq_true rfl) (Nat.le_of_ble_eq_true rfl) (by decide) e3 (Or.inl rfl) rfl ?_
      refine we_if_ne (t := 29) (p := 27) dX7_readSea_24 (by decide) rfl rfl (fun hc24 => ?_) (fun hc24 => absurd hc24 (by decide))
      have v2 := (fn_v (c1.av ho a2 r2).2.2.2.1 z3).2 rfl
      refine we_aload_n (p := 30) dX7_readSea_29 rfl rfl ?_
      refine wf_getI (c := 7) (j := 15) (n := 16) (v := nI (zV (pFn T n 0 (pAv T n (pFn T n 0 S))))) (p := 33) dX7_readSea_30 rfl rfl (by decide) (by decide) (Or.inl rfl) c3.2.2.2.2.2.1 rfl ?_
      refine we_istore_n (ls1 := [.ref 3, .int (nI (zV (pFn T n 0 S))), .int (nI (zV (pFn T n 0 (pAv T n (pFn T n 0 S)))))]) (p := 34) dX7_readSea_33 rfl rfl ?_
      refine we_aload_n (p := 35) dX7_readSea_34 rfl rfl ?_
      refine we_getR (c := 7) (j := 0) (n := 16) (b := o) (p := 38) dX7_readSea_35 rfl rfl (by decide) (by decide) rfl hdF rfl ?_
      refine we_iload_n (p := 39) dX7_readSea_38 rfl rfl ?_
      refine we_iload_n (p := 40) dX7_readSea_39 rfl rfl ?_
      refine we_callV_int (p := 43) (k' := 1) (a := [.ref o, .int (nI (zV (pFn T n 0 S))), .int (nI (zV (pFn T n 0 (pAv T n (pFn T n 0 S)))))]) (rr := []) dX7_readSea_40 rfl rfl rfl rfl (rc_of rfl (s_o ho) (l_o0 ho) ⟨rfl, by decide⟩) (Nat.le_of_ble_eq_true rfl) (Nat.le_of_ble_eq_true rfl) (by decide) (x_canE (a := zV (pFn T n 0 S)) ho hF c3.2.2.2.2.2.2 v1) (Or.inl rfl) rfl ?_
      refine we_if_eq (t := 52) (p := 46) dX7_readSea_43 (by decide) rfl rfl (fun hc43 => ?_) (fun hc43 => ?_)
      · skip
        refine we_aload_n (p := 53) dX7_readSea_52 rfl rfl ?_
        refine we_getR (c := 7) (j := 0) (n := 16) (b := o) (p := 56) dX7_readSea_53 rfl rfl (by decide) (by decide) rfl hdF rfl ?_
        refine we_getR (c := 4) (j := 5) (n := 18) (b := (o + 4)) (p := 59) dX7_readSea_56 rfl (s_o ho) (l_o0 ho) (by decide) rfl (r_o5 hF ho) rfl ?_
        refine we_iload_n (p := 60) dX7_readSea_59 rfl rfl ?_
        refine we_dup2 (p := 61) dX7_readSea_60 rfl ?_
        refine wf_iald (n := 6) (i := (zV (pFn T n 0 S))) (v := zD (pFn T n 0 (pAv T n (pFn T n 0 S))) 5 (zV (pFn T n 0 S))) (p := 62) dX7_readSea_61 (s_o4 ho) (l_o ho 4 (by decide)) (in_nJ (by omega) (by decide)) (nI_cl (by omega)) (congrFun (c3.2.2.2.2.2.2.2.2 5 (by decide) (by decide)) (zV (pFn T n 0 S))) rfl ?_
        refine we_iconst (v := 1) (p := 63) dX7_readSea_62 (by decide) rfl ?_
        refine we_iload_n (p := 64) dX7_readSea_63 rfl rfl ?_
        refine we_ishl (p := 65) dX7_readSea_64 rfl ?_
        refine we_ior (p := 66) dX7_readSea_65 rfl ?_
        refine wf_iast (n := 6) (i := (zV (pFn T n 0 S))) (p := 67) dX7_readSea_66 (s_o4 ho) (l_o ho 4 (by decide)) (in_nJ (by omega) (by decide)) (nI_cl (by omega)) rfl ?_
        refine we_aload_n (p := 68) dX7_readSea_67 rfl rfl ?_
        refine we_getR (c := 7) (j := 0) (n := 16) (b := o) (p := 71) dX7_readSea_68 rfl rfl (by decide) (by decide) rfl hdF rfl ?_
        refine we_getR (c := 4) (j := 5) (n := 18) (b := (o + 4)) (p := 74) dX7_readSea_71 rfl (s_o ho) (l_o0 ho) (by decide) rfl (r_o5 hF ho) rfl ?_
        refine we_iload_n (p := 75) dX7_readSea_74 rfl rfl ?_
        refine we_dup2 (p := 76) dX7_readSea_75 rfl ?_
        refine wf_iald (n := 6) (i := (zV (pFn T n 0 (pAv T n (pFn T n 0 S))))) (v := zD (pSt 5 (zV (pFn T n 0 S)) ((zD (pFn T n 0 (pAv T n (pFn T n 0 S))) 5 (zV (pFn T n 0 S))) ||| (1 <<< ((nI (zV (pFn T n 0 (pAv T n (pFn T n 0 S))))) &&& 31))) (pFn T n 0 (pAv T n (pFn T n 0 S)))) 5 (zV (pFn T n 0 (pAv T n (pFn T n 0 S))))) (p := 77) dX7_readSea_76 (s_o4 ho) (l_o ho 4 (by decide)) (in_nJ (by omega) (by decide)) (nI_cl (by omega)) (congrFun ((c3.st (j := 5) ho (by decide) (by decide)).2.2.2.2.2.2.2.2 5 (by decide) (by decide)) (zV (pFn T n 0 (pAv T n (pFn T n 0 S))))) rfl ?_
        refine we_iconst (v := 1) (p := 78) dX7_readSea_77 (by decide) rfl ?_
        refine we_iload_n (p := 79) dX7_readSea_78 rfl rfl ?_
        refine we_ishl (p := 80) dX7_readSea_79 rfl ?_
        refine we_ior (p := 81) dX7_readSea_80 rfl ?_
        refine wf_iast (n := 6) (i := (zV (pFn T n 0 (pAv T n (pFn T n 0 S))))) (p := 82) dX7_readSea_81 (s_o4 ho) (l_o ho 4 (by decide)) (in_nJ (by omega) (by decide)) (nI_cl (by omega)) rfl ?_
        refine we_aload_n (p := 83) dX7_readSea_82 rfl rfl ?_
        obtain ⟨_, _, e4, rfl, I4, J4, F4, rfl, ⟨rfl, a4, r4⟩⟩ := x_advance (I := (hp_u (hp_u I3 (o + 4) (zV (pFn T n 0 S)) ((zD (pFn T n 0 (pAv T n (pFn T n 0 S))) 5 (zV (pFn T n 0 S))) ||| (1 <<< ((nI (zV (pFn T n 0 (pAv T n (pFn T n 0 S))))) &&& 31)))) (o + 4) (zV (pFn T n 0 (pAv T n (pFn T n 0 S)))) ((zD (pSt 5 (zV (pFn T n 0 S)) ((zD (pFn T n 0 (pAv T n (pFn T n 0 S))) 5 (zV (pFn T n 0 S))) ||| (1 <<< ((nI (zV (pFn T n 0 (pAv T n (pFn T n 0 S))))) &&& 31))) (pFn T n 0 (pAv T n (pFn T n 0 S)))) 5 (zV (pFn T n 0 (pAv T n (pFn T n 0 S))))) ||| (1 <<< ((nI (zV (pFn T n 0 S))) &&& 31))))) hF (((((ht.rd ho f1).av a2).rd ho f3).rd ho (RdF.rf.uo (Or.inl ⟨by omega, by omega⟩) ho)).rd ho (RdF.rf.uo (Or.inl ⟨by omega, by omega⟩) ho)) (tE_le ((c3.st (j := 5) ho (by decide) (by decide)).st (j := 5) ho (by decide) (by decide)).2.1).1 ((c3.st (j := 5) ho (by decide) (by decide)).st (j := 5) ho (by decide) (by decide)).1.1
        refine we_callV_v (p := 86) (k' := 2) (a := [.ref 3]) (rr := []) dX7_readSea_83 rfl rfl rfl rfl (rc_of rfl rfl (by decide) ⟨rfl, by decide⟩) (Nat.le_of_ble_eq_true rfl) (Nat.le_of_ble_eq_true rfl) (by decide) e4 (Or.inl rfl) rfl ?_
        refine we_iconst (v := 1) (p := 87) dX7_readSea_86 (by decide) rfl ?_
        exact wi_ret dX7_readSea_87 rfl (by decide) (by decide) (RdP.ok (X := (pAv T n (pSt 5 (zV (pFn T n 0 (pAv T n (pFn T n 0 S)))) ((zD (pSt 5 (zV (pFn T n 0 S)) ((zD (pFn T n 0 (pAv T n (pFn T n 0 S))) 5 (zV (pFn T n 0 S))) ||| (1 <<< ((nI (zV (pFn T n 0 (pAv T n (pFn T n 0 S))))) &&& 31))) (pFn T n 0 (pAv T n (pFn T n 0 S)))) 5 (zV (pFn T n 0 (pAv T n (pFn T n 0 S))))) ||| (1 <<< ((nI (zV (pFn T n 0 S))) &&& 31))) (pSt 5 (zV (pFn T n 0 S)) ((zD (pFn T n 0 (pAv T n (pFn T n 0 S))) 5 (zV (pFn T n 0 S))) ||| (1 <<< ((nI (zV (pFn T n 0 (pAv T n (pFn T n 0 S))))) &&& 31))) (pFn T n 0 (pAv T n (pFn T n 0 S))))))) (by
      unfold pSea
      first | (rw [pB_y z1, pB_y z3, if_pos hc43]; done) | (rw [pB_y z1, pB_y z3, if_pos hc43]; rfl)) z3 ((((((RdF.rf.tr f1).tr a2.r).tr f3).uo (Or.inl ⟨by omega, by omega⟩) ho).uo (Or.inl ⟨by omega, by omega⟩) ho).tr a4.r) (((c3.st (j := 5) ho (by decide) (by decide)).st (j := 5) ho (by decide) (by decide)).av ho a4 r4))
      · skip
        refine we_aload_n (p := 47) dX7_readSea_46 rfl rfl ?_
        refine we_iconst (v := 3) (p := 48) dX7_readSea_47 (by decide) rfl ?_
        refine we_callV_int (p := 51) (k' := 0) (a := [.ref 3, .int 3]) (rr := []) dX7_readSea_48 rfl rfl rfl rfl (rc_of rfl rfl (by decide) ⟨rfl, by decide⟩) (Nat.le_of_ble_eq_true rfl) (Nat.le_of_ble_eq_true rfl) (by decide) x_fails (Or.inl rfl) rfl ?_
        exact wi_ret dX7_readSea_51 rfl (by decide) (by decide) (RdP.no (X := (pFn T n 0 (pAv T n (pFn T n 0 S)))) (k := 3) (by
      unfold pSea
      first | (rw [pB_y z1, pB_y z3, if_neg hc43]; done) | (rw [pB_y z1, pB_y z3, if_neg hc43]; rfl)) (by decide) ((((RdF.rf.tr f1).tr a2.r).tr f3).u3 (by decide)) hu_eq ((hu_nj (by decide)).trans c3.1.2.1))
    · skip
      refine we_callV_int (p := 24) (k' := 1) (a := [.ref 3, .int 0]) (rr := []) dX7_readSea_21 rfl rfl rfl rfl (rc_of rfl rfl (by decide) ⟨rfl, by decide⟩) (Nat.le_of_ble_eq_true rfl) (Nat.le_of_ble_eq_true rfl) (by decide) e3 (Or.inl rfl) rfl ?_
      refine we_if_ne (t := 29) (p := 27) dX7_readSea_24 (by decide) rfl rfl (fun hc24 => absurd (by decide) hc24) (fun hc24 => ?_)
      refine we_iconst (v := 0) (p := 28) dX7_readSea_27 (by decide) rfl ?_
      exact wi_ret dX7_readSea_28 rfl (by decide) (by decide) (RdP.go (X := (pFn T n 0 (pAv T n (pFn T n 0 S)))) (by
      unfold pSea
      first | (rw [pB_y z1, pB_n z3]; done) | (rw [pB_y z1, pB_n z3]; rfl)) z3 (((RdF.rf.tr f1).tr a2.r).tr f3) g3 s3)
  · skip
    refine we_callV_int (p := 5) (k' := 1) (a := [.ref 3, .int 0]) (rr := []) dX7_readSea_2 rfl rfl rfl rfl (rc_of rfl rfl (by decide) ⟨rfl, by decide⟩) (Nat.le_of_ble_eq_true rfl) (Nat.le_of_ble_eq_true rfl) (by decide) e1 (Or.inl rfl) rfl ?_
    refine we_if_ne (t := 10) (p := 8) dX7_readSea_5 (by decide) rfl rfl (fun hc5 => absurd (by decide) hc5) (fun hc5 => ?_)
    refine we_iconst (v := 0) (p := 9) dX7_readSea_8 (by decide) rfl ?_
    exact wi_ret dX7_readSea_9 rfl (by decide) (by decide) (RdP.go (X := (pFn T n 0 S)) (by
      unfold pSea
      first | (rw [pB_n z1]; done) | (rw [pB_n z1]; rfl)) z1 (RdF.rf.tr f1) g1 s1)
set_option maxRecDepth 10000 in
theorem x_readWoman {I : Nat → Nat → Int32} {J : Nat → Nat → Int64} {F : Nat → Nat → Option Nat} {nc ns : Nat} {T : Nat → Nat} {n o : Nat} {S : pZ} (ho : isO o) (hF : RFok F) (hdF : F 3 0 = some o) (ht : txC T n I J) (hc : cS T n o S I J) (hz : zF S = 0) {row : Nat} (hrow : row < 8) (h19 : zC S < 19) : Ew 4 mX7_readWoman 0 [.ref 3, .int (nI row)] [] ((SH, nc, ns), I, J, F) (RdP nc ns T n o I J F (pWom T n row S)) := by
  refine we_aload_n (p := 1) dX7_readWoman_0 rfl rfl ?_
  refine we_iconst (v := 2) (p := 2) dX7_readWoman_1 (by decide) rfl ?_
  refine we_iload_n (p := 3) dX7_readWoman_2 rfl rfl ?_
  obtain ⟨_, _, e1, I1, J1, rfl, f1, ⟨z1, rfl, c1⟩ | ⟨z1, rfl, g1, s1⟩⟩ := x_takeNewName (so := 2) (row := row) ho hF hdF ht hc hz (by omega) (by decide) (fun _ => by omega) h19
  · skip
    refine we_callV_int (p := 6) (k' := 3) (a := [.ref 3, .int 2, .int (nI row)]) (rr := []) dX7_readWoman_3 rfl rfl rfl rfl (rc_of rfl rfl (by decide) ⟨rfl, by decide⟩) (Nat.le_of_ble_eq_true rfl) (Nat.le_of_ble_eq_true rfl) (by decide) e1 (Or.inl rfl) rfl ?_
    refine we_if_ne (t := 11) (p := 9) dX7_readWoman_6 (by decide) rfl rfl (fun hc6 => ?_) (fun hc6 => absurd hc6 (by decide))
    refine we_aload_n (p := 12) dX7_readWoman_11 rfl rfl ?_
    refine wf_getI (c := 7) (j := 13) (n := 16) (v := tQ T n (zP (pNw T n 2 row S))) (p := 15) dX7_readWoman_12 rfl rfl (by decide) (by decide) (Or.inl rfl) c1.1.2.2.2.1 rfl ?_
    refine we_bipush (v := 8) (p := 17) dX7_readWoman_15 (by decide) rfl ?_
    refine we_icmp_lt (t := 29) (p := 20) dX7_readWoman_17 (by decide) rfl rfl (fun hc17 => ?_) (fun hc17 => ?_)
    · skip
      refine we_aload_n (p := 30) dX7_readWoman_29 rfl rfl ?_
      refine we_iconst (v := 1) (p := 31) dX7_readWoman_30 (by decide) rfl ?_
      refine we_callV_int (p := 34) (k' := 0) (a := [.ref 3, .int 1]) (rr := []) dX7_readWoman_31 rfl rfl rfl rfl (rc_of rfl rfl (by decide) ⟨rfl, by decide⟩) (Nat.le_of_ble_eq_true rfl) (Nat.le_of_ble_eq_true rfl) (by decide) x_fails (Or.inl rfl) rfl ?_
      exact wi_ret dX7_readWoman_34 rfl (by decide) (by decide) (RdP.no (X := (pNw T n 2 row S)) (k := 1) (by
      unfold pWom
      first | (rw [pB_y z1, if_pos hc17]; done) | (rw [pB_y z1, if_pos hc17]; rfl)) (by decide) ((RdF.rf.tr f1).u3 (by decide)) hu_eq ((hu_nj (by decide)).trans c1.1.2.1))
    · skip
      refine we_aload_n (p := 21) dX7_readWoman_20 rfl rfl ?_
      refine wf_getI (c := 7) (j := 13) (n := 16) (v := tQ T n (zP (pNw T n 2 row S))) (p := 24) dX7_readWoman_21 rfl rfl (by decide) (by decide) (Or.inl rfl) c1.1.2.2.2.1 rfl ?_
      refine we_bipush (v := 11) (p := 26) dX7_readWoman_24 (by decide) rfl ?_
      refine we_icmp_le (t := 35) (p := 29) dX7_readWoman_26 (by decide) rfl rfl (fun hc26 => ?_) (fun hc26 => ?_)
      · skip
        refine we_aload_n (p := 36) dX7_readWoman_35 rfl rfl ?_
        refine we_getR (c := 7) (j := 0) (n := 16) (b := o) (p := 39) dX7_readWoman_36 rfl rfl (by decide) (by decide) rfl hdF rfl ?_
        refine we_getR (c := 4) (j := 6) (n := 18) (b := (o + 5)) (p := 42) dX7_readWoman_39 rfl (s_o ho) (l_o0 ho) (by decide) rfl (r_o6 hF ho) rfl ?_
        refine we_iload_n (p := 43) dX7_readWoman_42 rfl rfl ?_
        refine we_aload_n (p := 44) dX7_readWoman_43 rfl rfl ?_
        refine wf_getI (c := 7) (j := 13) (n := 16) (v := tQ T n (zP (pNw T n 2 row S))) (p := 47) dX7_readWoman_44 rfl rfl (by decide) (by decide) (Or.inl rfl) c1.1.2.2.2.1 rfl ?_
        refine we_bipush (v := 8) (p := 49) dX7_readWoman_47 (by decide) rfl ?_
        refine we_isub (p := 50) dX7_readWoman_49 rfl ?_
        refine wf_iast (n := 8) (i := row) (p := 51) dX7_readWoman_50 (s_o5 ho) (l_o ho 5 (by decide)) (in_nJ (by omega) (by decide)) (nI_cl (by omega)) rfl ?_
        refine we_aload_n (p := 52) dX7_readWoman_51 rfl rfl ?_
        obtain ⟨_, _, e2, rfl, I2, J2, F2, rfl, ⟨rfl, a2, r2⟩⟩ := x_advance (I := (hp_u I1 (o + 5) row ((tQ T n (zP (pNw T n 2 row S))) - 8))) hF ((ht.rd ho f1).rd ho (RdF.rf.uo (Or.inl ⟨by omega, by omega⟩) ho)) (tE_le (c1.st (j := 6) ho (by decide) (by decide)).2.1).1 (c1.st (j := 6) ho (by decide) (by decide)).1.1
        refine we_callV_v (p := 55) (k' := 2) (a := [.ref 3]) (rr := []) dX7_readWoman_52 rfl rfl rfl rfl (rc_of rfl rfl (by decide) ⟨rfl, by decide⟩) (Nat.le_of_ble_eq_true rfl) (Nat.le_of_ble_eq_true rfl) (by decide) e2 (Or.inl rfl) rfl ?_
        refine we_aload_n (p := 56) dX7_readWoman_55 rfl rfl ?_
        refine wf_getI (c := 7) (j := 13) (n := 16) (v := tQ T n (zP (pAv T n (pSt 6 row ((tQ T n (zP (pNw T n 2 row S))) - 8) (pNw T n 2 row S))))) (p := 59) dX7_readWoman_56 rfl rfl (by decide) (by decide) (Or.inl rfl) ((c1.st (j := 6) ho (by decide) (by decide)).av ho a2 r2).1.2.2.2.1 rfl ?_
        refine we_bipush (v := 16) (p := 61) dX7_readWoman_59 (by decide) rfl ?_
        refine we_icmp_eq (t := 70) (p := 64) dX7_readWoman_61 (by decide) rfl rfl (fun hc61 => ?_) (fun hc61 => ?_)
        · skip
          refine we_aload_n (p := 71) dX7_readWoman_70 rfl rfl ?_
          obtain ⟨_, _, e3, rfl, I3, J3, F3, rfl, ⟨rfl, a3, r3⟩⟩ := x_advance (I := I2) hF (((ht.rd ho f1).rd ho (RdF.rf.uo (Or.inl ⟨by omega, by omega⟩) ho)).av a2) (tE_le ((c1.st (j := 6) ho (by decide) (by decide)).av ho a2 r2).2.1).1 ((c1.st (j := 6) ho (by decide) (by decide)).av ho a2 r2).1.1
          refine we_callV_v (p := 74) (k' := 2) (a := [.ref 3]) (rr := []) dX7_readWoman_71 rfl rfl rfl rfl (rc_of rfl rfl (by decide) ⟨rfl, by decide⟩) (Nat.le_of_ble_eq_true rfl) (Nat.le_of_ble_eq_true rfl) (by decide) e3 (Or.inl rfl) rfl ?_
          refine we_aload_n (p := 75) dX7_readWoman_74 rfl rfl ?_
          refine we_iconst (v := 0) (p := 76) dX7_readWoman_75 (by decide) rfl ?_
          obtain ⟨_, _, e4, I4, J4, rfl, f4, ⟨z4, rfl, c4⟩ | ⟨z4, rfl, g4, s4⟩⟩ := x_findName (so := 0) ho hF hdF ((((ht.rd ho f1).rd ho (RdF.rf.uo (Or.inl ⟨by omega, by omega⟩) ho)).av a2).av a3) (((c1.st (j := 6) ho (by decide) (by decide)).av ho a2 r2).av ho a3 r3) z1 (by decide)
          · skip
            refine we_callV_int (p := 79) (k' := 1) (a := [.ref 3, .int 0]) (rr := []) dX7_readWoman_76 rfl rfl rfl rfl (rc_of rfl rfl (by decide) ⟨rfl, by decide⟩) (Nat.le_of_ble_eq_true rfl) (Nat.le_of_ble_eq_true rfl) (by decide) e4 (Or.inl rfl) rfl ?_
            refine we_if_ne (t := 84) (p := 82) dX7_readWoman_79 (by decide) rfl rfl (fun hc79 => ?_) (fun hc79 => absurd hc79 (by decide))
            refine we_aload_n (p := 85) dX7_readWoman_84 rfl rfl ?_
            refine we_getR (c := 7) (j := 0) (n := 16) (b := o) (p := 88) dX7_readWoman_85 rfl rfl (by decide) (by decide) rfl hdF rfl ?_
            refine we_getR (c := 4) (j := 7) (n := 18) (b := (o + 6)) (p := 91) dX7_readWoman_88 rfl (s_o ho) (l_o0 ho) (by decide) rfl (r_o7 hF ho) rfl ?_
            refine we_iload_n (p := 92) dX7_readWoman_91 rfl rfl ?_
            refine we_aload_n (p := 93) dX7_readWoman_92 rfl rfl ?_
            refine wf_getI (c := 7) (j := 15) (n := 16) (v := nI (zV (pFn T n 0 (pAv T n (pAv T n (pSt 6 row ((tQ T n (zP (pNw T n 2 row S))) - 8) (pNw T n 2 row S))))))) (p := 96) dX7_readWoman_93 rfl rfl (by decide) (by decide) (Or.inl rfl) c4.2.2.2.2.2.1 rfl ?_
            refine wf_iast (n := 8) (i := row) (p := 97) dX7_readWoman_96 (s_o6 ho) (l_o ho 6 (by decide)) (in_nJ (by omega) (by decide)) (nI_cl (by omega)) rfl ?_
            refine we_aload_n (p := 98) dX7_readWoman_97 rfl rfl ?_
            obtain ⟨_, _, e5, rfl, I5, J5, F5, rfl, ⟨rfl, a5, r5⟩⟩ := x_advance (I := (hp_u I4 (o + 6) row (nI (zV (pFn T n 0 (pAv T n (pAv T n (pSt 6 row ((tQ T n (zP (pNw T n 2 row S))) - 8) (pNw T n 2 row S))))))))) hF ((((((ht.rd ho f1).rd ho (RdF.rf.uo (Or.inl ⟨by omega, by omega⟩) ho)).av a2).av a3).rd ho f4).rd ho (RdF.rf.uo (Or.inl ⟨by omega, by omega⟩) ho)) (tE_le (c4.st (j := 7) ho (by decide) (by decide)).2.1).1 (c4.st (j := 7) ho (by decide) (by decide)).1.1
            refine we_callV_v (p := 101) (k' := 2) (a := [.ref 3]) (rr := []) dX7_readWoman_98 rfl rfl rfl rfl (rc_of rfl rfl (by decide) ⟨rfl, by decide⟩) (Nat.le_of_ble_eq_true rfl) (Nat.le_of_ble_eq_true rfl) (by decide) e5 (Or.inl rfl) rfl ?_
            refine we_aload_n (p := 102) dX7_readWoman_101 rfl rfl ?_
            refine we_bipush (v := 17) (p := 104) dX7_readWoman_102 (by decide) rfl ?_
            refine we_iconst (v := 0) (p := 105) dX7_readWoman_104 (by decide) rfl ?_
            refine we_bipush (v := 99) (p := 107) dX7_readWoman_105 (by decide) rfl ?_
            obtain ⟨_, _, e6, I6, J6, rfl, f6, ⟨z6, rfl, c6⟩ | ⟨z6, rfl, g6, s6⟩⟩ := x_takeNumber (w := 17) (lo := 0) (hi := 99) ho hF hdF (((((((ht.rd ho f1).rd ho (RdF.rf.uo (Or.inl ⟨by omega, by omega⟩) ho)).av a2).av a3).rd ho f4).rd ho (RdF.rf.uo (Or.inl ⟨by omega, by omega⟩) ho)).av a5) ((c4.st (j := 7) ho (by decide) (by decide)).av ho a5 r5) z4 (by decide) (by decide)
            · skip
              refine we_callV_int (p := 110) (k' := 3) (a := [.ref 3, .int 17, .int 0, .int 99]) (rr := []) dX7_readWoman_107 rfl rfl rfl rfl (rc_of rfl rfl (by decide) ⟨rfl, by decide⟩) (Nat.le_of_ble_eq_true rfl) (Nat.le_of_ble_eq_true rfl) (by decide) e6 (Or.inl rfl) rfl ?_
              refine we_if_ne (t := 115) (p := 113) dX7_readWoman_110 (by decide) rfl rfl (fun hc110 => ?_) (fun hc110 => absurd hc110 (by decide))
              refine we_aload_n (p := 116) dX7_readWoman_115 rfl rfl ?_
              refine we_getR (c := 7) (j := 0) (n := 16) (b := o) (p := 119) dX7_readWoman_116 rfl rfl (by decide) (by decide) rfl hdF rfl ?_
              refine we_getR (c := 4) (j := 8) (n := 18) (b := (o + 7)) (p := 122) dX7_readWoman_119 rfl (s_o ho) (l_o0 ho) (by decide) rfl (r_o8 hF ho) rfl ?_
              refine we_iload_n (p := 123) dX7_readWoman_122 rfl rfl ?_
              refine we_aload_n (p := 124) dX7_readWoman_123 rfl rfl ?_
              refine wf_getI (c := 7) (j := 15) (n := 16) (v := nI (zV (pTk T n 17 0 99 (pAv T n (pSv 7 row (pFn T n 0 (pAv T n (pAv T n (pSt 6 row ((tQ T n (zP (pNw T n 2 row S))) - 8) (pNw T n 2 row S)))))))))) (p := 127) dX7_readWoman_124 rfl rfl (by decide) (by decide) (Or.inl rfl) c6.2.2.2.2.2.1 rfl ?_
              refine wf_iast (n := 8) (i := row) (p := 128) dX7_readWoman_127 (s_o7 ho) (l_o ho 7 (by decide)) (in_nJ (by omega) (by decide)) (nI_cl (by omega)) rfl ?_
              refine we_aload_n (p := 129) dX7_readWoman_128 rfl rfl ?_
              refine we_bipush (v := 18) (p := 131) dX7_readWoman_129 (by decide) rfl ?_
              refine we_iconst (v := 0) (p := 132) dX7_readWoman_131 (by decide) rfl ?_
              refine we_bipush (v := 60) (p := 134) dX7_readWoman_132 (by decide) rfl ?_
              obtain ⟨_, _, e7, I7, J7, rfl, f7, ⟨z7, rfl, c7⟩ | ⟨z7, rfl, g7, s7⟩⟩ := x_takeNumber (w := 18) (lo := 0) (hi := 60) ho hF hdF (((((((((ht.rd ho f1).rd ho (RdF.rf.uo (Or.inl ⟨by omega, by omega⟩) ho)).av a2).av a3).rd ho f4).rd ho (RdF.rf.uo (Or.inl ⟨by omega, by omega⟩) ho)).av a5).rd ho f6).rd ho (RdF.rf.uo (Or.inl ⟨by omega, by omega⟩) ho)) (c6.st (j := 8) ho (by decide) (by decide)) z6 (by decide) (by decide)
              · skip
                refine we_callV_int (p := 137) (k' := 3) (a := [.ref 3, .int 18, .int 0, .int 60]) (rr := []) dX7_readWoman_134 rfl rfl rfl rfl (rc_of rfl rfl (by decide) ⟨rfl, by decide⟩) (Nat.le_of_ble_eq_true rfl) (Nat.le_of_ble_eq_true rfl) (by decide) e7 (Or.inl rfl) rfl ?_
                refine we_if_ne (t := 142) (p := 140) dX7_readWoman_137 (by decide) rfl rfl (fun hc137 => ?_) (fun hc137 => absurd hc137 (by decide))
                refine we_aload_n (p := 143) dX7_readWoman_142 rfl rfl ?_
                refine we_getR (c := 7) (j := 0) (n := 16) (b := o) (p := 146) dX7_readWoman_143 rfl rfl (by decide) (by decide) rfl hdF rfl ?_
                refine we_getR (c := 4) (j := 9) (n := 18) (b := (o + 8)) (p := 149) dX7_readWoman_146 rfl (s_o ho) (l_o0 ho) (by decide) rfl (r_o9 hF ho) rfl ?_
                refine we_iload_n (p := 150) dX7_readWoman_149 rfl rfl ?_
                refine we_aload_n (p := 151) dX7_readWoman_150 rfl rfl ?_
                refine wf_getI (c := 7) (j := 15) (n := 16) (v := nI (zV (pTk T n 18 0 60 (pSv 8 row (pTk T n 17 0 99 (pAv T n (pSv 7 row (pFn T n 0 (pAv T n (pAv T n (pSt 6 row ((tQ T n (zP (pNw T n 2 row S))) - 8) (pNw T n 2 row S)))))))))))) (p := 154) dX7_readWoman_151 rfl rfl (by decide) (by decide) (Or.inl rfl) c7.2.2.2.2.2.1 rfl ?_
                refine wf_iast (n := 8) (i := row) (p := 155) dX7_readWoman_154 (s_o8 ho) (l_o ho 8 (by decide)) (in_nJ (by omega) (by decide)) (nI_cl (by omega)) rfl ?_
                refine we_iconst (v := 1) (p := 156) dX7_readWoman_155 (by decide) rfl ?_
                exact wi_ret dX7_readWoman_156 rfl (by decide) (by decide) (RdP.ok (X := (pSv 9 row (pTk T n 18 0 60 (pSv 8 row (pTk T n 17 0 99 (pAv T n (pSv 7 row (pFn T n 0 (pAv T n (pAv T n (pSt 6 row ((tQ T n (zP (pNw T n 2 row S))) - 8) (pNw T n 2 row S)))))))))))) (by
      unfold pWom
      first | (rw [pB_y z1, if_neg hc17, if_neg (Int32.not_lt.mpr hc26), pWom2, if_pos (show tQ T n (zP (pAv T n (pSt 6 row (tQ T n (zP (pNw T n 2 row S)) - 8) (pNw T n 2 row S)))) = nI 16 from hc61), pB_y z4, pB_y z6, pB_y z7]; done) | (rw [pB_y z1, if_neg hc17, if_neg (Int32.not_lt.mpr hc26), pWom2, if_pos (show tQ T n (zP (pAv T n (pSt 6 row (tQ T n (zP (pNw T n 2 row S)) - 8) (pNw T n 2 row S)))) = nI 16 from hc61), pB_y z4, pB_y z6, pB_y z7]; rfl)) z7 (((((((((((RdF.rf.tr f1).uo (Or.inl ⟨by omega, by omega⟩) ho).tr a2.r).tr a3.r).tr f4).uo (Or.inl ⟨by omega, by omega⟩) ho).tr a5.r).tr f6).uo (Or.inl ⟨by omega, by omega⟩) ho).tr f7).uo (Or.inl ⟨by omega, by omega⟩) ho) (c7.st (j := 9) ho (by decide) (by decide)))
              · skip
                refine we_callV_int (p := 137) (k' := 3) (a := [.ref 3, .int 18, .int 0, .int 60]) (rr := []) dX7_readWoman_134 rfl rfl rfl rfl (rc_of rfl rfl (by decide) ⟨rfl, by decide⟩) (Nat.le_of_ble_eq_true rfl) (Nat.le_of_ble_eq_true rfl) (by decide) e7 (Or.inl rfl) rfl ?_
                refine we_if_ne (t := 142) (p := 140) dX7_readWoman_137 (by decide) rfl rfl (fun hc137 => absurd (by decide) hc137) (fun hc137 => ?_)
                refine we_iconst (v := 0) (p := 141) dX7_readWoman_140 (by decide) rfl ?_
                exact wi_ret dX7_readWoman_141 rfl (by decide) (by decide) (RdP.go (X := (pTk T n 18 0 60 (pSv 8 row (pTk T n 17 0 99 (pAv T n (pSv 7 row (pFn T n 0 (pAv T n (pAv T n (pSt 6 row ((tQ T n (zP (pNw T n 2 row S))) - 8) (pNw T n 2 row S))))))))))) (by
      unfold pWom
      first | (rw [pB_y z1, if_neg hc17, if_neg (Int32.not_lt.mpr hc26), pWom2, if_pos (show tQ T n (zP (pAv T n (pSt 6 row (tQ T n (zP (pNw T n 2 row S)) - 8) (pNw T n 2 row S)))) = nI 16 from hc61), pB_y z4, pB_y z6, pB_n z7]; done) | (rw [pB_y z1, if_neg hc17, if_neg (Int32.not_lt.mpr hc26), pWom2, if_pos (show tQ T n (zP (pAv T n (pSt 6 row (tQ T n (zP (pNw T n 2 row S)) - 8) (pNw T n 2 row S)))) = nI 16 from hc61), pB_y z4, pB_y z6, pB_n z7]; rfl)) z7 ((((((((((RdF.rf.tr f1).uo (Or.inl ⟨by omega, by omega⟩) ho).tr a2.r).tr a3.r).tr f4).uo (Or.inl ⟨by omega, by omega⟩) ho).tr a5.r).tr f6).uo (Or.inl ⟨by omega, by omega⟩) ho).tr f7) g7 s7)
            · skip
              refine we_callV_int (p := 110) (k' := 3) (a := [.ref 3, .int 17, .int 0, .int 99]) (rr := []) dX7_readWoman_107 rfl rfl rfl rfl (rc_of rfl rfl (by decide) ⟨rfl, by decide⟩) (Nat.le_of_ble_eq_true rfl) (Nat.le_of_ble_eq_true rfl) (by decide) e6 (Or.inl rfl) rfl ?_
              refine we_if_ne (t := 115) (p := 113) dX7_readWoman_110 (by decide) rfl rfl (fun hc110 => absurd (by decide) hc110) (fun hc110 => ?_)
              refine we_iconst (v := 0) (p := 114) dX7_readWoman_113 (by decide) rfl ?_
              exact wi_ret dX7_readWoman_114 rfl (by decide) (by decide) (RdP.go (X := (pTk T n 17 0 99 (pAv T n (pSv 7 row (pFn T n 0 (pAv T n (pAv T n (pSt 6 row ((tQ T n (zP (pNw T n 2 row S))) - 8) (pNw T n 2 row S))))))))) (by
      unfold pWom
      first | (rw [pB_y z1, if_neg hc17, if_neg (Int32.not_lt.mpr hc26), pWom2, if_pos (show tQ T n (zP (pAv T n (pSt 6 row (tQ T n (zP (pNw T n 2 row S)) - 8) (pNw T n 2 row S)))) = nI 16 from hc61), pB_y z4, pB_n z6]; done) | (rw [pB_y z1, if_neg hc17, if_neg (Int32.not_lt.mpr hc26), pWom2, if_pos (show tQ T n (zP (pAv T n (pSt 6 row (tQ T n (zP (pNw T n 2 row S)) - 8) (pNw T n 2 row S)))) = nI 16 from hc61), pB_y z4, pB_n z6]; rfl)) z6 ((((((((RdF.rf.tr f1).uo (Or.inl ⟨by omega, by omega⟩) ho).tr a2.r).tr a3.r).tr f4).uo (Or.inl ⟨by omega, by omega⟩) ho).tr a5.r).tr f6) g6 s6)
          · skip
            refine we_callV_int (p := 79) (k' := 1) (a := [.ref 3, .int 0]) (rr := []) dX7_readWoman_76 rfl rfl rfl rfl (rc_of rfl rfl (by decide) ⟨rfl, by decide⟩) (Nat.le_of_ble_eq_true rfl) (Nat.le_of_ble_eq_true rfl) (by decide) e4 (Or.inl rfl) rfl ?_
            refine we_if_ne (t := 84) (p := 82) dX7_readWoman_79 (by decide) rfl rfl (fun hc79 => absurd (by decide) hc79) (fun hc79 => ?_)
            refine we_iconst (v := 0) (p := 83) dX7_readWoman_82 (by decide) rfl ?_
            exact wi_ret dX7_readWoman_83 rfl (by decide) (by decide) (RdP.go (X := (pFn T n 0 (pAv T n (pAv T n (pSt 6 row ((tQ T n (zP (pNw T n 2 row S))) - 8) (pNw T n 2 row S)))))) (by
      unfold pWom
      first | (rw [pB_y z1, if_neg hc17, if_neg (Int32.not_lt.mpr hc26), pWom2, if_pos (show tQ T n (zP (pAv T n (pSt 6 row (tQ T n (zP (pNw T n 2 row S)) - 8) (pNw T n 2 row S)))) = nI 16 from hc61), pB_n z4]; done) | (rw [pB_y z1, if_neg hc17, if_neg (Int32.not_lt.mpr hc26), pWom2, if_pos (show tQ T n (zP (pAv T n (pSt 6 row (tQ T n (zP (pNw T n 2 row S)) - 8) (pNw T n 2 row S)))) = nI 16 from hc61), pB_n z4]; rfl)) z4 (((((RdF.rf.tr f1).uo (Or.inl ⟨by omega, by omega⟩) ho).tr a2.r).tr a3.r).tr f4) g4 s4)
        · skip
          refine we_aload_n (p := 65) dX7_readWoman_64 rfl rfl ?_
          refine we_iconst (v := 1) (p := 66) dX7_readWoman_65 (by decide) rfl ?_
          refine we_callV_int (p := 69) (k' := 0) (a := [.ref 3, .int 1]) (rr := []) dX7_readWoman_66 rfl rfl rfl rfl (rc_of rfl rfl (by decide) ⟨rfl, by decide⟩) (Nat.le_of_ble_eq_true rfl) (Nat.le_of_ble_eq_true rfl) (by decide) x_fails (Or.inl rfl) rfl ?_
          exact wi_ret dX7_readWoman_69 rfl (by decide) (by decide) (RdP.no (X := (pAv T n (pSt 6 row ((tQ T n (zP (pNw T n 2 row S))) - 8) (pNw T n 2 row S)))) (k := 1) (by
      unfold pWom
      first | (rw [pB_y z1, if_neg hc17, if_neg (Int32.not_lt.mpr hc26), pWom2, if_neg (show ¬ tQ T n (zP (pAv T n (pSt 6 row (tQ T n (zP (pNw T n 2 row S)) - 8) (pNw T n 2 row S)))) = nI 16 from hc61)]; done) | (rw [pB_y z1, if_neg hc17, if_neg (Int32.not_lt.mpr hc26), pWom2, if_neg (show ¬ tQ T n (zP (pAv T n (pSt 6 row (tQ T n (zP (pNw T n 2 row S)) - 8) (pNw T n 2 row S)))) = nI 16 from hc61)]; rfl)) (by decide) ((((RdF.rf.tr f1).uo (Or.inl ⟨by omega, by omega⟩) ho).tr a2.r).u3 (by decide)) hu_eq ((hu_nj (by decide)).trans ((c1.st (j := 6) ho (by decide) (by decide)).av ho a2 r2).1.2.1))
      · skip
        refine we_aload_n (p := 30) dX7_readWoman_29 rfl rfl ?_
        refine we_iconst (v := 1) (p := 31) dX7_readWoman_30 (by decide) rfl ?_
        refine we_callV_int (p := 34) (k' := 0) (a := [.ref 3, .int 1]) (rr := []) dX7_readWoman_31 rfl rfl rfl rfl (rc_of rfl rfl (by decide) ⟨rfl, by decide⟩) (Nat.le_of_ble_eq_true rfl) (Nat.le_of_ble_eq_true rfl) (by decide) x_fails (Or.inl rfl) rfl ?_
        exact wi_ret dX7_readWoman_34 rfl (by decide) (by decide) (RdP.no (X := (pNw T n 2 row S)) (k := 1) (by
      unfold pWom
      first | (rw [pB_y z1, if_neg hc17, if_pos (Int32.not_le.mp hc26)]; done) | (rw [pB_y z1, if_neg hc17, if_pos (Int32.not_le.mp hc26)]; rfl)) (by decide) ((RdF.rf.tr f1).u3 (by decide)) hu_eq ((hu_nj (by decide)).trans c1.1.2.1))
  · skip
    refine we_callV_int (p := 6) (k' := 3) (a := [.ref 3, .int 2, .int (nI row)]) (rr := []) dX7_readWoman_3 rfl rfl rfl rfl (rc_of rfl rfl (by decide) ⟨rfl, by decide⟩) (Nat.le_of_ble_eq_true rfl) (Nat.le_of_ble_eq_true rfl) (by decide) e1 (Or.inl rfl) rfl ?_
    refine we_if_ne (t := 11) (p := 9) dX7_readWoman_6 (by decide) rfl rfl (fun hc6 => absurd (by decide) hc6) (fun hc6 => ?_)
    refine we_iconst (v := 0) (p := 10) dX7_readWoman_9 (by decide) rfl ?_
    exact wi_ret dX7_readWoman_10 rfl (by decide) (by decide) (RdP.go (X := (pNw T n 2 row S)) (by
      unfold pWom
      first | (rw [pB_n z1]; done) | (rw [pB_n z1]; rfl)) z1 (RdF.rf.tr f1) g1 s1)
def rmN (k : Nat) : Nat := [6, 10, 8, 8, 6, 5, 4].getD k 0
def pLk (T : Nat → Nat) (n k row : Nat) (S : pZ) : pZ := match k with
  | 0 => pHarb T n row S
  | 1 => pSea T n S
  | 2 => pWom T n row S
  | 3 => pRiv T n row S
  | 4 => pLet T n row S
  | 5 => pHan T n row S
  | _ => pNea T n row S
def pLn (T : Nat → Nat) (n k : Nat) (S : pZ) : pZ := if k = 7 then pOath T n S else if zD S 0 0 ≤ 0 then pFl 6 S else if rmN k ≤ dN (zD S) k then pFl 5 S else pLk T n k (dN (zD S) k) (pAv T n S)
set_option maxRecDepth 10000 in
theorem x_readLine_0 {I : Nat → Nat → Int32} {J : Nat → Nat → Int64} {F : Nat → Nat → Option Nat} {nc ns : Nat} {T : Nat → Nat} {n o : Nat} {S : pZ} (ho : isO o) (hF : RFok F) (hdF : F 3 0 = some o) (ht : txC T n I J) (hc : cS T n o S I J) (hz : zF S = 0) (hD : WFc (zD S)) (h19 : ∀ k, k = 0 ∨ k = 2 ∨ k = 5 → dN (zD S) k < rmN k → zC S < 19) (hq : tQ T n (zP S) = 0) : Ew 5 mX7_readLine 0 [.ref 3, .null, .null] [] ((SH, nc, ns), I, J, F) (RdP nc ns T n o I J F (pLn T n 0 S)) := by
  obtain ⟨b0, b1, b2, b3, b4, b5, b6⟩ := hD.2
  by_cases ht0 : zD S 0 0 ≤ 0
  · skip
    refine we_aload_n (p := 1) dX7_readLine_0 rfl rfl ?_
    refine wf_getI (c := 7) (j := 13) (n := 16) (v := 0) (p := 4) dX7_readLine_1 rfl rfl (by decide) (by decide) (Or.inl rfl) (hc.1.2.2.2.1.trans hq) rfl ?_
    refine we_istore_n (ls1 := [.ref 3, .int 0, .null]) (p := 5) dX7_readLine_4 rfl rfl ?_
    refine we_iload_n (p := 6) dX7_readLine_5 rfl rfl ?_
    refine we_if_lt (t := 15) (p := 9) dX7_readLine_6 (by decide) rfl rfl (fun hc6 => absurd hc6 (by decide)) (fun hc6 => ?_)
    refine we_iload_n (p := 10) dX7_readLine_9 rfl rfl ?_
    refine we_bipush (v := 7) (p := 12) dX7_readLine_10 (by decide) rfl ?_
    refine we_icmp_le (t := 21) (p := 15) dX7_readLine_12 (by decide) rfl rfl (fun hc12 => ?_) (fun hc12 => absurd (by decide) hc12)
    refine we_iload_n (p := 22) dX7_readLine_21 rfl rfl ?_
    refine we_bipush (v := 7) (p := 24) dX7_readLine_22 (by decide) rfl ?_
    refine we_icmp_ne (t := 32) (p := 27) dX7_readLine_24 (by decide) rfl rfl (fun hc24 => ?_) (fun hc24 => absurd hc24 (by decide))
    refine we_aload_n (p := 33) dX7_readLine_32 rfl rfl ?_
    refine we_getR (c := 7) (j := 0) (n := 16) (b := o) (p := 36) dX7_readLine_33 rfl rfl (by decide) (by decide) rfl hdF rfl ?_
    refine we_callV_int (p := 39) (k' := 0) (a := [.ref o]) (rr := []) dX7_readLine_36 rfl rfl rfl rfl (rc_of rfl (s_o ho) (l_o0 ho) ⟨rfl, by decide⟩) (Nat.le_of_ble_eq_true rfl) (Nat.le_of_ble_eq_true rfl) (by decide) (Ev.i (if_pos ht0) (x_isToldE ho hF hc.2.2.2.2.2.2)) (Or.inl rfl) rfl ?_
    refine we_if_ne (t := 49) (p := 42) dX7_readLine_39 (by decide) rfl rfl (fun hc39 => absurd (by decide) hc39) (fun hc39 => ?_)
    refine we_aload_n (p := 43) dX7_readLine_42 rfl rfl ?_
    refine we_bipush (v := 6) (p := 45) dX7_readLine_43 (by decide) rfl ?_
    refine we_callV_int (p := 48) (k' := 0) (a := [.ref 3, .int 6]) (rr := []) dX7_readLine_45 rfl rfl rfl rfl (rc_of rfl rfl (by decide) ⟨rfl, by decide⟩) (Nat.le_of_ble_eq_true rfl) (Nat.le_of_ble_eq_true rfl) (by decide) x_fails (Or.inl rfl) rfl ?_
    exact wi_ret dX7_readLine_48 rfl (by decide) (by decide) (RdP.no (X := S) (k := 6) (by
      unfold pLn
      rw [if_neg (by decide), if_pos ht0]) (by decide) (RdF.rf.u3 (by decide)) hu_eq ((hu_nj (by decide)).trans hc.1.2.1))
  · by_cases hrm : rmN 0 ≤ dN (zD S) 0
    · have hrm1 : 6 ≤ dN (zD S) 0 := hrm
      refine we_aload_n (p := 1) dX7_readLine_0 rfl rfl ?_
      refine wf_getI (c := 7) (j := 13) (n := 16) (v := 0) (p := 4) dX7_readLine_1 rfl rfl (by decide) (by decide) (Or.inl rfl) (hc.1.2.2.2.1.trans hq) rfl ?_
      refine we_istore_n (ls1 := [.ref 3, .int 0, .null]) (p := 5) dX7_readLine_4 rfl rfl ?_
      refine we_iload_n (p := 6) dX7_readLine_5 rfl rfl ?_
      refine we_if_lt (t := 15) (p := 9) dX7_readLine_6 (by decide) rfl rfl (fun hc6 => absurd hc6 (by decide)) (fun hc6 => ?_)
      refine we_iload_n (p := 10) dX7_readLine_9 rfl rfl ?_
      refine we_bipush (v := 7) (p := 12) dX7_readLine_10 (by decide) rfl ?_
      refine we_icmp_le (t := 21) (p := 15) dX7_readLine_12 (by decide) rfl rfl (fun hc12 => ?_) (fun hc12 => absurd (by decide) hc12)
      refine we_iload_n (p := 22) dX7_readLine_21 rfl rfl ?_
      refine we_bipush (v := 7) (p := 24) dX7_readLine_22 (by decide) rfl ?_
      refine we_icmp_ne (t := 32) (p := 27) dX7_readLine_24 (by decide) rfl rfl (fun hc24 => ?_) (fun hc24 => absurd hc24 (by decide))
      refine we_aload_n (p := 33) dX7_readLine_32 rfl rfl ?_
      refine we_getR (c := 7) (j := 0) (n := 16) (b := o) (p := 36) dX7_readLine_33 rfl rfl (by decide) (by decide) rfl hdF rfl ?_
      refine we_callV_int (p := 39) (k' := 0) (a := [.ref o]) (rr := []) dX7_readLine_36 rfl rfl rfl rfl (rc_of rfl (s_o ho) (l_o0 ho) ⟨rfl, by decide⟩) (Nat.le_of_ble_eq_true rfl) (Nat.le_of_ble_eq_true rfl) (by decide) (Ev.i (if_neg ht0) (x_isToldE ho hF hc.2.2.2.2.2.2)) (Or.inl rfl) rfl ?_
      refine we_if_ne (t := 49) (p := 42) dX7_readLine_39 (by decide) rfl rfl (fun hc39 => ?_) (fun hc39 => absurd hc39 (by decide))
      refine we_aload_n (p := 50) dX7_readLine_49 rfl rfl ?_
      refine we_getR (c := 7) (j := 0) (n := 16) (b := o) (p := 53) dX7_readLine_50 rfl rfl (by decide) (by decide) rfl hdF rfl ?_
      refine we_getR (c := 4) (j := 2) (n := 18) (b := (o + 1)) (p := 56) dX7_readLine_53 rfl (s_o ho) (l_o0 ho) (by decide) rfl (r_o2 hF ho) rfl ?_
      refine we_iload_n (p := 57) dX7_readLine_56 rfl rfl ?_
      refine wf_iald (n := 7) (i := 0) (v := nI (dN (zD S) 0)) (p := 58) dX7_readLine_57 (s_o1 ho) (l_o ho 1 (by decide)) (by decide) (by decide) ((congrFun (hc.2.2.2.2.2.2.2.2 2 (by decide) (by decide)) 0).trans (hD.1 0 (by decide))) rfl ?_
      refine we_istore_n (ls1 := [.ref 3, .int 0, .int (nI (dN (zD S) 0))]) (p := 59) dX7_readLine_58 rfl rfl ?_
      refine we_iload_n (p := 60) dX7_readLine_59 rfl rfl ?_
      refine we_statR (p := 63) dX7_readLine_60 rfl rfl ?_
      refine we_iload_n (p := 64) dX7_readLine_63 rfl rfl ?_
      refine wf_room (v := 6) (p := 65) dX7_readLine_64 (by decide) (by decide) rfl ?_
      refine we_icmp_lt (t := 74) (p := 68) dX7_readLine_65 (by decide) rfl rfl (fun hc65 => absurd hc65 (nI_nlt (a := dN (zD S) 0) (b := 6) (by omega) (by omega))) (fun hc65 => ?_)
      refine we_aload_n (p := 69) dX7_readLine_68 rfl rfl ?_
      refine we_iconst (v := 5) (p := 70) dX7_readLine_69 (by decide) rfl ?_
      refine we_callV_int (p := 73) (k' := 0) (a := [.ref 3, .int 5]) (rr := []) dX7_readLine_70 rfl rfl rfl rfl (rc_of rfl rfl (by decide) ⟨rfl, by decide⟩) (Nat.le_of_ble_eq_true rfl) (Nat.le_of_ble_eq_true rfl) (by decide) x_fails (Or.inl rfl) rfl ?_
      exact wi_ret dX7_readLine_73 rfl (by decide) (by decide) (RdP.no (X := S) (k := 5) (by
      unfold pLn
      rw [if_neg (by decide), if_neg ht0, if_pos hrm]) (by decide) (RdF.rf.u3 (by decide)) hu_eq ((hu_nj (by decide)).trans hc.1.2.1))
    · have hrm0 := hrm
      replace hrm : dN (zD S) 0 < rmN 0 := Nat.lt_of_not_le hrm
      have hrm1 : dN (zD S) 0 < 6 := hrm
      refine we_aload_n (p := 1) dX7_readLine_0 rfl rfl ?_
      refine wf_getI (c := 7) (j := 13) (n := 16) (v := 0) (p := 4) dX7_readLine_1 rfl rfl (by decide) (by decide) (Or.inl rfl) (hc.1.2.2.2.1.trans hq) rfl ?_
      refine we_istore_n (ls1 := [.ref 3, .int 0, .null]) (p := 5) dX7_readLine_4 rfl rfl ?_
      refine we_iload_n (p := 6) dX7_readLine_5 rfl rfl ?_
      refine we_if_lt (t := 15) (p := 9) dX7_readLine_6 (by decide) rfl rfl (fun hc6 => absurd hc6 (by decide)) (fun hc6 => ?_)
      refine we_iload_n (p := 10) dX7_readLine_9 rfl rfl ?_
      refine we_bipush (v := 7) (p := 12) dX7_readLine_10 (by decide) rfl ?_
      refine we_icmp_le (t := 21) (p := 15) dX7_readLine_12 (by decide) rfl rfl (fun hc12 => ?_) (fun hc12 => absurd (by decide) hc12)
      refine we_iload_n (p := 22) dX7_readLine_21 rfl rfl ?_
      refine we_bipush (v := 7) (p := 24) dX7_readLine_22 (by decide) rfl ?_
      refine we_icmp_ne (t := 32) (p := 27) dX7_readLine_24 (by decide) rfl rfl (fun hc24 => ?_) (fun hc24 => absurd hc24 (by decide))
      refine we_aload_n (p := 33) dX7_readLine_32 rfl rfl ?_
      refine we_getR (c := 7) (j := 0) (n := 16) (b := o) (p := 36) dX7_readLine_33 rfl rfl (by decide) (by decide) rfl hdF rfl ?_
      refine we_callV_int (p := 39) (k' := 0) (a := [.ref o]) (rr := []) dX7_readLine_36 rfl rfl rfl rfl (rc_of rfl (s_o ho) (l_o0 ho) ⟨rfl, by decide⟩) (Nat.le_of_ble_eq_true rfl) (Nat.le_of_ble_eq_true rfl) (by decide) (Ev.i (if_neg ht0) (x_isToldE ho hF hc.2.2.2.2.2.2)) (Or.inl rfl) rfl ?_
      refine we_if_ne (t := 49) (p := 42) dX7_readLine_39 (by decide) rfl rfl (fun hc39 => ?_) (fun hc39 => absurd hc39 (by decide))
      refine we_aload_n (p := 50) dX7_readLine_49 rfl rfl ?_
      refine we_getR (c := 7) (j := 0) (n := 16) (b := o) (p := 53) dX7_readLine_50 rfl rfl (by decide) (by decide) rfl hdF rfl ?_
      refine we_getR (c := 4) (j := 2) (n := 18) (b := (o + 1)) (p := 56) dX7_readLine_53 rfl (s_o ho) (l_o0 ho) (by decide) rfl (r_o2 hF ho) rfl ?_
      refine we_iload_n (p := 57) dX7_readLine_56 rfl rfl ?_
      refine wf_iald (n := 7) (i := 0) (v := nI (dN (zD S) 0)) (p := 58) dX7_readLine_57 (s_o1 ho) (l_o ho 1 (by decide)) (by decide) (by decide) ((congrFun (hc.2.2.2.2.2.2.2.2 2 (by decide) (by decide)) 0).trans (hD.1 0 (by decide))) rfl ?_
      refine we_istore_n (ls1 := [.ref 3, .int 0, .int (nI (dN (zD S) 0))]) (p := 59) dX7_readLine_58 rfl rfl ?_
      refine we_iload_n (p := 60) dX7_readLine_59 rfl rfl ?_
      refine we_statR (p := 63) dX7_readLine_60 rfl rfl ?_
      refine we_iload_n (p := 64) dX7_readLine_63 rfl rfl ?_
      refine wf_room (v := 6) (p := 65) dX7_readLine_64 (by decide) (by decide) rfl ?_
      refine we_icmp_lt (t := 74) (p := 68) dX7_readLine_65 (by decide) rfl rfl (fun hc65 => ?_) (fun hc65 => absurd (nI_lt (a := dN (zD S) 0) (b := 6) (by omega) (by omega)) hc65)
      refine we_aload_n (p := 75) dX7_readLine_74 rfl rfl ?_
      obtain ⟨_, _, e1, rfl, I1, J1, F1, rfl, ⟨rfl, a1, r1⟩⟩ := x_advance (I := I) hF ht (tE_le hc.2.1).1 hc.1.1
      refine we_callV_v (p := 78) (k' := 2) (a := [.ref 3]) (rr := []) dX7_readLine_75 rfl rfl rfl rfl (rc_of rfl rfl (by decide) ⟨rfl, by decide⟩) (Nat.le_of_ble_eq_true rfl) (Nat.le_of_ble_eq_true rfl) (by decide) e1 (Or.inl rfl) rfl ?_
      refine we_iload_n (p := 79) dX7_readLine_78 rfl rfl ?_
      refine we_swIn (p := 116) dX7_readLine_79 (by decide) rfl (by decide) rfl ?_
      refine we_aload_n (p := 117) dX7_readLine_116 rfl rfl ?_
      refine we_iload_n (p := 118) dX7_readLine_117 rfl rfl ?_
      obtain ⟨_, _, e2, I2, J2, rfl, f2, ⟨z2, rfl, c2⟩ | ⟨z2, rfl, g2, s2⟩⟩ := x_readHarbour (row := dN (zD S) 0) ho hF hdF (ht.av a1) (hc.av ho a1 r1) hz (by omega) (h19 0 (by omega) hrm)
      · skip
        refine we_callV_int (p := 121) (k' := 4) (a := [.ref 3, .int (nI (dN (zD S) 0))]) (rr := []) dX7_readLine_118 rfl rfl rfl rfl (rc_of rfl rfl (by decide) ⟨rfl, by decide⟩) (Nat.le_of_ble_eq_true rfl) (Nat.le_of_ble_eq_true rfl) (by decide) e2 (Or.inl rfl) rfl ?_
        exact wi_ret dX7_readLine_121 rfl (by decide) (by decide) (RdP.ok (by
      unfold pLn
      rw [if_neg (by decide), if_neg ht0, if_neg hrm0]
      rfl) z2 ((RdF.rf.tr a1.r).tr f2) c2)
      · skip
        refine we_callV_int (p := 121) (k' := 4) (a := [.ref 3, .int (nI (dN (zD S) 0))]) (rr := []) dX7_readLine_118 rfl rfl rfl rfl (rc_of rfl rfl (by decide) ⟨rfl, by decide⟩) (Nat.le_of_ble_eq_true rfl) (Nat.le_of_ble_eq_true rfl) (by decide) e2 (Or.inl rfl) rfl ?_
        exact wi_ret dX7_readLine_121 rfl (by decide) (by decide) (RdP.go (by
      unfold pLn
      rw [if_neg (by decide), if_neg ht0, if_neg hrm0]
      rfl) z2 ((RdF.rf.tr a1.r).tr f2) g2 s2)
set_option maxRecDepth 10000 in
theorem x_readLine_1 {I : Nat → Nat → Int32} {J : Nat → Nat → Int64} {F : Nat → Nat → Option Nat} {nc ns : Nat} {T : Nat → Nat} {n o : Nat} {S : pZ} (ho : isO o) (hF : RFok F) (hdF : F 3 0 = some o) (ht : txC T n I J) (hc : cS T n o S I J) (hz : zF S = 0) (hD : WFc (zD S)) (h19 : ∀ k, k = 0 ∨ k = 2 ∨ k = 5 → dN (zD S) k < rmN k → zC S < 19) (hq : tQ T n (zP S) = 1) : Ew 5 mX7_readLine 0 [.ref 3, .null, .null] [] ((SH, nc, ns), I, J, F) (RdP nc ns T n o I J F (pLn T n 1 S)) := by
  obtain ⟨b0, b1, b2, b3, b4, b5, b6⟩ := hD.2
  by_cases ht0 : zD S 0 0 ≤ 0
  · skip
    refine we_aload_n (p := 1) dX7_readLine_0 rfl rfl ?_
    refine wf_getI (c := 7) (j := 13) (n := 16) (v := 1) (p := 4) dX7_readLine_1 rfl rfl (by decide) (by decide) (Or.inl rfl) (hc.1.2.2.2.1.trans hq) rfl ?_
    refine we_istore_n (ls1 := [.ref 3, .int 1, .null]) (p := 5) dX7_readLine_4 rfl rfl ?_
    refine we_iload_n (p := 6) dX7_readLine_5 rfl rfl ?_
    refine we_if_lt (t := 15) (p := 9) dX7_readLine_6 (by decide) rfl rfl (fun hc6 => absurd hc6 (by decide)) (fun hc6 => ?_)
    refine we_iload_n (p := 10) dX7_readLine_9 rfl rfl ?_
    refine we_bipush (v := 7) (p := 12) dX7_readLine_10 (by decide) rfl ?_
    refine we_icmp_le (t := 21) (p := 15) dX7_readLine_12 (by decide) rfl rfl (fun hc12 => ?_) (fun hc12 => absurd (by decide) hc12)
    refine we_iload_n (p := 22) dX7_readLine_21 rfl rfl ?_
    refine we_bipush (v := 7) (p := 24) dX7_readLine_22 (by decide) rfl ?_
    refine we_icmp_ne (t := 32) (p := 27) dX7_readLine_24 (by decide) rfl rfl (fun hc24 => ?_) (fun hc24 => absurd hc24 (by decide))
    refine we_aload_n (p := 33) dX7_readLine_32 rfl rfl ?_
    refine we_getR (c := 7) (j := 0) (n := 16) (b := o) (p := 36) dX7_readLine_33 rfl rfl (by decide) (by decide) rfl hdF rfl ?_
    refine we_callV_int (p := 39) (k' := 0) (a := [.ref o]) (rr := []) dX7_readLine_36 rfl rfl rfl rfl (rc_of rfl (s_o ho) (l_o0 ho) ⟨rfl, by decide⟩) (Nat.le_of_ble_eq_true rfl) (Nat.le_of_ble_eq_true rfl) (by decide) (Ev.i (if_pos ht0) (x_isToldE ho hF hc.2.2.2.2.2.2)) (Or.inl rfl) rfl ?_
    refine we_if_ne (t := 49) (p := 42) dX7_readLine_39 (by decide) rfl rfl (fun hc39 => absurd (by decide) hc39) (fun hc39 => ?_)
    refine we_aload_n (p := 43) dX7_readLine_42 rfl rfl ?_
    refine we_bipush (v := 6) (p := 45) dX7_readLine_43 (by decide) rfl ?_
    refine we_callV_int (p := 48) (k' := 0) (a := [.ref 3, .int 6]) (rr := []) dX7_readLine_45 rfl rfl rfl rfl (rc_of rfl rfl (by decide) ⟨rfl, by decide⟩) (Nat.le_of_ble_eq_true rfl) (Nat.le_of_ble_eq_true rfl) (by decide) x_fails (Or.inl rfl) rfl ?_
    exact wi_ret dX7_readLine_48 rfl (by decide) (by decide) (RdP.no (X := S) (k := 6) (by
      unfold pLn
      rw [if_neg (by decide), if_pos ht0]) (by decide) (RdF.rf.u3 (by decide)) hu_eq ((hu_nj (by decide)).trans hc.1.2.1))
  · by_cases hrm : rmN 1 ≤ dN (zD S) 1
    · have hrm1 : 10 ≤ dN (zD S) 1 := hrm
      refine we_aload_n (p := 1) dX7_readLine_0 rfl rfl ?_
      refine wf_getI (c := 7) (j := 13) (n := 16) (v := 1) (p := 4) dX7_readLine_1 rfl rfl (by decide) (by decide) (Or.inl rfl) (hc.1.2.2.2.1.trans hq) rfl ?_
      refine we_istore_n (ls1 := [.ref 3, .int 1, .null]) (p := 5) dX7_readLine_4 rfl rfl ?_
      refine we_iload_n (p := 6) dX7_readLine_5 rfl rfl ?_
      refine we_if_lt (t := 15) (p := 9) dX7_readLine_6 (by decide) rfl rfl (fun hc6 => absurd hc6 (by decide)) (fun hc6 => ?_)
      refine we_iload_n (p := 10) dX7_readLine_9 rfl rfl ?_
      refine we_bipush (v := 7) (p := 12) dX7_readLine_10 (by decide) rfl ?_
      refine we_icmp_le (t := 21) (p := 15) dX7_readLine_12 (by decide) rfl rfl (fun hc12 => ?_) (fun hc12 => absurd (by decide) hc12)
      refine we_iload_n (p := 22) dX7_readLine_21 rfl rfl ?_
      refine we_bipush (v := 7) (p := 24) dX7_readLine_22 (by decide) rfl ?_
      refine we_icmp_ne (t := 32) (p := 27) dX7_readLine_24 (by decide) rfl rfl (fun hc24 => ?_) (fun hc24 => absurd hc24 (by decide))
      refine we_aload_n (p := 33) dX7_readLine_32 rfl rfl ?_
      refine we_getR (c := 7) (j := 0) (n := 16) (b := o) (p := 36) dX7_readLine_33 rfl rfl (by decide) (by decide) rfl hdF rfl ?_
      refine we_callV_int (p := 39) (k' := 0) (a := [.ref o]) (rr := []) dX7_readLine_36 rfl rfl rfl rfl (rc_of rfl (s_o ho) (l_o0 ho) ⟨rfl, by decide⟩) (Nat.le_of_ble_eq_true rfl) (Nat.le_of_ble_eq_true rfl) (by decide) (Ev.i (if_neg ht0) (x_isToldE ho hF hc.2.2.2.2.2.2)) (Or.inl rfl) rfl ?_
      refine we_if_ne (t := 49) (p := 42) dX7_readLine_39 (by decide) rfl rfl (fun hc39 => ?_) (fun hc39 => absurd hc39 (by decide))
      refine we_aload_n (p := 50) dX7_readLine_49 rfl rfl ?_
      refine we_getR (c := 7) (j := 0) (n := 16) (b := o) (p := 53) dX7_readLine_50 rfl rfl (by decide) (by decide) rfl hdF rfl ?_
      refine we_getR (c := 4) (j := 2) (n := 18) (b := (o + 1)) (p := 56) dX7_readLine_53 rfl (s_o ho) (l_o0 ho) (by decide) rfl (r_o2 hF ho) rfl ?_
      refine we_iload_n (p := 57) dX7_readLine_56 rfl rfl ?_
      refine wf_iald (n := 7) (i := 1) (v := nI (dN (zD S) 1)) (p := 58) dX7_readLine_57 (s_o1 ho) (l_o ho 1 (by decide)) (by decide) (by decide) ((congrFun (hc.2.2.2.2.2.2.2.2 2 (by decide) (by decide)) 1).trans (hD.1 1 (by decide))) rfl ?_
      refine we_istore_n (ls1 := [.ref 3, .int 1, .int (nI (dN (zD S) 1))]) (p := 59) dX7_readLine_58 rfl rfl ?_
      refine we_iload_n (p := 60) dX7_readLine_59 rfl rfl ?_
      refine we_statR (p := 63) dX7_readLine_60 rfl rfl ?_
      refine we_iload_n (p := 64) dX7_readLine_63 rfl rfl ?_
      refine wf_room (v := 10) (p := 65) dX7_readLine_64 (by decide) (by decide) rfl ?_
      refine we_icmp_lt (t := 74) (p := 68) dX7_readLine_65 (by decide) rfl rfl (fun hc65 => absurd hc65 (nI_nlt (a := dN (zD S) 1) (b := 10) (by omega) (by omega))) (fun hc65 => ?_)
      refine we_aload_n (p := 69) dX7_readLine_68 rfl rfl ?_
      refine we_iconst (v := 5) (p := 70) dX7_readLine_69 (by decide) rfl ?_
      refine we_callV_int (p := 73) (k' := 0) (a := [.ref 3, .int 5]) (rr := []) dX7_readLine_70 rfl rfl rfl rfl (rc_of rfl rfl (by decide) ⟨rfl, by decide⟩) (Nat.le_of_ble_eq_true rfl) (Nat.le_of_ble_eq_true rfl) (by decide) x_fails (Or.inl rfl) rfl ?_
      exact wi_ret dX7_readLine_73 rfl (by decide) (by decide) (RdP.no (X := S) (k := 5) (by
      unfold pLn
      rw [if_neg (by decide), if_neg ht0, if_pos hrm]) (by decide) (RdF.rf.u3 (by decide)) hu_eq ((hu_nj (by decide)).trans hc.1.2.1))
    · have hrm0 := hrm
      replace hrm : dN (zD S) 1 < rmN 1 := Nat.lt_of_not_le hrm
      have hrm1 : dN (zD S) 1 < 10 := hrm
      refine we_aload_n (p := 1) dX7_readLine_0 rfl rfl ?_
      refine wf_getI (c := 7) (j := 13) (n := 16) (v := 1) (p := 4) dX7_readLine_1 rfl rfl (by decide) (by decide) (Or.inl rfl) (hc.1.2.2.2.1.trans hq) rfl ?_
      refine we_istore_n (ls1 := [.ref 3, .int 1, .null]) (p := 5) dX7_readLine_4 rfl rfl ?_
      refine we_iload_n (p := 6) dX7_readLine_5 rfl rfl ?_
      refine we_if_lt (t := 15) (p := 9) dX7_readLine_6 (by decide) rfl rfl (fun hc6 => absurd hc6 (by decide)) (fun hc6 => ?_)
      refine we_iload_n (p := 10) dX7_readLine_9 rfl rfl ?_
      refine we_bipush (v := 7) (p := 12) dX7_readLine_10 (by decide) rfl ?_
      refine we_icmp_le (t := 21) (p := 15) dX7_readLine_12 (by decide) rfl rfl (fun hc12 => ?_) (fun hc12 => absurd (by decide) hc12)
      refine we_iload_n (p := 22) dX7_readLine_21 rfl rfl ?_
      refine we_bipush (v := 7) (p := 24) dX7_readLine_22 (by decide) rfl ?_
      refine we_icmp_ne (t := 32) (p := 27) dX7_readLine_24 (by decide) rfl rfl (fun hc24 => ?_) (fun hc24 => absurd hc24 (by decide))
      refine we_aload_n (p := 33) dX7_readLine_32 rfl rfl ?_
      refine we_getR (c := 7) (j := 0) (n := 16) (b := o) (p := 36) dX7_readLine_33 rfl rfl (by decide) (by decide) rfl hdF rfl ?_
      refine we_callV_int (p := 39) (k' := 0) (a := [.ref o]) (rr := []) dX7_readLine_36 rfl rfl rfl rfl (rc_of rfl (s_o ho) (l_o0 ho) ⟨rfl, by decide⟩) (Nat.le_of_ble_eq_true rfl) (Nat.le_of_ble_eq_true rfl) (by decide) (Ev.i (if_neg ht0) (x_isToldE ho hF hc.2.2.2.2.2.2)) (Or.inl rfl) rfl ?_
      refine we_if_ne (t := 49) (p := 42) dX7_readLine_39 (by decide) rfl rfl (fun hc39 => ?_) (fun hc39 => absurd hc39 (by decide))
      refine we_aload_n (p := 50) dX7_readLine_49 rfl rfl ?_
      refine we_getR (c := 7) (j := 0) (n := 16) (b := o) (p := 53) dX7_readLine_50 rfl rfl (by decide) (by decide) rfl hdF rfl ?_
      refine we_getR (c := 4) (j := 2) (n := 18) (b := (o + 1)) (p := 56) dX7_readLine_53 rfl (s_o ho) (l_o0 ho) (by decide) rfl (r_o2 hF ho) rfl ?_
      refine we_iload_n (p := 57) dX7_readLine_56 rfl rfl ?_
      refine wf_iald (n := 7) (i := 1) (v := nI (dN (zD S) 1)) (p := 58) dX7_readLine_57 (s_o1 ho) (l_o ho 1 (by decide)) (by decide) (by decide) ((congrFun (hc.2.2.2.2.2.2.2.2 2 (by decide) (by decide)) 1).trans (hD.1 1 (by decide))) rfl ?_
      refine we_istore_n (ls1 := [.ref 3, .int 1, .int (nI (dN (zD S) 1))]) (p := 59) dX7_readLine_58 rfl rfl ?_
      refine we_iload_n (p := 60) dX7_readLine_59 rfl rfl ?_
      refine we_statR (p := 63) dX7_readLine_60 rfl rfl ?_
      refine we_iload_n (p := 64) dX7_readLine_63 rfl rfl ?_
      refine wf_room (v := 10) (p := 65) dX7_readLine_64 (by decide) (by decide) rfl ?_
      refine we_icmp_lt (t := 74) (p := 68) dX7_readLine_65 (by decide) rfl rfl (fun hc65 => ?_) (fun hc65 => absurd (nI_lt (a := dN (zD S) 1) (b := 10) (by omega) (by omega)) hc65)
      refine we_aload_n (p := 75) dX7_readLine_74 rfl rfl ?_
      obtain ⟨_, _, e1, rfl, I1, J1, F1, rfl, ⟨rfl, a1, r1⟩⟩ := x_advance (I := I) hF ht (tE_le hc.2.1).1 hc.1.1
      refine we_callV_v (p := 78) (k' := 2) (a := [.ref 3]) (rr := []) dX7_readLine_75 rfl rfl rfl rfl (rc_of rfl rfl (by decide) ⟨rfl, by decide⟩) (Nat.le_of_ble_eq_true rfl) (Nat.le_of_ble_eq_true rfl) (by decide) e1 (Or.inl rfl) rfl ?_
      refine we_iload_n (p := 79) dX7_readLine_78 rfl rfl ?_
      refine we_swIn (p := 122) dX7_readLine_79 (by decide) rfl (by decide) rfl ?_
      refine we_aload_n (p := 123) dX7_readLine_122 rfl rfl ?_
      obtain ⟨_, _, e2, I2, J2, rfl, f2, ⟨z2, rfl, c2⟩ | ⟨z2, rfl, g2, s2⟩⟩ := x_readSea ho hF hdF (ht.av a1) (hc.av ho a1 r1) hz 
      · skip
        refine we_callV_int (p := 126) (k' := 3) (a := [.ref 3]) (rr := []) dX7_readLine_123 rfl rfl rfl rfl (rc_of rfl rfl (by decide) ⟨rfl, by decide⟩) (Nat.le_of_ble_eq_true rfl) (Nat.le_of_ble_eq_true rfl) (by decide) e2 (Or.inl rfl) rfl ?_
        exact wi_ret dX7_readLine_126 rfl (by decide) (by decide) (RdP.ok (by
      unfold pLn
      rw [if_neg (by decide), if_neg ht0, if_neg hrm0]
      rfl) z2 ((RdF.rf.tr a1.r).tr f2) c2)
      · skip
        refine we_callV_int (p := 126) (k' := 3) (a := [.ref 3]) (rr := []) dX7_readLine_123 rfl rfl rfl rfl (rc_of rfl rfl (by decide) ⟨rfl, by decide⟩) (Nat.le_of_ble_eq_true rfl) (Nat.le_of_ble_eq_true rfl) (by decide) e2 (Or.inl rfl) rfl ?_
        exact wi_ret dX7_readLine_126 rfl (by decide) (by decide) (RdP.go (by
      unfold pLn
      rw [if_neg (by decide), if_neg ht0, if_neg hrm0]
      rfl) z2 ((RdF.rf.tr a1.r).tr f2) g2 s2)
set_option maxRecDepth 10000 in
theorem x_readLine_2 {I : Nat → Nat → Int32} {J : Nat → Nat → Int64} {F : Nat → Nat → Option Nat} {nc ns : Nat} {T : Nat → Nat} {n o : Nat} {S : pZ} (ho : isO o) (hF : RFok F) (hdF : F 3 0 = some o) (ht : txC T n I J) (hc : cS T n o S I J) (hz : zF S = 0) (hD : WFc (zD S)) (h19 : ∀ k, k = 0 ∨ k = 2 ∨ k = 5 → dN (zD S) k < rmN k → zC S < 19) (hq : tQ T n (zP S) = 2) : Ew 5 mX7_readLine 0 [.ref 3, .null, .null] [] ((SH, nc, ns), I, J, F) (RdP nc ns T n o I J F (pLn T n 2 S)) := by
  obtain ⟨b0, b1, b2, b3, b4, b5, b6⟩ := hD.2
  by_cases ht0 : zD S 0 0 ≤ 0
  · skip
    refine we_aload_n (p := 1) dX7_readLine_0 rfl rfl ?_
    refine wf_getI (c := 7) (j := 13) (n := 16) (v := 2) (p := 4) dX7_readLine_1 rfl rfl (by decide) (by decide) (Or.inl rfl) (hc.1.2.2.2.1.trans hq) rfl ?_
    refine we_istore_n (ls1 := [.ref 3, .int 2, .null]) (p := 5) dX7_readLine_4 rfl rfl ?_
    refine we_iload_n (p := 6) dX7_readLine_5 rfl rfl ?_
    refine we_if_lt (t := 15) (p := 9) dX7_readLine_6 (by decide) rfl rfl (fun hc6 => absurd hc6 (by decide)) (fun hc6 => ?_)
    refine we_iload_n (p := 10) dX7_readLine_9 rfl rfl ?_
    refine we_bipush (v := 7) (p := 12) dX7_readLine_10 (by decide) rfl ?_
    refine we_icmp_le (t := 21) (p := 15) dX7_readLine_12 (by decide) rfl rfl (fun hc12 => ?_) (fun hc12 => absurd (by decide) hc12)
    refine we_iload_n (p := 22) dX7_readLine_21 rfl rfl ?_
    refine we_bipush (v := 7) (p := 24) dX7_readLine_22 (by decide) rfl ?_
    refine we_icmp_ne (t := 32) (p := 27) dX7_readLine_24 (by decide) rfl rfl (fun hc24 => ?_) (fun hc24 => absurd hc24 (by decide))
    refine we_aload_n (p := 33) dX7_readLine_32 rfl rfl ?_
    refine we_getR (c := 7) (j := 0) (n := 16) (b := o) (p := 36) dX7_readLine_33 rfl rfl (by decide) (by decide) rfl hdF rfl ?_
    refine we_callV_int (p := 39) (k' := 0) (a := [.ref o]) (rr := []) dX7_readLine_36 rfl rfl rfl rfl (rc_of rfl (s_o ho) (l_o0 ho) ⟨rfl, by decide⟩) (Nat.le_of_ble_eq_true rfl) (Nat.le_of_ble_eq_true rfl) (by decide) (Ev.i (if_pos ht0) (x_isToldE ho hF hc.2.2.2.2.2.2)) (Or.inl rfl) rfl ?_
    refine we_if_ne (t := 49) (p := 42) dX7_readLine_39 (by decide) rfl rfl (fun hc39 => absurd (by decide) hc39) (fun hc39 => ?_)
    refine we_aload_n (p := 43) dX7_readLine_42 rfl rfl ?_
    refine we_bipush (v := 6) (p := 45) dX7_readLine_43 (by decide) rfl ?_
    refine we_callV_int (p := 48) (k' := 0) (a := [.ref 3, .int 6]) (rr := []) dX7_readLine_45 rfl rfl rfl rfl (rc_of rfl rfl (by decide) ⟨rfl, by decide⟩) (Nat.le_of_ble_eq_true rfl) (Nat.le_of_ble_eq_true rfl) (by decide) x_fails (Or.inl rfl) rfl ?_
    exact wi_ret dX7_readLine_48 rfl (by decide) (by decide) (RdP.no (X := S) (k := 6) (by
      unfold pLn
      rw [if_neg (by decide), if_pos ht0]) (by decide) (RdF.rf.u3 (by decide)) hu_eq ((hu_nj (by decide)).trans hc.1.2.1))
  · by_cases hrm : rmN 2 ≤ dN (zD S) 2
    · have hrm1 : 8 ≤ dN (zD S) 2 := hrm
      refine we_aload_n (p := 1) dX7_readLine_0 rfl rfl ?_
      refine wf_getI (c := 7) (j := 13) (n := 16) (v := 2) (p := 4) dX7_readLine_1 rfl rfl (by decide) (by decide) (Or.inl rfl) (hc.1.2.2.2.1.trans hq) rfl ?_
      refine we_istore_n (ls1 := [.ref 3, .int 2, .null]) (p := 5) dX7_readLine_4 rfl rfl ?_
      refine we_iload_n (p := 6) dX7_readLine_5 rfl rfl ?_
      refine we_if_lt (t := 15) (p := 9) dX7_readLine_6 (by decide) rfl rfl (fun hc6 => absurd hc6 (by decide)) (fun hc6 => ?_)
      refine we_iload_n (p := 10) dX7_readLine_9 rfl rfl ?_
      refine we_bipush (v := 7) (p := 12) dX7_readLine_10 (by decide) rfl ?_
      refine we_icmp_le (t := 21) (p := 15) dX7_readLine_12 (by decide) rfl rfl (fun hc12 => ?_) (fun hc12 => absurd (by decide) hc12)
      refine we_iload_n (p := 22) dX7_readLine_21 rfl rfl ?_
      refine we_bipush (v := 7) (p := 24) dX7_readLine_22 (by decide) rfl ?_
      refine we_icmp_ne (t := 32) (p := 27) dX7_readLine_24 (by decide) rfl rfl (fun hc24 => ?_) (fun hc24 => absurd hc24 (by decide))
      refine we_aload_n (p := 33) dX7_readLine_32 rfl rfl ?_
      refine we_getR (c := 7) (j := 0) (n := 16) (b := o) (p := 36) dX7_readLine_33 rfl rfl (by decide) (by decide) rfl hdF rfl ?_
      refine we_callV_int (p := 39) (k' := 0) (a := [.ref o]) (rr := []) dX7_readLine_36 rfl rfl rfl rfl (rc_of rfl (s_o ho) (l_o0 ho) ⟨rfl, by decide⟩) (Nat.le_of_ble_eq_true rfl) (Nat.le_of_ble_eq_true rfl) (by decide) (Ev.i (if_neg ht0) (x_isToldE ho hF hc.2.2.2.2.2.2)) (Or.inl rfl) rfl ?_
      refine we_if_ne (t := 49) (p := 42) dX7_readLine_39 (by decide) rfl rfl (fun hc39 => ?_) (fun hc39 => absurd hc39 (by decide))
      refine we_aload_n (p := 50) dX7_readLine_49 rfl rfl ?_
      refine we_getR (c := 7) (j := 0) (n := 16) (b := o) (p := 53) dX7_readLine_50 rfl rfl (by decide) (by decide) rfl hdF rfl ?_
      refine we_getR (c := 4) (j := 2) (n := 18) (b := (o + 1)) (p := 56) dX7_readLine_53 rfl (s_o ho) (l_o0 ho) (by decide) rfl (r_o2 hF ho) rfl ?_
      refine we_iload_n (p := 57) dX7_readLine_56 rfl rfl ?_
      refine wf_iald (n := 7) (i := 2) (v := nI (dN (zD S) 2)) (p := 58) dX7_readLine_57 (s_o1 ho) (l_o ho 1 (by decide)) (by decide) (by decide) ((congrFun (hc.2.2.2.2.2.2.2.2 2 (by decide) (by decide)) 2).trans (hD.1 2 (by decide))) rfl ?_
      refine we_istore_n (ls1 := [.ref 3, .int 2, .int (nI (dN (zD S) 2))]) (p := 59) dX7_readLine_58 rfl rfl ?_
      refine we_iload_n (p := 60) dX7_readLine_59 rfl rfl ?_
      refine we_statR (p := 63) dX7_readLine_60 rfl rfl ?_
      refine we_iload_n (p := 64) dX7_readLine_63 rfl rfl ?_
      refine wf_room (v := 8) (p := 65) dX7_readLine_64 (by decide) (by decide) rfl ?_
      refine we_icmp_lt (t := 74) (p := 68) dX7_readLine_65 (by decide) rfl rfl (fun hc65 => absurd hc65 (nI_nlt (a := dN (zD S) 2) (b := 8) (by omega) (by omega))) (fun hc65 => ?_)
      refine we_aload_n (p := 69) dX7_readLine_68 rfl rfl ?_
      refine we_iconst (v := 5) (p := 70) dX7_readLine_69 (by decide) rfl ?_
      refine we_callV_int (p := 73) (k' := 0) (a := [.ref 3, .int 5]) (rr := []) dX7_readLine_70 rfl rfl rfl rfl (rc_of rfl rfl (by decide) ⟨rfl, by decide⟩) (Nat.le_of_ble_eq_true rfl) (Nat.le_of_ble_eq_true rfl) (by decide) x_fails (Or.inl rfl) rfl ?_
      exact wi_ret dX7_readLine_73 rfl (by decide) (by decide) (RdP.no (X := S) (k := 5) (by
      unfold pLn
      rw [if_neg (by decide), if_neg ht0, if_pos hrm]) (by decide) (RdF.rf.u3 (by decide)) hu_eq ((hu_nj (by decide)).trans hc.1.2.1))
    · have hrm0 := hrm
      replace hrm : dN (zD S) 2 < rmN 2 := Nat.lt_of_not_le hrm
      have hrm1 : dN (zD S) 2 < 8 := hrm
      refine we_aload_n (p := 1) dX7_readLine_0 rfl rfl ?_
      refine wf_getI (c := 7) (j := 13) (n := 16) (v := 2) (p := 4) dX7_readLine_1 rfl rfl (by decide) (by decide) (Or.inl rfl) (hc.1.2.2.2.1.trans hq) rfl ?_
      refine we_istore_n (ls1 := [.ref 3, .int 2, .null]) (p := 5) dX7_readLine_4 rfl rfl ?_
      refine we_iload_n (p := 6) dX7_readLine_5 rfl rfl ?_
      refine we_if_lt (t := 15) (p := 9) dX7_readLine_6 (by decide) rfl rfl (fun hc6 => absurd hc6 (by decide)) (fun hc6 => ?_)
      refine we_iload_n (p := 10) dX7_readLine_9 rfl rfl ?_
      refine we_bipush (v := 7) (p := 12) dX7_readLine_10 (by decide) rfl ?_
      refine we_icmp_le (t := 21) (p := 15) dX7_readLine_12 (by decide) rfl rfl (fun hc12 => ?_) (fun hc12 => absurd (by decide) hc12)
      refine we_iload_n (p := 22) dX7_readLine_21 rfl rfl ?_
      refine we_bipush (v := 7) (p := 24) dX7_readLine_22 (by decide) rfl ?_
      refine we_icmp_ne (t := 32) (p := 27) dX7_readLine_24 (by decide) rfl rfl (fun hc24 => ?_) (fun hc24 => absurd hc24 (by decide))
      refine we_aload_n (p := 33) dX7_readLine_32 rfl rfl ?_
      refine we_getR (c := 7) (j := 0) (n := 16) (b := o) (p := 36) dX7_readLine_33 rfl rfl (by decide) (by decide) rfl hdF rfl ?_
      refine we_callV_int (p := 39) (k' := 0) (a := [.ref o]) (rr := []) dX7_readLine_36 rfl rfl rfl rfl (rc_of rfl (s_o ho) (l_o0 ho) ⟨rfl, by decide⟩) (Nat.le_of_ble_eq_true rfl) (Nat.le_of_ble_eq_true rfl) (by decide) (Ev.i (if_neg ht0) (x_isToldE ho hF hc.2.2.2.2.2.2)) (Or.inl rfl) rfl ?_
      refine we_if_ne (t := 49) (p := 42) dX7_readLine_39 (by decide) rfl rfl (fun hc39 => ?_) (fun hc39 => absurd hc39 (by decide))
      refine we_aload_n (p := 50) dX7_readLine_49 rfl rfl ?_
      refine we_getR (c := 7) (j := 0) (n := 16) (b := o) (p := 53) dX7_readLine_50 rfl rfl (by decide) (by decide) rfl hdF rfl ?_
      refine we_getR (c := 4) (j := 2) (n := 18) (b := (o + 1)) (p := 56) dX7_readLine_53 rfl (s_o ho) (l_o0 ho) (by decide) rfl (r_o2 hF ho) rfl ?_
      refine we_iload_n (p := 57) dX7_readLine_56 rfl rfl ?_
      refine wf_iald (n := 7) (i := 2) (v := nI (dN (zD S) 2)) (p := 58) dX7_readLine_57 (s_o1 ho) (l_o ho 1 (by decide)) (by decide) (by decide) ((congrFun (hc.2.2.2.2.2.2.2.2 2 (by decide) (by decide)) 2).trans (hD.1 2 (by decide))) rfl ?_
      refine we_istore_n (ls1 := [.ref 3, .int 2, .int (nI (dN (zD S) 2))]) (p := 59) dX7_readLine_58 rfl rfl ?_
      refine we_iload_n (p := 60) dX7_readLine_59 rfl rfl ?_
      refine we_statR (p := 63) dX7_readLine_60 rfl rfl ?_
      refine we_iload_n (p := 64) dX7_readLine_63 rfl rfl ?_
      refine wf_room (v := 8) (p := 65) dX7_readLine_64 (by decide) (by decide) rfl ?_
      refine we_icmp_lt (t := 74) (p := 68) dX7_readLine_65 (by decide) rfl rfl (fun hc65 => ?_) (fun hc65 => absurd (nI_lt (a := dN (zD S) 2) (b := 8) (by omega) (by omega)) hc65)
      refine we_aload_n (p := 75) dX7_readLine_74 rfl rfl ?_
      obtain ⟨_, _, e1, rfl, I1, J1, F1, rfl, ⟨rfl, a1, r1⟩⟩ := x_advance (I := I) hF ht (tE_le hc.2.1).1 hc.1.1
      refine we_callV_v (p := 78) (k' := 2) (a := [.ref 3]) (rr := []) dX7_readLine_75 rfl rfl rfl rfl (rc_of rfl rfl (by decide) ⟨rfl, by decide⟩) (Nat.le_of_ble_eq_true rfl) (Nat.le_of_ble_eq_true rfl) (by decide) e1 (Or.inl rfl) rfl ?_
      refine we_iload_n (p := 79) dX7_readLine_78 rfl rfl ?_
      refine we_swIn (p := 127) dX7_readLine_79 (by decide) rfl (by decide) rfl ?_
      refine we_aload_n (p := 128) dX7_readLine_127 rfl rfl ?_
      refine we_iload_n (p := 129) dX7_readLine_128 rfl rfl ?_
      obtain ⟨_, _, e2, I2, J2, rfl, f2, ⟨z2, rfl, c2⟩ | ⟨z2, rfl, g2, s2⟩⟩ := x_readWoman (row := dN (zD S) 2) ho hF hdF (ht.av a1) (hc.av ho a1 r1) hz (by omega) (h19 2 (by omega) hrm)
      · skip
        refine we_callV_int (p := 132) (k' := 4) (a := [.ref 3, .int (nI (dN (zD S) 2))]) (rr := []) dX7_readLine_129 rfl rfl rfl rfl (rc_of rfl rfl (by decide) ⟨rfl, by decide⟩) (Nat.le_of_ble_eq_true rfl) (Nat.le_of_ble_eq_true rfl) (by decide) e2 (Or.inl rfl) rfl ?_
        exact wi_ret dX7_readLine_132 rfl (by decide) (by decide) (RdP.ok (by
      unfold pLn
      rw [if_neg (by decide), if_neg ht0, if_neg hrm0]
      rfl) z2 ((RdF.rf.tr a1.r).tr f2) c2)
      · skip
        refine we_callV_int (p := 132) (k' := 4) (a := [.ref 3, .int (nI (dN (zD S) 2))]) (rr := []) dX7_readLine_129 rfl rfl rfl rfl (rc_of rfl rfl (by decide) ⟨rfl, by decide⟩) (Nat.le_of_ble_eq_true rfl) (Nat.le_of_ble_eq_true rfl) (by decide) e2 (Or.inl rfl) rfl ?_
        exact wi_ret dX7_readLine_132 rfl (by decide) (by decide) (RdP.go (by
      unfold pLn
      rw [if_neg (by decide), if_neg ht0, if_neg hrm0]
      rfl) z2 ((RdF.rf.tr a1.r).tr f2) g2 s2)
set_option maxRecDepth 10000 in
theorem x_readLine_3 {I : Nat → Nat → Int32} {J : Nat → Nat → Int64} {F : Nat → Nat → Option Nat} {nc ns : Nat} {T : Nat → Nat} {n o : Nat} {S : pZ} (ho : isO o) (hF : RFok F) (hdF : F 3 0 = some o) (ht : txC T n I J) (hc : cS T n o S I J) (hz : zF S = 0) (hD : WFc (zD S)) (h19 : ∀ k, k = 0 ∨ k = 2 ∨ k = 5 → dN (zD S) k < rmN k → zC S < 19) (hq : tQ T n (zP S) = 3) : Ew 5 mX7_readLine 0 [.ref 3, .null, .null] [] ((SH, nc, ns), I, J, F) (RdP nc ns T n o I J F (pLn T n 3 S)) := by
  obtain ⟨b0, b1, b2, b3, b4, b5, b6⟩ := hD.2
  by_cases ht0 : zD S 0 0 ≤ 0
  · skip
    refine we_aload_n (p := 1) dX7_readLine_0 rfl rfl ?_
    refine wf_getI (c := 7) (j := 13) (n := 16) (v := 3) (p := 4) dX7_readLine_1 rfl rfl (by decide) (by decide) (Or.inl rfl) (hc.1.2.2.2.1.trans hq) rfl ?_
    refine we_istore_n (ls1 := [.ref 3, .int 3, .null]) (p := 5) dX7_readLine_4 rfl rfl ?_
    refine we_iload_n (p := 6) dX7_readLine_5 rfl rfl ?_
    refine we_if_lt (t := 15) (p := 9) dX7_readLine_6 (by decide) rfl rfl (fun hc6 => absurd hc6 (by decide)) (fun hc6 => ?_)
    refine we_iload_n (p := 10) dX7_readLine_9 rfl rfl ?_
    refine we_bipush (v := 7) (p := 12) dX7_readLine_10 (by decide) rfl ?_
    refine we_icmp_le (t := 21) (p := 15) dX7_readLine_12 (by decide) rfl rfl (fun hc12 => ?_) (fun hc12 => absurd (by decide) hc12)
    refine we_iload_n (p := 22) dX7_readLine_21 rfl rfl ?_
    refine we_bipush (v := 7) (p := 24) dX7_readLine_22 (by decide) rfl ?_
    refine we_icmp_ne (t := 32) (p := 27) dX7_readLine_24 (by decide) rfl rfl (fun hc24 => ?_) (fun hc24 => absurd hc24 (by decide))
    refine we_aload_n (p := 33) dX7_readLine_32 rfl rfl ?_
    refine we_getR (c := 7) (j := 0) (n := 16) (b := o) (p := 36) dX7_readLine_33 rfl rfl (by decide) (by decide) rfl hdF rfl ?_
    refine we_callV_int (p := 39) (k' := 0) (a := [.ref o]) (rr := []) dX7_readLine_36 rfl rfl rfl rfl (rc_of rfl (s_o ho) (l_o0 ho) ⟨rfl, by decide⟩) (Nat.le_of_ble_eq_true rfl) (Nat.le_of_ble_eq_true rfl) (by decide) (Ev.i (if_pos ht0) (x_isToldE ho hF hc.2.2.2.2.2.2)) (Or.inl rfl) rfl ?_
    refine we_if_ne (t := 49) (p := 42) dX7_readLine_39 (by decide) rfl rfl (fun hc39 => absurd (by decide) hc39) (fun hc39 => ?_)
    refine we_aload_n (p := 43) dX7_readLine_42 rfl rfl ?_
    refine we_bipush (v := 6) (p := 45) dX7_readLine_43 (by decide) rfl ?_
    refine we_callV_int (p := 48) (k' := 0) (a := [.ref 3, .int 6]) (rr := []) dX7_readLine_45 rfl rfl rfl rfl (rc_of rfl rfl (by decide) ⟨rfl, by decide⟩) (Nat.le_of_ble_eq_true rfl) (Nat.le_of_ble_eq_true rfl) (by decide) x_fails (Or.inl rfl) rfl ?_
    exact wi_ret dX7_readLine_48 rfl (by decide) (by decide) (RdP.no (X := S) (k := 6) (by
      unfold pLn
      rw [if_neg (by decide), if_pos ht0]) (by decide) (RdF.rf.u3 (by decide)) hu_eq ((hu_nj (by decide)).trans hc.1.2.1))
  · by_cases hrm : rmN 3 ≤ dN (zD S) 3
    · have hrm1 : 8 ≤ dN (zD S) 3 := hrm
      refine we_aload_n (p := 1) dX7_readLine_0 rfl rfl ?_
      refine wf_getI (c := 7) (j := 13) (n := 16) (v := 3) (p := 4) dX7_readLine_1 rfl rfl (by decide) (by decide) (Or.inl rfl) (hc.1.2.2.2.1.trans hq) rfl ?_
      refine we_istore_n (ls1 := [.ref 3, .int 3, .null]) (p := 5) dX7_readLine_4 rfl rfl ?_
      refine we_iload_n (p := 6) dX7_readLine_5 rfl rfl ?_
      refine we_if_lt (t := 15) (p := 9) dX7_readLine_6 (by decide) rfl rfl (fun hc6 => absurd hc6 (by decide)) (fun hc6 => ?_)
      refine we_iload_n (p := 10) dX7_readLine_9 rfl rfl ?_
      refine we_bipush (v := 7) (p := 12) dX7_readLine_10 (by decide) rfl ?_
      refine we_icmp_le (t := 21) (p := 15) dX7_readLine_12 (by decide) rfl rfl (fun hc12 => ?_) (fun hc12 => absurd (by decide) hc12)
      refine we_iload_n (p := 22) dX7_readLine_21 rfl rfl ?_
      refine we_bipush (v := 7) (p := 24) dX7_readLine_22 (by decide) rfl ?_
      refine we_icmp_ne (t := 32) (p := 27) dX7_readLine_24 (by decide) rfl rfl (fun hc24 => ?_) (fun hc24 => absurd hc24 (by decide))
      refine we_aload_n (p := 33) dX7_readLine_32 rfl rfl ?_
      refine we_getR (c := 7) (j := 0) (n := 16) (b := o) (p := 36) dX7_readLine_33 rfl rfl (by decide) (by decide) rfl hdF rfl ?_
      refine we_callV_int (p := 39) (k' := 0) (a := [.ref o]) (rr := []) dX7_readLine_36 rfl rfl rfl rfl (rc_of rfl (s_o ho) (l_o0 ho) ⟨rfl, by decide⟩) (Nat.le_of_ble_eq_true rfl) (Nat.le_of_ble_eq_true rfl) (by decide) (Ev.i (if_neg ht0) (x_isToldE ho hF hc.2.2.2.2.2.2)) (Or.inl rfl) rfl ?_
      refine we_if_ne (t := 49) (p := 42) dX7_readLine_39 (by decide) rfl rfl (fun hc39 => ?_) (fun hc39 => absurd hc39 (by decide))
      refine we_aload_n (p := 50) dX7_readLine_49 rfl rfl ?_
      refine we_getR (c := 7) (j := 0) (n := 16) (b := o) (p := 53) dX7_readLine_50 rfl rfl (by decide) (by decide) rfl hdF rfl ?_
      refine we_getR (c := 4) (j := 2) (n := 18) (b := (o + 1)) (p := 56) dX7_readLine_53 rfl (s_o ho) (l_o0 ho) (by decide) rfl (r_o2 hF ho) rfl ?_
      refine we_iload_n (p := 57) dX7_readLine_56 rfl rfl ?_
      refine wf_iald (n := 7) (i := 3) (v := nI (dN (zD S) 3)) (p := 58) dX7_readLine_57 (s_o1 ho) (l_o ho 1 (by decide)) (by decide) (by decide) ((congrFun (hc.2.2.2.2.2.2.2.2 2 (by decide) (by decide)) 3).trans (hD.1 3 (by decide))) rfl ?_
      refine we_istore_n (ls1 := [.ref 3, .int 3, .int (nI (dN (zD S) 3))]) (p := 59) dX7_readLine_58 rfl rfl ?_
      refine we_iload_n (p := 60) dX7_readLine_59 rfl rfl ?_
      refine we_statR (p := 63) dX7_readLine_60 rfl rfl ?_
      refine we_iload_n (p := 64) dX7_readLine_63 rfl rfl ?_
      refine wf_room (v := 8) (p := 65) dX7_readLine_64 (by decide) (by decide) rfl ?_
      refine we_icmp_lt (t := 74) (p := 68) dX7_readLine_65 (by decide) rfl rfl (fun hc65 => absurd hc65 (nI_nlt (a := dN (zD S) 3) (b := 8) (by omega) (by omega))) (fun hc65 => ?_)
      refine we_aload_n (p := 69) dX7_readLine_68 rfl rfl ?_
      refine we_iconst (v := 5) (p := 70) dX7_readLine_69 (by decide) rfl ?_
      refine we_callV_int (p := 73) (k' := 0) (a := [.ref 3, .int 5]) (rr := []) dX7_readLine_70 rfl rfl rfl rfl (rc_of rfl rfl (by decide) ⟨rfl, by decide⟩) (Nat.le_of_ble_eq_true rfl) (Nat.le_of_ble_eq_true rfl) (by decide) x_fails (Or.inl rfl) rfl ?_
      exact wi_ret dX7_readLine_73 rfl (by decide) (by decide) (RdP.no (X := S) (k := 5) (by
      unfold pLn
      rw [if_neg (by decide), if_neg ht0, if_pos hrm]) (by decide) (RdF.rf.u3 (by decide)) hu_eq ((hu_nj (by decide)).trans hc.1.2.1))
    · have hrm0 := hrm
      replace hrm : dN (zD S) 3 < rmN 3 := Nat.lt_of_not_le hrm
      have hrm1 : dN (zD S) 3 < 8 := hrm
      refine we_aload_n (p := 1) dX7_readLine_0 rfl rfl ?_
      refine wf_getI (c := 7) (j := 13) (n := 16) (v := 3) (p := 4) dX7_readLine_1 rfl rfl (by decide) (by decide) (Or.inl rfl) (hc.1.2.2.2.1.trans hq) rfl ?_
      refine we_istore_n (ls1 := [.ref 3, .int 3, .null]) (p := 5) dX7_readLine_4 rfl rfl ?_
      refine we_iload_n (p := 6) dX7_readLine_5 rfl rfl ?_
      refine we_if_lt (t := 15) (p := 9) dX7_readLine_6 (by decide) rfl rfl (fun hc6 => absurd hc6 (by decide)) (fun hc6 => ?_)
      refine we_iload_n (p := 10) dX7_readLine_9 rfl rfl ?_
      refine we_bipush (v := 7) (p := 12) dX7_readLine_10 (by decide) rfl ?_
      refine we_icmp_le (t := 21) (p := 15) dX7_readLine_12 (by decide) rfl rfl (fun hc12 => ?_) (fun hc12 => absurd (by decide) hc12)
      refine we_iload_n (p := 22) dX7_readLine_21 rfl rfl ?_
      refine we_bipush (v := 7) (p := 24) dX7_readLine_22 (by decide) rfl ?_
      refine we_icmp_ne (t := 32) (p := 27) dX7_readLine_24 (by decide) rfl rfl (fun hc24 => ?_) (fun hc24 => absurd hc24 (by decide))
      refine we_aload_n (p := 33) dX7_readLine_32 rfl rfl ?_
      refine we_getR (c := 7) (j := 0) (n := 16) (b := o) (p := 36) dX7_readLine_33 rfl rfl (by decide) (by decide) rfl hdF rfl ?_
      refine we_callV_int (p := 39) (k' := 0) (a := [.ref o]) (rr := []) dX7_readLine_36 rfl rfl rfl rfl (rc_of rfl (s_o ho) (l_o0 ho) ⟨rfl, by decide⟩) (Nat.le_of_ble_eq_true rfl) (Nat.le_of_ble_eq_true rfl) (by decide) (Ev.i (if_neg ht0) (x_isToldE ho hF hc.2.2.2.2.2.2)) (Or.inl rfl) rfl ?_
      refine we_if_ne (t := 49) (p := 42) dX7_readLine_39 (by decide) rfl rfl (fun hc39 => ?_) (fun hc39 => absurd hc39 (by decide))
      refine we_aload_n (p := 50) dX7_readLine_49 rfl rfl ?_
      refine we_getR (c := 7) (j := 0) (n := 16) (b := o) (p := 53) dX7_readLine_50 rfl rfl (by decide) (by decide) rfl hdF rfl ?_
      refine we_getR (c := 4) (j := 2) (n := 18) (b := (o + 1)) (p := 56) dX7_readLine_53 rfl (s_o ho) (l_o0 ho) (by decide) rfl (r_o2 hF ho) rfl ?_
      refine we_iload_n (p := 57) dX7_readLine_56 rfl rfl ?_
      refine wf_iald (n := 7) (i := 3) (v := nI (dN (zD S) 3)) (p := 58) dX7_readLine_57 (s_o1 ho) (l_o ho 1 (by decide)) (by decide) (by decide) ((congrFun (hc.2.2.2.2.2.2.2.2 2 (by decide) (by decide)) 3).trans (hD.1 3 (by decide))) rfl ?_
      refine we_istore_n (ls1 := [.ref 3, .int 3, .int (nI (dN (zD S) 3))]) (p := 59) dX7_readLine_58 rfl rfl ?_
      refine we_iload_n (p := 60) dX7_readLine_59 rfl rfl ?_
      refine we_statR (p := 63) dX7_readLine_60 rfl rfl ?_
      refine we_iload_n (p := 64) dX7_readLine_63 rfl rfl ?_
      refine wf_room (v := 8) (p := 65) dX7_readLine_64 (by decide) (by decide) rfl ?_
      refine we_icmp_lt (t := 74) (p := 68) dX7_readLine_65 (by decide) rfl rfl (fun hc65 => ?_) (fun hc65 => absurd (nI_lt (a := dN (zD S) 3) (b := 8) (by omega) (by omega)) hc65)
      refine we_aload_n (p := 75) dX7_readLine_74 rfl rfl ?_
      obtain ⟨_, _, e1, rfl, I1, J1, F1, rfl, ⟨rfl, a1, r1⟩⟩ := x_advance (I := I) hF ht (tE_le hc.2.1).1 hc.1.1
      refine we_callV_v (p := 78) (k' := 2) (a := [.ref 3]) (rr := []) dX7_readLine_75 rfl rfl rfl rfl (rc_of rfl rfl (by decide) ⟨rfl, by decide⟩) (Nat.le_of_ble_eq_true rfl) (Nat.le_of_ble_eq_true rfl) (by decide) e1 (Or.inl rfl) rfl ?_
      refine we_iload_n (p := 79) dX7_readLine_78 rfl rfl ?_
      refine we_swIn (p := 133) dX7_readLine_79 (by decide) rfl (by decide) rfl ?_
      refine we_aload_n (p := 134) dX7_readLine_133 rfl rfl ?_
      refine we_iload_n (p := 135) dX7_readLine_134 rfl rfl ?_
      obtain ⟨_, _, e2, I2, J2, rfl, f2, ⟨z2, rfl, c2⟩ | ⟨z2, rfl, g2, s2⟩⟩ := x_readRival (row := dN (zD S) 3) ho hF hdF (ht.av a1) (hc.av ho a1 r1) hz (by omega)
      · skip
        refine we_callV_int (p := 138) (k' := 4) (a := [.ref 3, .int (nI (dN (zD S) 3))]) (rr := []) dX7_readLine_135 rfl rfl rfl rfl (rc_of rfl rfl (by decide) ⟨rfl, by decide⟩) (Nat.le_of_ble_eq_true rfl) (Nat.le_of_ble_eq_true rfl) (by decide) e2 (Or.inl rfl) rfl ?_
        exact wi_ret dX7_readLine_138 rfl (by decide) (by decide) (RdP.ok (by
      unfold pLn
      rw [if_neg (by decide), if_neg ht0, if_neg hrm0]
      rfl) z2 ((RdF.rf.tr a1.r).tr f2) c2)
      · skip
        refine we_callV_int (p := 138) (k' := 4) (a := [.ref 3, .int (nI (dN (zD S) 3))]) (rr := []) dX7_readLine_135 rfl rfl rfl rfl (rc_of rfl rfl (by decide) ⟨rfl, by decide⟩) (Nat.le_of_ble_eq_true rfl) (Nat.le_of_ble_eq_true rfl) (by decide) e2 (Or.inl rfl) rfl ?_
        exact wi_ret dX7_readLine_138 rfl (by decide) (by decide) (RdP.go (by
      unfold pLn
      rw [if_neg (by decide), if_neg ht0, if_neg hrm0]
      rfl) z2 ((RdF.rf.tr a1.r).tr f2) g2 s2)
set_option maxRecDepth 10000 in
theorem x_readLine_4 {I : Nat → Nat → Int32} {J : Nat → Nat → Int64} {F : Nat → Nat → Option Nat} {nc ns : Nat} {T : Nat → Nat} {n o : Nat} {S : pZ} (ho : isO o) (hF : RFok F) (hdF : F 3 0 = some o) (ht : txC T n I J) (hc : cS T n o S I J) (hz : zF S = 0) (hD : WFc (zD S)) (h19 : ∀ k, k = 0 ∨ k = 2 ∨ k = 5 → dN (zD S) k < rmN k → zC S < 19) (hq : tQ T n (zP S) = 4) : Ew 5 mX7_readLine 0 [.ref 3, .null, .null] [] ((SH, nc, ns), I, J, F) (RdP nc ns T n o I J F (pLn T n 4 S)) := by
  obtain ⟨b0, b1, b2, b3, b4, b5, b6⟩ := hD.2
  by_cases ht0 : zD S 0 0 ≤ 0
  · skip
    refine we_aload_n (p := 1) dX7_readLine_0 rfl rfl ?_
    refine wf_getI (c := 7) (j := 13) (n := 16) (v := 4) (p := 4) dX7_readLine_1 rfl rfl (by decide) (by decide) (Or.inl rfl) (hc.1.2.2.2.1.trans hq) rfl ?_
    refine we_istore_n (ls1 := [.ref 3, .int 4, .null]) (p := 5) dX7_readLine_4 rfl rfl ?_
    refine we_iload_n (p := 6) dX7_readLine_5 rfl rfl ?_
    refine we_if_lt (t := 15) (p := 9) dX7_readLine_6 (by decide) rfl rfl (fun hc6 => absurd hc6 (by decide)) (fun hc6 => ?_)
    refine we_iload_n (p := 10) dX7_readLine_9 rfl rfl ?_
    refine we_bipush (v := 7) (p := 12) dX7_readLine_10 (by decide) rfl ?_
    refine we_icmp_le (t := 21) (p := 15) dX7_readLine_12 (by decide) rfl rfl (fun hc12 => ?_) (fun hc12 => absurd (by decide) hc12)
    refine we_iload_n (p := 22) dX7_readLine_21 rfl rfl ?_
    refine we_bipush (v := 7) (p := 24) dX7_readLine_22 (by decide) rfl ?_
    refine we_icmp_ne (t := 32) (p := 27) dX7_readLine_24 (by decide) rfl rfl (fun hc24 => ?_) (fun hc24 => absurd hc24 (by decide))
    refine we_aload_n (p := 33) dX7_readLine_32 rfl rfl ?_
    refine we_getR (c := 7) (j := 0) (n := 16) (b := o) (p := 36) dX7_readLine_33 rfl rfl (by decide) (by decide) rfl hdF rfl ?_
    refine we_callV_int (p := 39) (k' := 0) (a := [.ref o]) (rr := []) dX7_readLine_36 rfl rfl rfl rfl (rc_of rfl (s_o ho) (l_o0 ho) ⟨rfl, by decide⟩) (Nat.le_of_ble_eq_true rfl) (Nat.le_of_ble_eq_true rfl) (by decide) (Ev.i (if_pos ht0) (x_isToldE ho hF hc.2.2.2.2.2.2)) (Or.inl rfl) rfl ?_
    refine we_if_ne (t := 49) (p := 42) dX7_readLine_39 (by decide) rfl rfl (fun hc39 => absurd (by decide) hc39) (fun hc39 => ?_)
    refine we_aload_n (p := 43) dX7_readLine_42 rfl rfl ?_
    refine we_bipush (v := 6) (p := 45) dX7_readLine_43 (by decide) rfl ?_
    refine we_callV_int (p := 48) (k' := 0) (a := [.ref 3, .int 6]) (rr := []) dX7_readLine_45 rfl rfl rfl rfl (rc_of rfl rfl (by decide) ⟨rfl, by decide⟩) (Nat.le_of_ble_eq_true rfl) (Nat.le_of_ble_eq_true rfl) (by decide) x_fails (Or.inl rfl) rfl ?_
    exact wi_ret dX7_readLine_48 rfl (by decide) (by decide) (RdP.no (X := S) (k := 6) (by
      unfold pLn
      rw [if_neg (by decide), if_pos ht0]) (by decide) (RdF.rf.u3 (by decide)) hu_eq ((hu_nj (by decide)).trans hc.1.2.1))
  · by_cases hrm : rmN 4 ≤ dN (zD S) 4
    · have hrm1 : 6 ≤ dN (zD S) 4 := hrm
      refine we_aload_n (p := 1) dX7_readLine_0 rfl rfl ?_
      refine wf_getI (c := 7) (j := 13) (n := 16) (v := 4) (p := 4) dX7_readLine_1 rfl rfl (by decide) (by decide) (Or.inl rfl) (hc.1.2.2.2.1.trans hq) rfl ?_
      refine we_istore_n (ls1 := [.ref 3, .int 4, .null]) (p := 5) dX7_readLine_4 rfl rfl ?_
      refine we_iload_n (p := 6) dX7_readLine_5 rfl rfl ?_
      refine we_if_lt (t := 15) (p := 9) dX7_readLine_6 (by decide) rfl rfl (fun hc6 => absurd hc6 (by decide)) (fun hc6 => ?_)
      refine we_iload_n (p := 10) dX7_readLine_9 rfl rfl ?_
      refine we_bipush (v := 7) (p := 12) dX7_readLine_10 (by decide) rfl ?_
      refine we_icmp_le (t := 21) (p := 15) dX7_readLine_12 (by decide) rfl rfl (fun hc12 => ?_) (fun hc12 => absurd (by decide) hc12)
      refine we_iload_n (p := 22) dX7_readLine_21 rfl rfl ?_
      refine we_bipush (v := 7) (p := 24) dX7_readLine_22 (by decide) rfl ?_
      refine we_icmp_ne (t := 32) (p := 27) dX7_readLine_24 (by decide) rfl rfl (fun hc24 => ?_) (fun hc24 => absurd hc24 (by decide))
      refine we_aload_n (p := 33) dX7_readLine_32 rfl rfl ?_
      refine we_getR (c := 7) (j := 0) (n := 16) (b := o) (p := 36) dX7_readLine_33 rfl rfl (by decide) (by decide) rfl hdF rfl ?_
      refine we_callV_int (p := 39) (k' := 0) (a := [.ref o]) (rr := []) dX7_readLine_36 rfl rfl rfl rfl (rc_of rfl (s_o ho) (l_o0 ho) ⟨rfl, by decide⟩) (Nat.le_of_ble_eq_true rfl) (Nat.le_of_ble_eq_true rfl) (by decide) (Ev.i (if_neg ht0) (x_isToldE ho hF hc.2.2.2.2.2.2)) (Or.inl rfl) rfl ?_
      refine we_if_ne (t := 49) (p := 42) dX7_readLine_39 (by decide) rfl rfl (fun hc39 => ?_) (fun hc39 => absurd hc39 (by decide))
      refine we_aload_n (p := 50) dX7_readLine_49 rfl rfl ?_
      refine we_getR (c := 7) (j := 0) (n := 16) (b := o) (p := 53) dX7_readLine_50 rfl rfl (by decide) (by decide) rfl hdF rfl ?_
      refine we_getR (c := 4) (j := 2) (n := 18) (b := (o + 1)) (p := 56) dX7_readLine_53 rfl (s_o ho) (l_o0 ho) (by decide) rfl (r_o2 hF ho) rfl ?_
      refine we_iload_n (p := 57) dX7_readLine_56 rfl rfl ?_
      refine wf_iald (n := 7) (i := 4) (v := nI (dN (zD S) 4)) (p := 58) dX7_readLine_57 (s_o1 ho) (l_o ho 1 (by decide)) (by decide) (by decide) ((congrFun (hc.2.2.2.2.2.2.2.2 2 (by decide) (by decide)) 4).trans (hD.1 4 (by decide))) rfl ?_
      refine we_istore_n (ls1 := [.ref 3, .int 4, .int (nI (dN (zD S) 4))]) (p := 59) dX7_readLine_58 rfl rfl ?_
      refine we_iload_n (p := 60) dX7_readLine_59 rfl rfl ?_
      refine we_statR (p := 63) dX7_readLine_60 rfl rfl ?_
      refine we_iload_n (p := 64) dX7_readLine_63 rfl rfl ?_
      refine wf_room (v := 6) (p := 65) dX7_readLine_64 (by decide) (by decide) rfl ?_
      refine we_icmp_lt (t := 74) (p := 68) dX7_readLine_65 (by decide) rfl rfl (fun hc65 => absurd hc65 (nI_nlt (a := dN (zD S) 4) (b := 6) (by omega) (by omega))) (fun hc65 => ?_)
      refine we_aload_n (p := 69) dX7_readLine_68 rfl rfl ?_
      refine we_iconst (v := 5) (p := 70) dX7_readLine_69 (by decide) rfl ?_
      refine we_callV_int (p := 73) (k' := 0) (a := [.ref 3, .int 5]) (rr := []) dX7_readLine_70 rfl rfl rfl rfl (rc_of rfl rfl (by decide) ⟨rfl, by decide⟩) (Nat.le_of_ble_eq_true rfl) (Nat.le_of_ble_eq_true rfl) (by decide) x_fails (Or.inl rfl) rfl ?_
      exact wi_ret dX7_readLine_73 rfl (by decide) (by decide) (RdP.no (X := S) (k := 5) (by
      unfold pLn
      rw [if_neg (by decide), if_neg ht0, if_pos hrm]) (by decide) (RdF.rf.u3 (by decide)) hu_eq ((hu_nj (by decide)).trans hc.1.2.1))
    · have hrm0 := hrm
      replace hrm : dN (zD S) 4 < rmN 4 := Nat.lt_of_not_le hrm
      have hrm1 : dN (zD S) 4 < 6 := hrm
      refine we_aload_n (p := 1) dX7_readLine_0 rfl rfl ?_
      refine wf_getI (c := 7) (j := 13) (n := 16) (v := 4) (p := 4) dX7_readLine_1 rfl rfl (by decide) (by decide) (Or.inl rfl) (hc.1.2.2.2.1.trans hq) rfl ?_
      refine we_istore_n (ls1 := [.ref 3, .int 4, .null]) (p := 5) dX7_readLine_4 rfl rfl ?_
      refine we_iload_n (p := 6) dX7_readLine_5 rfl rfl ?_
      refine we_if_lt (t := 15) (p := 9) dX7_readLine_6 (by decide) rfl rfl (fun hc6 => absurd hc6 (by decide)) (fun hc6 => ?_)
      refine we_iload_n (p := 10) dX7_readLine_9 rfl rfl ?_
      refine we_bipush (v := 7) (p := 12) dX7_readLine_10 (by decide) rfl ?_
      refine we_icmp_le (t := 21) (p := 15) dX7_readLine_12 (by decide) rfl rfl (fun hc12 => ?_) (fun hc12 => absurd (by decide) hc12)
      refine we_iload_n (p := 22) dX7_readLine_21 rfl rfl ?_
      refine we_bipush (v := 7) (p := 24) dX7_readLine_22 (by decide) rfl ?_
      refine we_icmp_ne (t := 32) (p := 27) dX7_readLine_24 (by decide) rfl rfl (fun hc24 => ?_) (fun hc24 => absurd hc24 (by decide))
      refine we_aload_n (p := 33) dX7_readLine_32 rfl rfl ?_
      refine we_getR (c := 7) (j := 0) (n := 16) (b := o) (p := 36) dX7_readLine_33 rfl rfl (by decide) (by decide) rfl hdF rfl ?_
      refine we_callV_int (p := 39) (k' := 0) (a := [.ref o]) (rr := []) dX7_readLine_36 rfl rfl rfl rfl (rc_of rfl (s_o ho) (l_o0 ho) ⟨rfl, by decide⟩) (Nat.le_of_ble_eq_true rfl) (Nat.le_of_ble_eq_true rfl) (by decide) (Ev.i (if_neg ht0) (x_isToldE ho hF hc.2.2.2.2.2.2)) (Or.inl rfl) rfl ?_
      refine we_if_ne (t := 49) (p := 42) dX7_readLine_39 (by decide) rfl rfl (fun hc39 => ?_) (fun hc39 => absurd hc39 (by decide))
      refine we_aload_n (p := 50) dX7_readLine_49 rfl rfl ?_
      refine we_getR (c := 7) (j := 0) (n := 16) (b := o) (p := 53) dX7_readLine_50 rfl rfl (by decide) (by decide) rfl hdF rfl ?_
      refine we_getR (c := 4) (j := 2) (n := 18) (b := (o + 1)) (p := 56) dX7_readLine_53 rfl (s_o ho) (l_o0 ho) (by decide) rfl (r_o2 hF ho) rfl ?_
      refine we_iload_n (p := 57) dX7_readLine_56 rfl rfl ?_
      refine wf_iald (n := 7) (i := 4) (v := nI (dN (zD S) 4)) (p := 58) dX7_readLine_57 (s_o1 ho) (l_o ho 1 (by decide)) (by decide) (by decide) ((congrFun (hc.2.2.2.2.2.2.2.2 2 (by decide) (by decide)) 4).trans (hD.1 4 (by decide))) rfl ?_
      refine we_istore_n (ls1 := [.ref 3, .int 4, .int (nI (dN (zD S) 4))]) (p := 59) dX7_readLine_58 rfl rfl ?_
      refine we_iload_n (p := 60) dX7_readLine_59 rfl rfl ?_
      refine we_statR (p := 63) dX7_readLine_60 rfl rfl ?_
      refine we_iload_n (p := 64) dX7_readLine_63 rfl rfl ?_
      refine wf_room (v := 6) (p := 65) dX7_readLine_64 (by decide) (by decide) rfl ?_
      refine we_icmp_lt (t := 74) (p := 68) dX7_readLine_65 (by decide) rfl rfl (fun hc65 => ?_) (fun hc65 => absurd (nI_lt (a := dN (zD S) 4) (b := 6) (by omega) (by omega)) hc65)
      refine we_aload_n (p := 75) dX7_readLine_74 rfl rfl ?_
      obtain ⟨_, _, e1, rfl, I1, J1, F1, rfl, ⟨rfl, a1, r1⟩⟩ := x_advance (I := I) hF ht (tE_le hc.2.1).1 hc.1.1
      refine we_callV_v (p := 78) (k' := 2) (a := [.ref 3]) (rr := []) dX7_readLine_75 rfl rfl rfl rfl (rc_of rfl rfl (by decide) ⟨rfl, by decide⟩) (Nat.le_of_ble_eq_true rfl) (Nat.le_of_ble_eq_true rfl) (by decide) e1 (Or.inl rfl) rfl ?_
      refine we_iload_n (p := 79) dX7_readLine_78 rfl rfl ?_
      refine we_swIn (p := 139) dX7_readLine_79 (by decide) rfl (by decide) rfl ?_
      refine we_aload_n (p := 140) dX7_readLine_139 rfl rfl ?_
      refine we_iload_n (p := 141) dX7_readLine_140 rfl rfl ?_
      obtain ⟨_, _, e2, I2, J2, rfl, f2, ⟨z2, rfl, c2⟩ | ⟨z2, rfl, g2, s2⟩⟩ := x_readLetter (row := dN (zD S) 4) ho hF hdF (ht.av a1) (hc.av ho a1 r1) hz (by omega)
      · skip
        refine we_callV_int (p := 144) (k' := 4) (a := [.ref 3, .int (nI (dN (zD S) 4))]) (rr := []) dX7_readLine_141 rfl rfl rfl rfl (rc_of rfl rfl (by decide) ⟨rfl, by decide⟩) (Nat.le_of_ble_eq_true rfl) (Nat.le_of_ble_eq_true rfl) (by decide) e2 (Or.inl rfl) rfl ?_
        exact wi_ret dX7_readLine_144 rfl (by decide) (by decide) (RdP.ok (by
      unfold pLn
      rw [if_neg (by decide), if_neg ht0, if_neg hrm0]
      rfl) z2 ((RdF.rf.tr a1.r).tr f2) c2)
      · skip
        refine we_callV_int (p := 144) (k' := 4) (a := [.ref 3, .int (nI (dN (zD S) 4))]) (rr := []) dX7_readLine_141 rfl rfl rfl rfl (rc_of rfl rfl (by decide) ⟨rfl, by decide⟩) (Nat.le_of_ble_eq_true rfl) (Nat.le_of_ble_eq_true rfl) (by decide) e2 (Or.inl rfl) rfl ?_
        exact wi_ret dX7_readLine_144 rfl (by decide) (by decide) (RdP.go (by
      unfold pLn
      rw [if_neg (by decide), if_neg ht0, if_neg hrm0]
      rfl) z2 ((RdF.rf.tr a1.r).tr f2) g2 s2)
set_option maxRecDepth 10000 in
theorem x_readLine_5 {I : Nat → Nat → Int32} {J : Nat → Nat → Int64} {F : Nat → Nat → Option Nat} {nc ns : Nat} {T : Nat → Nat} {n o : Nat} {S : pZ} (ho : isO o) (hF : RFok F) (hdF : F 3 0 = some o) (ht : txC T n I J) (hc : cS T n o S I J) (hz : zF S = 0) (hD : WFc (zD S)) (h19 : ∀ k, k = 0 ∨ k = 2 ∨ k = 5 → dN (zD S) k < rmN k → zC S < 19) (hq : tQ T n (zP S) = 5) : Ew 5 mX7_readLine 0 [.ref 3, .null, .null] [] ((SH, nc, ns), I, J, F) (RdP nc ns T n o I J F (pLn T n 5 S)) := by
  obtain ⟨b0, b1, b2, b3, b4, b5, b6⟩ := hD.2
  by_cases ht0 : zD S 0 0 ≤ 0
  · skip
    refine we_aload_n (p := 1) dX7_readLine_0 rfl rfl ?_
    refine wf_getI (c := 7) (j := 13) (n := 16) (v := 5) (p := 4) dX7_readLine_1 rfl rfl (by decide) (by decide) (Or.inl rfl) (hc.1.2.2.2.1.trans hq) rfl ?_
    refine we_istore_n (ls1 := [.ref 3, .int 5, .null]) (p := 5) dX7_readLine_4 rfl rfl ?_
    refine we_iload_n (p := 6) dX7_readLine_5 rfl rfl ?_
    refine we_if_lt (t := 15) (p := 9) dX7_readLine_6 (by decide) rfl rfl (fun hc6 => absurd hc6 (by decide)) (fun hc6 => ?_)
    refine we_iload_n (p := 10) dX7_readLine_9 rfl rfl ?_
    refine we_bipush (v := 7) (p := 12) dX7_readLine_10 (by decide) rfl ?_
    refine we_icmp_le (t := 21) (p := 15) dX7_readLine_12 (by decide) rfl rfl (fun hc12 => ?_) (fun hc12 => absurd (by decide) hc12)
    refine we_iload_n (p := 22) dX7_readLine_21 rfl rfl ?_
    refine we_bipush (v := 7) (p := 24) dX7_readLine_22 (by decide) rfl ?_
    refine we_icmp_ne (t := 32) (p := 27) dX7_readLine_24 (by decide) rfl rfl (fun hc24 => ?_) (fun hc24 => absurd hc24 (by decide))
    refine we_aload_n (p := 33) dX7_readLine_32 rfl rfl ?_
    refine we_getR (c := 7) (j := 0) (n := 16) (b := o) (p := 36) dX7_readLine_33 rfl rfl (by decide) (by decide) rfl hdF rfl ?_
    refine we_callV_int (p := 39) (k' := 0) (a := [.ref o]) (rr := []) dX7_readLine_36 rfl rfl rfl rfl (rc_of rfl (s_o ho) (l_o0 ho) ⟨rfl, by decide⟩) (Nat.le_of_ble_eq_true rfl) (Nat.le_of_ble_eq_true rfl) (by decide) (Ev.i (if_pos ht0) (x_isToldE ho hF hc.2.2.2.2.2.2)) (Or.inl rfl) rfl ?_
    refine we_if_ne (t := 49) (p := 42) dX7_readLine_39 (by decide) rfl rfl (fun hc39 => absurd (by decide) hc39) (fun hc39 => ?_)
    refine we_aload_n (p := 43) dX7_readLine_42 rfl rfl ?_
    refine we_bipush (v := 6) (p := 45) dX7_readLine_43 (by decide) rfl ?_
    refine we_callV_int (p := 48) (k' := 0) (a := [.ref 3, .int 6]) (rr := []) dX7_readLine_45 rfl rfl rfl rfl (rc_of rfl rfl (by decide) ⟨rfl, by decide⟩) (Nat.le_of_ble_eq_true rfl) (Nat.le_of_ble_eq_true rfl) (by decide) x_fails (Or.inl rfl) rfl ?_
    exact wi_ret dX7_readLine_48 rfl (by decide) (by decide) (RdP.no (X := S) (k := 6) (by
      unfold pLn
      rw [if_neg (by decide), if_pos ht0]) (by decide) (RdF.rf.u3 (by decide)) hu_eq ((hu_nj (by decide)).trans hc.1.2.1))
  · by_cases hrm : rmN 5 ≤ dN (zD S) 5
    · have hrm1 : 5 ≤ dN (zD S) 5 := hrm
      refine we_aload_n (p := 1) dX7_readLine_0 rfl rfl ?_
      refine wf_getI (c := 7) (j := 13) (n := 16) (v := 5) (p := 4) dX7_readLine_1 rfl rfl (by decide) (by decide) (Or.inl rfl) (hc.1.2.2.2.1.trans hq) rfl ?_
      refine we_istore_n (ls1 := [.ref 3, .int 5, .null]) (p := 5) dX7_readLine_4 rfl rfl ?_
      refine we_iload_n (p := 6) dX7_readLine_5 rfl rfl ?_
      refine we_if_lt (t := 15) (p := 9) dX7_readLine_6 (by decide) rfl rfl (fun hc6 => absurd hc6 (by decide)) (fun hc6 => ?_)
      refine we_iload_n (p := 10) dX7_readLine_9 rfl rfl ?_
      refine we_bipush (v := 7) (p := 12) dX7_readLine_10 (by decide) rfl ?_
      refine we_icmp_le (t := 21) (p := 15) dX7_readLine_12 (by decide) rfl rfl (fun hc12 => ?_) (fun hc12 => absurd (by decide) hc12)
      refine we_iload_n (p := 22) dX7_readLine_21 rfl rfl ?_
      refine we_bipush (v := 7) (p := 24) dX7_readLine_22 (by decide) rfl ?_
      refine we_icmp_ne (t := 32) (p := 27) dX7_readLine_24 (by decide) rfl rfl (fun hc24 => ?_) (fun hc24 => absurd hc24 (by decide))
      refine we_aload_n (p := 33) dX7_readLine_32 rfl rfl ?_
      refine we_getR (c := 7) (j := 0) (n := 16) (b := o) (p := 36) dX7_readLine_33 rfl rfl (by decide) (by decide) rfl hdF rfl ?_
      refine we_callV_int (p := 39) (k' := 0) (a := [.ref o]) (rr := []) dX7_readLine_36 rfl rfl rfl rfl (rc_of rfl (s_o ho) (l_o0 ho) ⟨rfl, by decide⟩) (Nat.le_of_ble_eq_true rfl) (Nat.le_of_ble_eq_true rfl) (by decide) (Ev.i (if_neg ht0) (x_isToldE ho hF hc.2.2.2.2.2.2)) (Or.inl rfl) rfl ?_
      refine we_if_ne (t := 49) (p := 42) dX7_readLine_39 (by decide) rfl rfl (fun hc39 => ?_) (fun hc39 => absurd hc39 (by decide))
      refine we_aload_n (p := 50) dX7_readLine_49 rfl rfl ?_
      refine we_getR (c := 7) (j := 0) (n := 16) (b := o) (p := 53) dX7_readLine_50 rfl rfl (by decide) (by decide) rfl hdF rfl ?_
      refine we_getR (c := 4) (j := 2) (n := 18) (b := (o + 1)) (p := 56) dX7_readLine_53 rfl (s_o ho) (l_o0 ho) (by decide) rfl (r_o2 hF ho) rfl ?_
      refine we_iload_n (p := 57) dX7_readLine_56 rfl rfl ?_
      refine wf_iald (n := 7) (i := 5) (v := nI (dN (zD S) 5)) (p := 58) dX7_readLine_57 (s_o1 ho) (l_o ho 1 (by decide)) (by decide) (by decide) ((congrFun (hc.2.2.2.2.2.2.2.2 2 (by decide) (by decide)) 5).trans (hD.1 5 (by decide))) rfl ?_
      refine we_istore_n (ls1 := [.ref 3, .int 5, .int (nI (dN (zD S) 5))]) (p := 59) dX7_readLine_58 rfl rfl ?_
      refine we_iload_n (p := 60) dX7_readLine_59 rfl rfl ?_
      refine we_statR (p := 63) dX7_readLine_60 rfl rfl ?_
      refine we_iload_n (p := 64) dX7_readLine_63 rfl rfl ?_
      refine wf_room (v := 5) (p := 65) dX7_readLine_64 (by decide) (by decide) rfl ?_
      refine we_icmp_lt (t := 74) (p := 68) dX7_readLine_65 (by decide) rfl rfl (fun hc65 => absurd hc65 (nI_nlt (a := dN (zD S) 5) (b := 5) (by omega) (by omega))) (fun hc65 => ?_)
      refine we_aload_n (p := 69) dX7_readLine_68 rfl rfl ?_
      refine we_iconst (v := 5) (p := 70) dX7_readLine_69 (by decide) rfl ?_
      refine we_callV_int (p := 73) (k' := 0) (a := [.ref 3, .int 5]) (rr := []) dX7_readLine_70 rfl rfl rfl rfl (rc_of rfl rfl (by decide) ⟨rfl, by decide⟩) (Nat.le_of_ble_eq_true rfl) (Nat.le_of_ble_eq_true rfl) (by decide) x_fails (Or.inl rfl) rfl ?_
      exact wi_ret dX7_readLine_73 rfl (by decide) (by decide) (RdP.no (X := S) (k := 5) (by
      unfold pLn
      rw [if_neg (by decide), if_neg ht0, if_pos hrm]) (by decide) (RdF.rf.u3 (by decide)) hu_eq ((hu_nj (by decide)).trans hc.1.2.1))
    · have hrm0 := hrm
      replace hrm : dN (zD S) 5 < rmN 5 := Nat.lt_of_not_le hrm
      have hrm1 : dN (zD S) 5 < 5 := hrm
      refine we_aload_n (p := 1) dX7_readLine_0 rfl rfl ?_
      refine wf_getI (c := 7) (j := 13) (n := 16) (v := 5) (p := 4) dX7_readLine_1 rfl rfl (by decide) (by decide) (Or.inl rfl) (hc.1.2.2.2.1.trans hq) rfl ?_
      refine we_istore_n (ls1 := [.ref 3, .int 5, .null]) (p := 5) dX7_readLine_4 rfl rfl ?_
      refine we_iload_n (p := 6) dX7_readLine_5 rfl rfl ?_
      refine we_if_lt (t := 15) (p := 9) dX7_readLine_6 (by decide) rfl rfl (fun hc6 => absurd hc6 (by decide)) (fun hc6 => ?_)
      refine we_iload_n (p := 10) dX7_readLine_9 rfl rfl ?_
      refine we_bipush (v := 7) (p := 12) dX7_readLine_10 (by decide) rfl ?_
      refine we_icmp_le (t := 21) (p := 15) dX7_readLine_12 (by decide) rfl rfl (fun hc12 => ?_) (fun hc12 => absurd (by decide) hc12)
      refine we_iload_n (p := 22) dX7_readLine_21 rfl rfl ?_
      refine we_bipush (v := 7) (p := 24) dX7_readLine_22 (by decide) rfl ?_
      refine we_icmp_ne (t := 32) (p := 27) dX7_readLine_24 (by decide) rfl rfl (fun hc24 => ?_) (fun hc24 => absurd hc24 (by decide))
      refine we_aload_n (p := 33) dX7_readLine_32 rfl rfl ?_
      refine we_getR (c := 7) (j := 0) (n := 16) (b := o) (p := 36) dX7_readLine_33 rfl rfl (by decide) (by decide) rfl hdF rfl ?_
      refine we_callV_int (p := 39) (k' := 0) (a := [.ref o]) (rr := []) dX7_readLine_36 rfl rfl rfl rfl (rc_of rfl (s_o ho) (l_o0 ho) ⟨rfl, by decide⟩) (Nat.le_of_ble_eq_true rfl) (Nat.le_of_ble_eq_true rfl) (by decide) (Ev.i (if_neg ht0) (x_isToldE ho hF hc.2.2.2.2.2.2)) (Or.inl rfl) rfl ?_
      refine we_if_ne (t := 49) (p := 42) dX7_readLine_39 (by decide) rfl rfl (fun hc39 => ?_) (fun hc39 => absurd hc39 (by decide))
      refine we_aload_n (p := 50) dX7_readLine_49 rfl rfl ?_
      refine we_getR (c := 7) (j := 0) (n := 16) (b := o) (p := 53) dX7_readLine_50 rfl rfl (by decide) (by decide) rfl hdF rfl ?_
      refine we_getR (c := 4) (j := 2) (n := 18) (b := (o + 1)) (p := 56) dX7_readLine_53 rfl (s_o ho) (l_o0 ho) (by decide) rfl (r_o2 hF ho) rfl ?_
      refine we_iload_n (p := 57) dX7_readLine_56 rfl rfl ?_
      refine wf_iald (n := 7) (i := 5) (v := nI (dN (zD S) 5)) (p := 58) dX7_readLine_57 (s_o1 ho) (l_o ho 1 (by decide)) (by decide) (by decide) ((congrFun (hc.2.2.2.2.2.2.2.2 2 (by decide) (by decide)) 5).trans (hD.1 5 (by decide))) rfl ?_
      refine we_istore_n (ls1 := [.ref 3, .int 5, .int (nI (dN (zD S) 5))]) (p := 59) dX7_readLine_58 rfl rfl ?_
      refine we_iload_n (p := 60) dX7_readLine_59 rfl rfl ?_
      refine we_statR (p := 63) dX7_readLine_60 rfl rfl ?_
      refine we_iload_n (p := 64) dX7_readLine_63 rfl rfl ?_
      refine wf_room (v := 5) (p := 65) dX7_readLine_64 (by decide) (by decide) rfl ?_
      refine we_icmp_lt (t := 74) (p := 68) dX7_readLine_65 (by decide) rfl rfl (fun hc65 => ?_) (fun hc65 => absurd (nI_lt (a := dN (zD S) 5) (b := 5) (by omega) (by omega)) hc65)
      refine we_aload_n (p := 75) dX7_readLine_74 rfl rfl ?_
      obtain ⟨_, _, e1, rfl, I1, J1, F1, rfl, ⟨rfl, a1, r1⟩⟩ := x_advance (I := I) hF ht (tE_le hc.2.1).1 hc.1.1
      refine we_callV_v (p := 78) (k' := 2) (a := [.ref 3]) (rr := []) dX7_readLine_75 rfl rfl rfl rfl (rc_of rfl rfl (by decide) ⟨rfl, by decide⟩) (Nat.le_of_ble_eq_true rfl) (Nat.le_of_ble_eq_true rfl) (by decide) e1 (Or.inl rfl) rfl ?_
      refine we_iload_n (p := 79) dX7_readLine_78 rfl rfl ?_
      refine we_swIn (p := 145) dX7_readLine_79 (by decide) rfl (by decide) rfl ?_
      refine we_aload_n (p := 146) dX7_readLine_145 rfl rfl ?_
      refine we_iload_n (p := 147) dX7_readLine_146 rfl rfl ?_
      obtain ⟨_, _, e2, I2, J2, rfl, f2, ⟨z2, rfl, c2⟩ | ⟨z2, rfl, g2, s2⟩⟩ := x_readHand (row := dN (zD S) 5) ho hF hdF (ht.av a1) (hc.av ho a1 r1) hz (by omega) (h19 5 (by omega) hrm)
      · skip
        refine we_callV_int (p := 150) (k' := 4) (a := [.ref 3, .int (nI (dN (zD S) 5))]) (rr := []) dX7_readLine_147 rfl rfl rfl rfl (rc_of rfl rfl (by decide) ⟨rfl, by decide⟩) (Nat.le_of_ble_eq_true rfl) (Nat.le_of_ble_eq_true rfl) (by decide) e2 (Or.inl rfl) rfl ?_
        exact wi_ret dX7_readLine_150 rfl (by decide) (by decide) (RdP.ok (by
      unfold pLn
      rw [if_neg (by decide), if_neg ht0, if_neg hrm0]
      rfl) z2 ((RdF.rf.tr a1.r).tr f2) c2)
      · skip
        refine we_callV_int (p := 150) (k' := 4) (a := [.ref 3, .int (nI (dN (zD S) 5))]) (rr := []) dX7_readLine_147 rfl rfl rfl rfl (rc_of rfl rfl (by decide) ⟨rfl, by decide⟩) (Nat.le_of_ble_eq_true rfl) (Nat.le_of_ble_eq_true rfl) (by decide) e2 (Or.inl rfl) rfl ?_
        exact wi_ret dX7_readLine_150 rfl (by decide) (by decide) (RdP.go (by
      unfold pLn
      rw [if_neg (by decide), if_neg ht0, if_neg hrm0]
      rfl) z2 ((RdF.rf.tr a1.r).tr f2) g2 s2)
set_option maxRecDepth 10000 in
theorem x_readLine_6 {I : Nat → Nat → Int32} {J : Nat → Nat → Int64} {F : Nat → Nat → Option Nat} {nc ns : Nat} {T : Nat → Nat} {n o : Nat} {S : pZ} (ho : isO o) (hF : RFok F) (hdF : F 3 0 = some o) (ht : txC T n I J) (hc : cS T n o S I J) (hz : zF S = 0) (hD : WFc (zD S)) (h19 : ∀ k, k = 0 ∨ k = 2 ∨ k = 5 → dN (zD S) k < rmN k → zC S < 19) (hq : tQ T n (zP S) = 6) : Ew 5 mX7_readLine 0 [.ref 3, .null, .null] [] ((SH, nc, ns), I, J, F) (RdP nc ns T n o I J F (pLn T n 6 S)) := by
  obtain ⟨b0, b1, b2, b3, b4, b5, b6⟩ := hD.2
  by_cases ht0 : zD S 0 0 ≤ 0
  · skip
    refine we_aload_n (p := 1) dX7_readLine_0 rfl rfl ?_
    refine wf_getI (c := 7) (j := 13) (n := 16) (v := 6) (p := 4) dX7_readLine_1 rfl rfl (by decide) (by decide) (Or.inl rfl) (hc.1.2.2.2.1.trans hq) rfl ?_
    refine we_istore_n (ls1 := [.ref 3, .int 6, .null]) (p := 5) dX7_readLine_4 rfl rfl ?_
    refine we_iload_n (p := 6) dX7_readLine_5 rfl rfl ?_
    refine we_if_lt (t := 15) (p := 9) dX7_readLine_6 (by decide) rfl rfl (fun hc6 => absurd hc6 (by decide)) (fun hc6 => ?_)
    refine we_iload_n (p := 10) dX7_readLine_9 rfl rfl ?_
    refine we_bipush (v := 7) (p := 12) dX7_readLine_10 (by decide) rfl ?_
    refine we_icmp_le (t := 21) (p := 15) dX7_readLine_12 (by decide) rfl rfl (fun hc12 => ?_) (fun hc12 => absurd (by decide) hc12)
    refine we_iload_n (p := 22) dX7_readLine_21 rfl rfl ?_
    refine we_bipush (v := 7) (p := 24) dX7_readLine_22 (by decide) rfl ?_
    refine we_icmp_ne (t := 32) (p := 27) dX7_readLine_24 (by decide) rfl rfl (fun hc24 => ?_) (fun hc24 => absurd hc24 (by decide))
    refine we_aload_n (p := 33) dX7_readLine_32 rfl rfl ?_
    refine we_getR (c := 7) (j := 0) (n := 16) (b := o) (p := 36) dX7_readLine_33 rfl rfl (by decide) (by decide) rfl hdF rfl ?_
    refine we_callV_int (p := 39) (k' := 0) (a := [.ref o]) (rr := []) dX7_readLine_36 rfl rfl rfl rfl (rc_of rfl (s_o ho) (l_o0 ho) ⟨rfl, by decide⟩) (Nat.le_of_ble_eq_true rfl) (Nat.le_of_ble_eq_true rfl) (by decide) (Ev.i (if_pos ht0) (x_isToldE ho hF hc.2.2.2.2.2.2)) (Or.inl rfl) rfl ?_
    refine we_if_ne (t := 49) (p := 42) dX7_readLine_39 (by decide) rfl rfl (fun hc39 => absurd (by decide) hc39) (fun hc39 => ?_)
    refine we_aload_n (p := 43) dX7_readLine_42 rfl rfl ?_
    refine we_bipush (v := 6) (p := 45) dX7_readLine_43 (by decide) rfl ?_
    refine we_callV_int (p := 48) (k' := 0) (a := [.ref 3, .int 6]) (rr := []) dX7_readLine_45 rfl rfl rfl rfl (rc_of rfl rfl (by decide) ⟨rfl, by decide⟩) (Nat.le_of_ble_eq_true rfl) (Nat.le_of_ble_eq_true rfl) (by decide) x_fails (Or.inl rfl) rfl ?_
    exact wi_ret dX7_readLine_48 rfl (by decide) (by decide) (RdP.no (X := S) (k := 6) (by
      unfold pLn
      rw [if_neg (by decide), if_pos ht0]) (by decide) (RdF.rf.u3 (by decide)) hu_eq ((hu_nj (by decide)).trans hc.1.2.1))
  · by_cases hrm : rmN 6 ≤ dN (zD S) 6
    · have hrm1 : 4 ≤ dN (zD S) 6 := hrm
      refine we_aload_n (p := 1) dX7_readLine_0 rfl rfl ?_
      refine wf_getI (c := 7) (j := 13) (n := 16) (v := 6) (p := 4) dX7_readLine_1 rfl rfl (by decide) (by decide) (Or.inl rfl) (hc.1.2.2.2.1.trans hq) rfl ?_
      refine we_istore_n (ls1 := [.ref 3, .int 6, .null]) (p := 5) dX7_readLine_4 rfl rfl ?_
      refine we_iload_n (p := 6) dX7_readLine_5 rfl rfl ?_
      refine we_if_lt (t := 15) (p := 9) dX7_readLine_6 (by decide) rfl rfl (fun hc6 => absurd hc6 (by decide)) (fun hc6 => ?_)
      refine we_iload_n (p := 10) dX7_readLine_9 rfl rfl ?_
      refine we_bipush (v := 7) (p := 12) dX7_readLine_10 (by decide) rfl ?_
      refine we_icmp_le (t := 21) (p := 15) dX7_readLine_12 (by decide) rfl rfl (fun hc12 => ?_) (fun hc12 => absurd (by decide) hc12)
      refine we_iload_n (p := 22) dX7_readLine_21 rfl rfl ?_
      refine we_bipush (v := 7) (p := 24) dX7_readLine_22 (by decide) rfl ?_
      refine we_icmp_ne (t := 32) (p := 27) dX7_readLine_24 (by decide) rfl rfl (fun hc24 => ?_) (fun hc24 => absurd hc24 (by decide))
      refine we_aload_n (p := 33) dX7_readLine_32 rfl rfl ?_
      refine we_getR (c := 7) (j := 0) (n := 16) (b := o) (p := 36) dX7_readLine_33 rfl rfl (by decide) (by decide) rfl hdF rfl ?_
      refine we_callV_int (p := 39) (k' := 0) (a := [.ref o]) (rr := []) dX7_readLine_36 rfl rfl rfl rfl (rc_of rfl (s_o ho) (l_o0 ho) ⟨rfl, by decide⟩) (Nat.le_of_ble_eq_true rfl) (Nat.le_of_ble_eq_true rfl) (by decide) (Ev.i (if_neg ht0) (x_isToldE ho hF hc.2.2.2.2.2.2)) (Or.inl rfl) rfl ?_
      refine we_if_ne (t := 49) (p := 42) dX7_readLine_39 (by decide) rfl rfl (fun hc39 => ?_) (fun hc39 => absurd hc39 (by decide))
      refine we_aload_n (p := 50) dX7_readLine_49 rfl rfl ?_
      refine we_getR (c := 7) (j := 0) (n := 16) (b := o) (p := 53) dX7_readLine_50 rfl rfl (by decide) (by decide) rfl hdF rfl ?_
      refine we_getR (c := 4) (j := 2) (n := 18) (b := (o + 1)) (p := 56) dX7_readLine_53 rfl (s_o ho) (l_o0 ho) (by decide) rfl (r_o2 hF ho) rfl ?_
      refine we_iload_n (p := 57) dX7_readLine_56 rfl rfl ?_
      refine wf_iald (n := 7) (i := 6) (v := nI (dN (zD S) 6)) (p := 58) dX7_readLine_57 (s_o1 ho) (l_o ho 1 (by decide)) (by decide) (by decide) ((congrFun (hc.2.2.2.2.2.2.2.2 2 (by decide) (by decide)) 6).trans (hD.1 6 (by decide))) rfl ?_
      refine we_istore_n (ls1 := [.ref 3, .int 6, .int (nI (dN (zD S) 6))]) (p := 59) dX7_readLine_58 rfl rfl ?_
      refine we_iload_n (p := 60) dX7_readLine_59 rfl rfl ?_
      refine we_statR (p := 63) dX7_readLine_60 rfl rfl ?_
      refine we_iload_n (p := 64) dX7_readLine_63 rfl rfl ?_
      refine wf_room (v := 4) (p := 65) dX7_readLine_64 (by decide) (by decide) rfl ?_
      refine we_icmp_lt (t := 74) (p := 68) dX7_readLine_65 (by decide) rfl rfl (fun hc65 => absurd hc65 (nI_nlt (a := dN (zD S) 6) (b := 4) (by omega) (by omega))) (fun hc65 => ?_)
      refine we_aload_n (p := 69) dX7_readLine_68 rfl rfl ?_
      refine we_iconst (v := 5) (p := 70) dX7_readLine_69 (by decide) rfl ?_
      refine we_callV_int (p := 73) (k' := 0) (a := [.ref 3, .int 5]) (rr := []) dX7_readLine_70 rfl rfl rfl rfl (rc_of rfl rfl (by decide) ⟨rfl, by decide⟩) (Nat.le_of_ble_eq_true rfl) (Nat.le_of_ble_eq_true rfl) (by decide) x_fails (Or.inl rfl) rfl ?_
      exact wi_ret dX7_readLine_73 rfl (by decide) (by decide) (RdP.no (X := S) (k := 5) (by
      unfold pLn
      rw [if_neg (by decide), if_neg ht0, if_pos hrm]) (by decide) (RdF.rf.u3 (by decide)) hu_eq ((hu_nj (by decide)).trans hc.1.2.1))
    · have hrm0 := hrm
      replace hrm : dN (zD S) 6 < rmN 6 := Nat.lt_of_not_le hrm
      have hrm1 : dN (zD S) 6 < 4 := hrm
      refine we_aload_n (p := 1) dX7_readLine_0 rfl rfl ?_
      refine wf_getI (c := 7) (j := 13) (n := 16) (v := 6) (p := 4) dX7_readLine_1 rfl rfl (by decide) (by decide) (Or.inl rfl) (hc.1.2.2.2.1.trans hq) rfl ?_
      refine we_istore_n (ls1 := [.ref 3, .int 6, .null]) (p := 5) dX7_readLine_4 rfl rfl ?_
      refine we_iload_n (p := 6) dX7_readLine_5 rfl rfl ?_
      refine we_if_lt (t := 15) (p := 9) dX7_readLine_6 (by decide) rfl rfl (fun hc6 => absurd hc6 (by decide)) (fun hc6 => ?_)
      refine we_iload_n (p := 10) dX7_readLine_9 rfl rfl ?_
      refine we_bipush (v := 7) (p := 12) dX7_readLine_10 (by decide) rfl ?_
      refine we_icmp_le (t := 21) (p := 15) dX7_readLine_12 (by decide) rfl rfl (fun hc12 => ?_) (fun hc12 => absurd (by decide) hc12)
      refine we_iload_n (p := 22) dX7_readLine_21 rfl rfl ?_
      refine we_bipush (v := 7) (p := 24) dX7_readLine_22 (by decide) rfl ?_
      refine we_icmp_ne (t := 32) (p := 27) dX7_readLine_24 (by decide) rfl rfl (fun hc24 => ?_) (fun hc24 => absurd hc24 (by decide))
      refine we_aload_n (p := 33) dX7_readLine_32 rfl rfl ?_
      refine we_getR (c := 7) (j := 0) (n := 16) (b := o) (p := 36) dX7_readLine_33 rfl rfl (by decide) (by decide) rfl hdF rfl ?_
      refine we_callV_int (p := 39) (k' := 0) (a := [.ref o]) (rr := []) dX7_readLine_36 rfl rfl rfl rfl (rc_of rfl (s_o ho) (l_o0 ho) ⟨rfl, by decide⟩) (Nat.le_of_ble_eq_true rfl) (Nat.le_of_ble_eq_true rfl) (by decide) (Ev.i (if_neg ht0) (x_isToldE ho hF hc.2.2.2.2.2.2)) (Or.inl rfl) rfl ?_
      refine we_if_ne (t := 49) (p := 42) dX7_readLine_39 (by decide) rfl rfl (fun hc39 => ?_) (fun hc39 => absurd hc39 (by decide))
      refine we_aload_n (p := 50) dX7_readLine_49 rfl rfl ?_
      refine we_getR (c := 7) (j := 0) (n := 16) (b := o) (p := 53) dX7_readLine_50 rfl rfl (by decide) (by decide) rfl hdF rfl ?_
      refine we_getR (c := 4) (j := 2) (n := 18) (b := (o + 1)) (p := 56) dX7_readLine_53 rfl (s_o ho) (l_o0 ho) (by decide) rfl (r_o2 hF ho) rfl ?_
      refine we_iload_n (p := 57) dX7_readLine_56 rfl rfl ?_
      refine wf_iald (n := 7) (i := 6) (v := nI (dN (zD S) 6)) (p := 58) dX7_readLine_57 (s_o1 ho) (l_o ho 1 (by decide)) (by decide) (by decide) ((congrFun (hc.2.2.2.2.2.2.2.2 2 (by decide) (by decide)) 6).trans (hD.1 6 (by decide))) rfl ?_
      refine we_istore_n (ls1 := [.ref 3, .int 6, .int (nI (dN (zD S) 6))]) (p := 59) dX7_readLine_58 rfl rfl ?_
      refine we_iload_n (p := 60) dX7_readLine_59 rfl rfl ?_
      refine we_statR (p := 63) dX7_readLine_60 rfl rfl ?_
      refine we_iload_n (p := 64) dX7_readLine_63 rfl rfl ?_
      refine wf_room (v := 4) (p := 65) dX7_readLine_64 (by decide) (by decide) rfl ?_
      refine we_icmp_lt (t := 74) (p := 68) dX7_readLine_65 (by decide) rfl rfl (fun hc65 => ?_) (fun hc65 => absurd (nI_lt (a := dN (zD S) 6) (b := 4) (by omega) (by omega)) hc65)
      refine we_aload_n (p := 75) dX7_readLine_74 rfl rfl ?_
      obtain ⟨_, _, e1, rfl, I1, J1, F1, rfl, ⟨rfl, a1, r1⟩⟩ := x_advance (I := I) hF ht (tE_le hc.2.1).1 hc.1.1
      refine we_callV_v (p := 78) (k' := 2) (a := [.ref 3]) (rr := []) dX7_readLine_75 rfl rfl rfl rfl (rc_of rfl rfl (by decide) ⟨rfl, by decide⟩) (Nat.le_of_ble_eq_true rfl) (Nat.le_of_ble_eq_true rfl) (by decide) e1 (Or.inl rfl) rfl ?_
      refine we_iload_n (p := 79) dX7_readLine_78 rfl rfl ?_
      refine we_swOut (p := 151) dX7_readLine_79 (by decide) (by decide) rfl ?_
      refine we_aload_n (p := 152) dX7_readLine_151 rfl rfl ?_
      refine we_iload_n (p := 153) dX7_readLine_152 rfl rfl ?_
      obtain ⟨_, _, e2, I2, J2, rfl, f2, ⟨z2, rfl, c2⟩ | ⟨z2, rfl, g2, s2⟩⟩ := x_readNearly (row := dN (zD S) 6) ho hF hdF (ht.av a1) (hc.av ho a1 r1) hz (by omega)
      · skip
        refine we_callV_int (p := 156) (k' := 4) (a := [.ref 3, .int (nI (dN (zD S) 6))]) (rr := []) dX7_readLine_153 rfl rfl rfl rfl (rc_of rfl rfl (by decide) ⟨rfl, by decide⟩) (Nat.le_of_ble_eq_true rfl) (Nat.le_of_ble_eq_true rfl) (by decide) e2 (Or.inl rfl) rfl ?_
        exact wi_ret dX7_readLine_156 rfl (by decide) (by decide) (RdP.ok (by
      unfold pLn
      rw [if_neg (by decide), if_neg ht0, if_neg hrm0]
      rfl) z2 ((RdF.rf.tr a1.r).tr f2) c2)
      · skip
        refine we_callV_int (p := 156) (k' := 4) (a := [.ref 3, .int (nI (dN (zD S) 6))]) (rr := []) dX7_readLine_153 rfl rfl rfl rfl (rc_of rfl rfl (by decide) ⟨rfl, by decide⟩) (Nat.le_of_ble_eq_true rfl) (Nat.le_of_ble_eq_true rfl) (by decide) e2 (Or.inl rfl) rfl ?_
        exact wi_ret dX7_readLine_156 rfl (by decide) (by decide) (RdP.go (by
      unfold pLn
      rw [if_neg (by decide), if_neg ht0, if_neg hrm0]
      rfl) z2 ((RdF.rf.tr a1.r).tr f2) g2 s2)
set_option maxRecDepth 10000 in
theorem x_readLine_7 {I : Nat → Nat → Int32} {J : Nat → Nat → Int64} {F : Nat → Nat → Option Nat} {nc ns : Nat} {T : Nat → Nat} {n o : Nat} {S : pZ} (ho : isO o) (hF : RFok F) (hdF : F 3 0 = some o) (ht : txC T n I J) (hc : cS T n o S I J) (hz : zF S = 0) (hq : tQ T n (zP S) = 7) : Ew 5 mX7_readLine 0 [.ref 3, .null, .null] [] ((SH, nc, ns), I, J, F) (RdP nc ns T n o I J F (pLn T n 7 S)) := by
  by_cases ht0 : zD S 0 0 ≤ 0
  · skip
    refine we_aload_n (p := 1) dX7_readLine_0 rfl rfl ?_
    refine wf_getI (c := 7) (j := 13) (n := 16) (v := 7) (p := 4) dX7_readLine_1 rfl rfl (by decide) (by decide) (Or.inl rfl) (hc.1.2.2.2.1.trans hq) rfl ?_
    refine we_istore_n (ls1 := [.ref 3, .int 7, .null]) (p := 5) dX7_readLine_4 rfl rfl ?_
    refine we_iload_n (p := 6) dX7_readLine_5 rfl rfl ?_
    refine we_if_lt (t := 15) (p := 9) dX7_readLine_6 (by decide) rfl rfl (fun hc6 => absurd hc6 (by decide)) (fun hc6 => ?_)
    refine we_iload_n (p := 10) dX7_readLine_9 rfl rfl ?_
    refine we_bipush (v := 7) (p := 12) dX7_readLine_10 (by decide) rfl ?_
    refine we_icmp_le (t := 21) (p := 15) dX7_readLine_12 (by decide) rfl rfl (fun hc12 => ?_) (fun hc12 => absurd (by decide) hc12)
    refine we_iload_n (p := 22) dX7_readLine_21 rfl rfl ?_
    refine we_bipush (v := 7) (p := 24) dX7_readLine_22 (by decide) rfl ?_
    refine we_icmp_ne (t := 32) (p := 27) dX7_readLine_24 (by decide) rfl rfl (fun hc24 => absurd (by decide) hc24) (fun hc24 => ?_)
    refine we_aload_n (p := 28) dX7_readLine_27 rfl rfl ?_
    obtain ⟨_, _, e1, I1, J1, rfl, f1, ⟨z1, rfl, c1⟩ | ⟨z1, rfl, g1, s1⟩⟩ := x_readOath0 ho hF hdF ht hc hz ht0
    · skip
      refine we_callV_int (p := 31) (k' := 4) (a := [.ref 3]) (rr := []) dX7_readLine_28 rfl rfl rfl rfl (rc_of rfl rfl (by decide) ⟨rfl, by decide⟩) (Nat.le_of_ble_eq_true rfl) (Nat.le_of_ble_eq_true rfl) (by decide) e1 (Or.inl rfl) rfl ?_
      exact wi_ret dX7_readLine_31 rfl (by decide) (by decide) (RdP.ok (by
      unfold pLn
      rw [if_pos rfl]) z1 (RdF.rf.tr f1) c1)
    · skip
      refine we_callV_int (p := 31) (k' := 4) (a := [.ref 3]) (rr := []) dX7_readLine_28 rfl rfl rfl rfl (rc_of rfl rfl (by decide) ⟨rfl, by decide⟩) (Nat.le_of_ble_eq_true rfl) (Nat.le_of_ble_eq_true rfl) (by decide) e1 (Or.inl rfl) rfl ?_
      exact wi_ret dX7_readLine_31 rfl (by decide) (by decide) (RdP.go (by
      unfold pLn
      rw [if_pos rfl]) z1 (RdF.rf.tr f1) g1 s1)
  · skip
    refine we_aload_n (p := 1) dX7_readLine_0 rfl rfl ?_
    refine wf_getI (c := 7) (j := 13) (n := 16) (v := 7) (p := 4) dX7_readLine_1 rfl rfl (by decide) (by decide) (Or.inl rfl) (hc.1.2.2.2.1.trans hq) rfl ?_
    refine we_istore_n (ls1 := [.ref 3, .int 7, .null]) (p := 5) dX7_readLine_4 rfl rfl ?_
    refine we_iload_n (p := 6) dX7_readLine_5 rfl rfl ?_
    refine we_if_lt (t := 15) (p := 9) dX7_readLine_6 (by decide) rfl rfl (fun hc6 => absurd hc6 (by decide)) (fun hc6 => ?_)
    refine we_iload_n (p := 10) dX7_readLine_9 rfl rfl ?_
    refine we_bipush (v := 7) (p := 12) dX7_readLine_10 (by decide) rfl ?_
    refine we_icmp_le (t := 21) (p := 15) dX7_readLine_12 (by decide) rfl rfl (fun hc12 => ?_) (fun hc12 => absurd (by decide) hc12)
    refine we_iload_n (p := 22) dX7_readLine_21 rfl rfl ?_
    refine we_bipush (v := 7) (p := 24) dX7_readLine_22 (by decide) rfl ?_
    refine we_icmp_ne (t := 32) (p := 27) dX7_readLine_24 (by decide) rfl rfl (fun hc24 => absurd (by decide) hc24) (fun hc24 => ?_)
    refine we_aload_n (p := 28) dX7_readLine_27 rfl rfl ?_
    obtain ⟨_, _, e1, I1, J1, rfl, f1, ⟨z1, rfl, c1⟩ | ⟨z1, rfl, g1, s1⟩⟩ := x_readOath1 ho hF hdF ht hc hz ht0
    · skip
      refine we_callV_int (p := 31) (k' := 4) (a := [.ref 3]) (rr := []) dX7_readLine_28 rfl rfl rfl rfl (rc_of rfl rfl (by decide) ⟨rfl, by decide⟩) (Nat.le_of_ble_eq_true rfl) (Nat.le_of_ble_eq_true rfl) (by decide) e1 (Or.inl rfl) rfl ?_
      exact wi_ret dX7_readLine_31 rfl (by decide) (by decide) (RdP.ok (by
      unfold pLn
      rw [if_pos rfl]) z1 (RdF.rf.tr f1) c1)
    · skip
      refine we_callV_int (p := 31) (k' := 4) (a := [.ref 3]) (rr := []) dX7_readLine_28 rfl rfl rfl rfl (rc_of rfl rfl (by decide) ⟨rfl, by decide⟩) (Nat.le_of_ble_eq_true rfl) (Nat.le_of_ble_eq_true rfl) (by decide) e1 (Or.inl rfl) rfl ?_
      exact wi_ret dX7_readLine_31 rfl (by decide) (by decide) (RdP.go (by
      unfold pLn
      rw [if_pos rfl]) z1 (RdF.rf.tr f1) g1 s1)
set_option maxRecDepth 10000 in
theorem x_readLine_lt {I : Nat → Nat → Int32} {J : Nat → Nat → Int64} {F : Nat → Nat → Option Nat} {nc ns : Nat} {T : Nat → Nat} {n o : Nat} {S : pZ} (ho : isO o) (hF : RFok F) (hdF : F 3 0 = some o) (ht : txC T n I J) (hc : cS T n o S I J) (hz : zF S = 0) (hlt : tQ T n (zP S) < 0) : Ew 5 mX7_readLine 0 [.ref 3, .null, .null] [] ((SH, nc, ns), I, J, F) (RdP nc ns T n o I J F (pFl 1 S)) := by
  refine we_aload_n (p := 1) dX7_readLine_0 rfl rfl ?_
  refine wf_getI (c := 7) (j := 13) (n := 16) (v := tQ T n (zP S)) (p := 4) dX7_readLine_1 rfl rfl (by decide) (by decide) (Or.inl rfl) hc.1.2.2.2.1 rfl ?_
  refine we_istore_n (ls1 := [.ref 3, .int (tQ T n (zP S)), .null]) (p := 5) dX7_readLine_4 rfl rfl ?_
  refine we_iload_n (p := 6) dX7_readLine_5 rfl rfl ?_
  refine we_if_lt (t := 15) (p := 9) dX7_readLine_6 (by decide) rfl rfl (fun hc6 => ?_) (fun hc6 => absurd hlt hc6)
  refine we_aload_n (p := 16) dX7_readLine_15 rfl rfl ?_
  refine we_iconst (v := 1) (p := 17) dX7_readLine_16 (by decide) rfl ?_
  refine we_callV_int (p := 20) (k' := 0) (a := [.ref 3, .int 1]) (rr := []) dX7_readLine_17 rfl rfl rfl rfl (rc_of rfl rfl (by decide) ⟨rfl, by decide⟩) (Nat.le_of_ble_eq_true rfl) (Nat.le_of_ble_eq_true rfl) (by decide) x_fails (Or.inl rfl) rfl ?_
  exact wi_ret dX7_readLine_20 rfl (by decide) (by decide) (RdP.no (X := S) (k := 1) (rfl) (by decide) (RdF.rf.u3 (by decide)) hu_eq ((hu_nj (by decide)).trans hc.1.2.1))
set_option maxRecDepth 10000 in
theorem x_readLine_gt {I : Nat → Nat → Int32} {J : Nat → Nat → Int64} {F : Nat → Nat → Option Nat} {nc ns : Nat} {T : Nat → Nat} {n o : Nat} {S : pZ} (ho : isO o) (hF : RFok F) (hdF : F 3 0 = some o) (ht : txC T n I J) (hc : cS T n o S I J) (hz : zF S = 0) (hge : 0 ≤ tQ T n (zP S)) (hgt : 7 < tQ T n (zP S)) : Ew 5 mX7_readLine 0 [.ref 3, .null, .null] [] ((SH, nc, ns), I, J, F) (RdP nc ns T n o I J F (pFl 1 S)) := by
  refine we_aload_n (p := 1) dX7_readLine_0 rfl rfl ?_
  refine wf_getI (c := 7) (j := 13) (n := 16) (v := tQ T n (zP S)) (p := 4) dX7_readLine_1 rfl rfl (by decide) (by decide) (Or.inl rfl) hc.1.2.2.2.1 rfl ?_
  refine we_istore_n (ls1 := [.ref 3, .int (tQ T n (zP S)), .null]) (p := 5) dX7_readLine_4 rfl rfl ?_
  refine we_iload_n (p := 6) dX7_readLine_5 rfl rfl ?_
  refine we_if_lt (t := 15) (p := 9) dX7_readLine_6 (by decide) rfl rfl (fun hc6 => absurd hc6 (Int32.not_lt.mpr hge)) (fun hc6 => ?_)
  refine we_iload_n (p := 10) dX7_readLine_9 rfl rfl ?_
  refine we_bipush (v := 7) (p := 12) dX7_readLine_10 (by decide) rfl ?_
  refine we_icmp_le (t := 21) (p := 15) dX7_readLine_12 (by decide) rfl rfl (fun hc12 => absurd hc12 (Int32.not_le.mpr hgt)) (fun hc12 => ?_)
  refine we_aload_n (p := 16) dX7_readLine_15 rfl rfl ?_
  refine we_iconst (v := 1) (p := 17) dX7_readLine_16 (by decide) rfl ?_
  refine we_callV_int (p := 20) (k' := 0) (a := [.ref 3, .int 1]) (rr := []) dX7_readLine_17 rfl rfl rfl rfl (rc_of rfl rfl (by decide) ⟨rfl, by decide⟩) (Nat.le_of_ble_eq_true rfl) (Nat.le_of_ble_eq_true rfl) (by decide) x_fails (Or.inl rfl) rfl ?_
  exact wi_ret dX7_readLine_20 rfl (by decide) (by decide) (RdP.no (X := S) (k := 1) (rfl) (by decide) (RdF.rf.u3 (by decide)) hu_eq ((hu_nj (by decide)).trans hc.1.2.1))
