/-! The class reads lines. -/
section
variable (T : Nat → Nat) (n : Nat)
def pOath (S : pZ) : pZ := if zD S 0 0 ≤ 0 then pB (pTk T n 12 5 9 (pAv T n S)) (fun S1 => pB (pTk T n 13 1 3 S1) (fun S2 => pSt 1 0 (nI (zV S2)) (pSt 0 0 (nI (zV S1)) S2))) else pFl 3 S
def pHarb (row : Nat) (S : pZ) : pZ := pB (pNw T n 0 row S) (fun S1 => pB (pTk T n 14 0 100 S1) (fun S2 => pB (pTk T n 15 0 99 (pSv 3 row S2)) (fun S3 => pSv 4 row S3)))
def pSea (S : pZ) : pZ := pB (pFn T n 0 S) (fun S1 => pB (pFn T n 0 (pAv T n S1)) (fun S2 => if canS (zD S2) (zV S1) (nI (zV S2)) = 0 then pAv T n (pSt 5 (zV S2) (hp_u (zD S2) 5 (zV S1) (zD S2 5 (zV S1) ||| bit (zV S2)) 5 (zV S2) ||| bit (zV S1)) (pSt 5 (zV S1) (zD S2 5 (zV S1) ||| bit (zV S2)) S2)) else pFl 3 S2))
def pWom2 (row : Nat) (S : pZ) : pZ := if tQ T n (zP S) = nI 16 then pB (pFn T n 0 (pAv T n S)) (fun S3 => pB (pTk T n 17 0 99 (pAv T n (pSv 7 row S3))) (fun S4 => pB (pTk T n 18 0 60 (pSv 8 row S4)) (fun S5 => pSv 9 row S5))) else pFl 1 S
def pWom (row : Nat) (S : pZ) : pZ := pB (pNw T n 2 row S) (fun S1 => if tQ T n (zP S1) < 8 then pFl 1 S1 else if 11 < tQ T n (zP S1) then pFl 1 S1 else pWom2 T n row (pAv T n (pSt 6 row (tQ T n (zP S1) - 8) S1)))
def pRiv (row : Nat) (S : pZ) : pZ := pB (pFn T n 2 S) (fun S1 => pB (pTk T n 19 0 99 (pAv T n (pSv 10 row S1))) (fun S2 => pSv 11 row S2))
def pLet (row : Nat) (S : pZ) : pZ := pB (pFn T n 0 S) (fun S1 => pB (pTk T n 20 1 5 (pAv T n (pSv 12 row S1))) (fun S2 => pSv 13 row S2))
def pHan (row : Nat) (S : pZ) : pZ := pB (pNw T n 5 row S) (fun S1 => pB (pTk T n 21 0 60 S1) (fun S2 => pB (pTk T n 22 1 9 (pSv 14 row S2)) (fun S3 => pSv 15 row S3)))
def pNea (row : Nat) (S : pZ) : pZ := pB (pTk T n 23 0 8 S) (fun S1 => pB (pTk T n 24 16 40 (pSv 16 row S1)) (fun S2 => pSv 17 row S2))
end
theorem cS.y {T : Nat → Nat} {n o j : Nat} {v : Int32} {S : pZ} {I : Nat → Nat → Int32} {J : Nat → Nat → Int64} (ho : isO o) (h : cS T n o S I J) (hj : j < 2) : cS T n o (pSt j 0 v S) (hp_u I o j v) J := by
  obtain ⟨⟨r1, r2, r3, r4, r5, r6⟩, h2, h3, h4, h5, h6, h7, h8, h9⟩ := h
  have e : ∀ k, k ≠ o → hp_u I o j v k = I k := fun k hk => hu_ne hk
  have e3 := e 3 (by rcases ho with rfl | rfl <;> decide)
  refine ⟨⟨?_, ?_, ?_, ?_, r5, ?_⟩, h2, ?_, h4, fun i hi => ?_, ?_, ?_, ?_, fun q q1 q2 => ?_⟩
  · rw [e3]; exact r1
  · rw [e3]; exact r2
  · rw [e3]; exact r3
  · rw [e3]; exact r4
  · rw [e3]; exact r6
  · rw [e3]; exact h3
  · rw [e 23 (by rcases ho with rfl | rfl <;> decide), e 24 (by rcases ho with rfl | rfl <;> decide)]
    exact h5 i hi
  · rw [e3]; exact h6
  · show _ = hp_u (zD S) j 0 v 0 0
    by_cases c : j = 0
    · subst c
      rw [hu_eq, hu_eq]
    · rw [hu_nj (by omega), hu_ne (by omega)]
      exact h7
  · show _ = hp_u (zD S) j 0 v 1 0
    by_cases c : j = 1
    · subst c
      rw [hu_eq, hu_eq]
    · rw [hu_nj (by omega), hu_ne (by omega)]
      exact h8
  · show _ = hp_u (zD S) j 0 v q
    rw [e _ (by omega), hu_ne (by omega)]
    exact h9 q q1 q2
set_option maxRecDepth 10000 in
theorem x_readOath1 {I : Nat → Nat → Int32} {J : Nat → Nat → Int64} {F : Nat → Nat → Option Nat} {nc ns : Nat} {T : Nat → Nat} {n o : Nat} {S : pZ} (ho : isO o) (hF : RFok F) (hdF : F 3 0 = some o) (ht : txC T n I J) (hc : cS T n o S I J) (hz : zF S = 0) (ht0 : ¬ zD S 0 0 ≤ 0) : Ew 4 mX7_readOath 0 [.ref 3, .null] [] ((SH, nc, ns), I, J, F) (RdP nc ns T n o I J F (pOath T n S)) := by
  refine we_aload_n (p := 1) dX7_readOath_0 rfl rfl ?_
  refine we_getR (c := 7) (j := 0) (n := 16) (b := o) (p := 4) dX7_readOath_1 rfl rfl (by decide) (by decide) rfl hdF rfl ?_
  refine we_callV_int (p := 7) (k' := 0) (a := [.ref o]) (rr := []) dX7_readOath_4 rfl rfl rfl rfl (rc_of rfl (s_o ho) (l_o0 ho) ⟨rfl, by decide⟩) (Nat.le_of_ble_eq_true rfl) (Nat.le_of_ble_eq_true rfl) (by decide) (Ev.i (if_neg ht0) (x_isToldE ho hF hc.2.2.2.2.2.2)) (Or.inl rfl) rfl ?_
  refine we_if_eq (t := 16) (p := 10) dX7_readOath_7 (by decide) rfl rfl (fun hc7 => absurd hc7 (by decide)) (fun hc7 => ?_)
  refine we_aload_n (p := 11) dX7_readOath_10 rfl rfl ?_
  refine we_iconst (v := 3) (p := 12) dX7_readOath_11 (by decide) rfl ?_
  refine we_callV_int (p := 15) (k' := 0) (a := [.ref 3, .int 3]) (rr := []) dX7_readOath_12 rfl rfl rfl rfl (rc_of rfl rfl (by decide) ⟨rfl, by decide⟩) (Nat.le_of_ble_eq_true rfl) (Nat.le_of_ble_eq_true rfl) (by decide) x_fails (Or.inl rfl) rfl ?_
  exact wi_ret dX7_readOath_15 rfl (by decide) (by decide) (RdP.no (X := S) (k := 3) (by
      unfold pOath
      first | (rw [if_neg ht0]; done) | (rw [if_neg ht0]; rfl)) (by decide) (RdF.rf.u3 (by decide)) hu_eq ((hu_nj (by decide)).trans hc.1.2.1))
set_option maxRecDepth 10000 in
theorem x_readOath0 {I : Nat → Nat → Int32} {J : Nat → Nat → Int64} {F : Nat → Nat → Option Nat} {nc ns : Nat} {T : Nat → Nat} {n o : Nat} {S : pZ} (ho : isO o) (hF : RFok F) (hdF : F 3 0 = some o) (ht : txC T n I J) (hc : cS T n o S I J) (hz : zF S = 0) (ht0 : zD S 0 0 ≤ 0) : Ew 4 mX7_readOath 0 [.ref 3, .null] [] ((SH, nc, ns), I, J, F) (RdP nc ns T n o I J F (pOath T n S)) := by
  refine we_aload_n (p := 1) dX7_readOath_0 rfl rfl ?_
  refine we_getR (c := 7) (j := 0) (n := 16) (b := o) (p := 4) dX7_readOath_1 rfl rfl (by decide) (by decide) rfl hdF rfl ?_
  refine we_callV_int (p := 7) (k' := 0) (a := [.ref o]) (rr := []) dX7_readOath_4 rfl rfl rfl rfl (rc_of rfl (s_o ho) (l_o0 ho) ⟨rfl, by decide⟩) (Nat.le_of_ble_eq_true rfl) (Nat.le_of_ble_eq_true rfl) (by decide) (Ev.i (if_pos ht0) (x_isToldE ho hF hc.2.2.2.2.2.2)) (Or.inl rfl) rfl ?_
  refine we_if_eq (t := 16) (p := 10) dX7_readOath_7 (by decide) rfl rfl (fun hc7 => ?_) (fun hc7 => absurd (by decide) hc7)
  refine we_aload_n (p := 17) dX7_readOath_16 rfl rfl ?_
  obtain ⟨_, _, e1, rfl, I1, J1, F1, rfl, ⟨rfl, a1, r1⟩⟩ := x_advance (I := I) hF ht (tE_le hc.2.1).1 hc.1.1
  refine we_callV_v (p := 20) (k' := 2) (a := [.ref 3]) (rr := []) dX7_readOath_17 rfl rfl rfl rfl (rc_of rfl rfl (by decide) ⟨rfl, by decide⟩) (Nat.le_of_ble_eq_true rfl) (Nat.le_of_ble_eq_true rfl) (by decide) e1 (Or.inl rfl) rfl ?_
  refine we_aload_n (p := 21) dX7_readOath_20 rfl rfl ?_
  refine we_bipush (v := 12) (p := 23) dX7_readOath_21 (by decide) rfl ?_
  refine we_iconst (v := 5) (p := 24) dX7_readOath_23 (by decide) rfl ?_
  refine we_bipush (v := 9) (p := 26) dX7_readOath_24 (by decide) rfl ?_
  obtain ⟨_, _, e2, I2, J2, rfl, f2, ⟨z2, rfl, c2⟩ | ⟨z2, rfl, g2, s2⟩⟩ := x_takeNumber (w := 12) (lo := 5) (hi := 9) ho hF hdF (ht.av a1) (hc.av ho a1 r1) hz (by decide) (by decide)
  · skip
    refine we_callV_int (p := 29) (k' := 3) (a := [.ref 3, .int 12, .int 5, .int 9]) (rr := []) dX7_readOath_26 rfl rfl rfl rfl (rc_of rfl rfl (by decide) ⟨rfl, by decide⟩) (Nat.le_of_ble_eq_true rfl) (Nat.le_of_ble_eq_true rfl) (by decide) e2 (Or.inl rfl) rfl ?_
    refine we_if_ne (t := 34) (p := 32) dX7_readOath_29 (by decide) rfl rfl (fun hc29 => ?_) (fun hc29 => absurd hc29 (by decide))
    refine we_aload_n (p := 35) dX7_readOath_34 rfl rfl ?_
    refine wf_getI (c := 7) (j := 15) (n := 16) (v := nI (zV (pTk T n 12 5 9 (pAv T n S)))) (p := 38) dX7_readOath_35 rfl rfl (by decide) (by decide) (Or.inl rfl) c2.2.2.2.2.2.1 rfl ?_
    refine we_istore_n (ls1 := [.ref 3, .int (nI (zV (pTk T n 12 5 9 (pAv T n S))))]) (p := 39) dX7_readOath_38 rfl rfl ?_
    refine we_aload_n (p := 40) dX7_readOath_39 rfl rfl ?_
    refine we_bipush (v := 13) (p := 42) dX7_readOath_40 (by decide) rfl ?_
    refine we_iconst (v := 1) (p := 43) dX7_readOath_42 (by decide) rfl ?_
    refine we_iconst (v := 3) (p := 44) dX7_readOath_43 (by decide) rfl ?_
    obtain ⟨_, _, e3, I3, J3, rfl, f3, ⟨z3, rfl, c3⟩ | ⟨z3, rfl, g3, s3⟩⟩ := x_takeNumber (w := 13) (lo := 1) (hi := 3) ho hF hdF ((ht.av a1).rd ho f2) c2 z2 (by decide) (by decide)
    · skip
      refine we_callV_int (p := 47) (k' := 3) (a := [.ref 3, .int 13, .int 1, .int 3]) (rr := []) dX7_readOath_44 rfl rfl rfl rfl (rc_of rfl rfl (by decide) ⟨rfl, by decide⟩) (Nat.le_of_ble_eq_true rfl) (Nat.le_of_ble_eq_true rfl) (by decide) e3 (Or.inl rfl) rfl ?_
      refine we_if_ne (t := 52) (p := 50) dX7_readOath_47 (by decide) rfl rfl (fun hc47 => ?_) (fun hc47 => absurd hc47 (by decide))
      refine we_aload_n (p := 53) dX7_readOath_52 rfl rfl ?_
      refine we_getR (c := 7) (j := 0) (n := 16) (b := o) (p := 56) dX7_readOath_53 rfl rfl (by decide) (by decide) rfl hdF rfl ?_
      refine we_iload_n (p := 57) dX7_readOath_56 rfl rfl ?_
      refine we_putI (c := 4) (j := 0) (n := 18)  (p := 60) dX7_readOath_57 rfl (s_o ho) (l_o0 ho) (by decide) rfl rfl rfl ?_
      refine we_aload_n (p := 61) dX7_readOath_60 rfl rfl ?_
      refine we_getR (c := 7) (j := 0) (n := 16) (b := o) (p := 64) dX7_readOath_61 rfl rfl (by decide) (by decide) rfl hdF rfl ?_
      refine we_aload_n (p := 65) dX7_readOath_64 rfl rfl ?_
      refine wf_getI (c := 7) (j := 15) (n := 16) (v := nI (zV (pSt 0 0 (nI (zV (pTk T n 12 5 9 (pAv T n S)))) (pTk T n 13 1 3 (pTk T n 12 5 9 (pAv T n S)))))) (p := 68) dX7_readOath_65 rfl rfl (by decide) (by decide) (Or.inl rfl) (c3.y (j := 0) ho (by decide)).2.2.2.2.2.1 rfl ?_
      refine we_putI (c := 4) (j := 1) (n := 18)  (p := 71) dX7_readOath_68 rfl (s_o ho) (l_o0 ho) (by decide) rfl rfl rfl ?_
      refine we_iconst (v := 1) (p := 72) dX7_readOath_71 (by decide) rfl ?_
      exact wi_ret dX7_readOath_72 rfl (by decide) (by decide) (RdP.ok (X := (pSt 1 0 (nI (zV (pSt 0 0 (nI (zV (pTk T n 12 5 9 (pAv T n S)))) (pTk T n 13 1 3 (pTk T n 12 5 9 (pAv T n S)))))) (pSt 0 0 (nI (zV (pTk T n 12 5 9 (pAv T n S)))) (pTk T n 13 1 3 (pTk T n 12 5 9 (pAv T n S)))))) (by
      unfold pOath
      first | (rw [if_pos ht0, pB_y z2, pB_y z3]; done) | (rw [if_pos ht0, pB_y z2, pB_y z3]; rfl)) z3 (((((RdF.rf.tr a1.r).tr f2).tr f3).uo (Or.inl ⟨by omega, by omega⟩) ho).uo (Or.inl ⟨by omega, by omega⟩) ho) ((c3.y (j := 0) ho (by decide)).y (j := 1) ho (by decide)))
    · skip
      refine we_callV_int (p := 47) (k' := 3) (a := [.ref 3, .int 13, .int 1, .int 3]) (rr := []) dX7_readOath_44 rfl rfl rfl rfl (rc_of rfl rfl (by decide) ⟨rfl, by decide⟩) (Nat.le_of_ble_eq_true rfl) (Nat.le_of_ble_eq_true rfl) (by decide) e3 (Or.inl rfl) rfl ?_
      refine we_if_ne (t := 52) (p := 50) dX7_readOath_47 (by decide) rfl rfl (fun hc47 => absurd (by decide) hc47) (fun hc47 => ?_)
      refine we_iconst (v := 0) (p := 51) dX7_readOath_50 (by decide) rfl ?_
      exact wi_ret dX7_readOath_51 rfl (by decide) (by decide) (RdP.go (X := (pTk T n 13 1 3 (pTk T n 12 5 9 (pAv T n S)))) (by
      unfold pOath
      first | (rw [if_pos ht0, pB_y z2, pB_n z3]; done) | (rw [if_pos ht0, pB_y z2, pB_n z3]; rfl)) z3 (((RdF.rf.tr a1.r).tr f2).tr f3) g3 s3)
  · skip
    refine we_callV_int (p := 29) (k' := 3) (a := [.ref 3, .int 12, .int 5, .int 9]) (rr := []) dX7_readOath_26 rfl rfl rfl rfl (rc_of rfl rfl (by decide) ⟨rfl, by decide⟩) (Nat.le_of_ble_eq_true rfl) (Nat.le_of_ble_eq_true rfl) (by decide) e2 (Or.inl rfl) rfl ?_
    refine we_if_ne (t := 34) (p := 32) dX7_readOath_29 (by decide) rfl rfl (fun hc29 => absurd (by decide) hc29) (fun hc29 => ?_)
    refine we_iconst (v := 0) (p := 33) dX7_readOath_32 (by decide) rfl ?_
    exact wi_ret dX7_readOath_33 rfl (by decide) (by decide) (RdP.go (X := (pTk T n 12 5 9 (pAv T n S))) (by
      unfold pOath
      first | (rw [if_pos ht0, pB_n z2]; done) | (rw [if_pos ht0, pB_n z2]; rfl)) z2 ((RdF.rf.tr a1.r).tr f2) g2 s2)
set_option maxRecDepth 10000 in
theorem x_readHarbour {I : Nat → Nat → Int32} {J : Nat → Nat → Int64} {F : Nat → Nat → Option Nat} {nc ns : Nat} {T : Nat → Nat} {n o : Nat} {S : pZ} (ho : isO o) (hF : RFok F) (hdF : F 3 0 = some o) (ht : txC T n I J) (hc : cS T n o S I J) (hz : zF S = 0) {row : Nat} (hrow : row < 6) (h19 : zC S < 19) : Ew 4 mX7_readHarbour 0 [.ref 3, .int (nI row)] [] ((SH, nc, ns), I, J, F) (RdP nc ns T n o I J F (pHarb T n row S)) := by
  refine we_aload_n (p := 1) dX7_readHarbour_0 rfl rfl ?_
  refine we_iconst (v := 0) (p := 2) dX7_readHarbour_1 (by decide) rfl ?_
  refine we_iload_n (p := 3) dX7_readHarbour_2 rfl rfl ?_
  obtain ⟨_, _, e1, I1, J1, rfl, f1, ⟨z1, rfl, c1⟩ | ⟨z1, rfl, g1, s1⟩⟩ := x_takeNewName (so := 0) (row := row) ho hF hdF ht hc hz (by omega) (by decide) (fun _ => by omega) h19
  · skip
    refine we_callV_int (p := 6) (k' := 3) (a := [.ref 3, .int 0, .int (nI row)]) (rr := []) dX7_readHarbour_3 rfl rfl rfl rfl (rc_of rfl rfl (by decide) ⟨rfl, by decide⟩) (Nat.le_of_ble_eq_true rfl) (Nat.le_of_ble_eq_true rfl) (by decide) e1 (Or.inl rfl) rfl ?_
    refine we_if_eq (t := 21) (p := 9) dX7_readHarbour_6 (by decide) rfl rfl (fun hc6 => absurd hc6 (by decide)) (fun hc6 => ?_)
    refine we_aload_n (p := 10) dX7_readHarbour_9 rfl rfl ?_
    refine we_bipush (v := 14) (p := 12) dX7_readHarbour_10 (by decide) rfl ?_
    refine we_iconst (v := 0) (p := 13) dX7_readHarbour_12 (by decide) rfl ?_
    refine we_bipush (v := 100) (p := 15) dX7_readHarbour_13 (by decide) rfl ?_
    obtain ⟨_, _, e2, I2, J2, rfl, f2, ⟨z2, rfl, c2⟩ | ⟨z2, rfl, g2, s2⟩⟩ := x_takeNumber (w := 14) (lo := 0) (hi := 100) ho hF hdF (ht.rd ho f1) c1 z1 (by decide) (by decide)
    · skip
      refine we_callV_int (p := 18) (k' := 3) (a := [.ref 3, .int 14, .int 0, .int 100]) (rr := []) dX7_readHarbour_15 rfl rfl rfl rfl (rc_of rfl rfl (by decide) ⟨rfl, by decide⟩) (Nat.le_of_ble_eq_true rfl) (Nat.le_of_ble_eq_true rfl) (by decide) e2 (Or.inl rfl) rfl ?_
      refine we_if_ne (t := 23) (p := 21) dX7_readHarbour_18 (by decide) rfl rfl (fun hc18 => ?_) (fun hc18 => absurd hc18 (by decide))
      refine we_aload_n (p := 24) dX7_readHarbour_23 rfl rfl ?_
      refine we_getR (c := 7) (j := 0) (n := 16) (b := o) (p := 27) dX7_readHarbour_24 rfl rfl (by decide) (by decide) rfl hdF rfl ?_
      refine we_getR (c := 4) (j := 3) (n := 18) (b := (o + 2)) (p := 30) dX7_readHarbour_27 rfl (s_o ho) (l_o0 ho) (by decide) rfl (r_o3 hF ho) rfl ?_
      refine we_iload_n (p := 31) dX7_readHarbour_30 rfl rfl ?_
      refine we_aload_n (p := 32) dX7_readHarbour_31 rfl rfl ?_
      refine wf_getI (c := 7) (j := 15) (n := 16) (v := nI (zV (pTk T n 14 0 100 (pNw T n 0 row S)))) (p := 35) dX7_readHarbour_32 rfl rfl (by decide) (by decide) (Or.inl rfl) c2.2.2.2.2.2.1 rfl ?_
      refine wf_iast (n := 6) (i := row) (p := 36) dX7_readHarbour_35 (s_o2 ho) (l_o ho 2 (by decide)) (in_nJ (by omega) (by decide)) (nI_cl (by omega)) rfl ?_
      refine we_aload_n (p := 37) dX7_readHarbour_36 rfl rfl ?_
      refine we_bipush (v := 15) (p := 39) dX7_readHarbour_37 (by decide) rfl ?_
      refine we_iconst (v := 0) (p := 40) dX7_readHarbour_39 (by decide) rfl ?_
      refine we_bipush (v := 99) (p := 42) dX7_readHarbour_40 (by decide) rfl ?_
      obtain ⟨_, _, e3, I3, J3, rfl, f3, ⟨z3, rfl, c3⟩ | ⟨z3, rfl, g3, s3⟩⟩ := x_takeNumber (w := 15) (lo := 0) (hi := 99) ho hF hdF (((ht.rd ho f1).rd ho f2).rd ho (RdF.rf.uo (Or.inl ⟨by omega, by omega⟩) ho)) (c2.st (j := 3) ho (by decide) (by decide)) z2 (by decide) (by decide)
      · skip
        refine we_callV_int (p := 45) (k' := 3) (a := [.ref 3, .int 15, .int 0, .int 99]) (rr := []) dX7_readHarbour_42 rfl rfl rfl rfl (rc_of rfl rfl (by decide) ⟨rfl, by decide⟩) (Nat.le_of_ble_eq_true rfl) (Nat.le_of_ble_eq_true rfl) (by decide) e3 (Or.inl rfl) rfl ?_
        refine we_if_ne (t := 50) (p := 48) dX7_readHarbour_45 (by decide) rfl rfl (fun hc45 => ?_) (fun hc45 => absurd hc45 (by decide))
        refine we_aload_n (p := 51) dX7_readHarbour_50 rfl rfl ?_
        refine we_getR (c := 7) (j := 0) (n := 16) (b := o) (p := 54) dX7_readHarbour_51 rfl rfl (by decide) (by decide) rfl hdF rfl ?_
        refine we_getR (c := 4) (j := 4) (n := 18) (b := (o + 3)) (p := 57) dX7_readHarbour_54 rfl (s_o ho) (l_o0 ho) (by decide) rfl (r_o4 hF ho) rfl ?_
        refine we_iload_n (p := 58) dX7_readHarbour_57 rfl rfl ?_
        refine we_aload_n (p := 59) dX7_readHarbour_58 rfl rfl ?_
        refine wf_getI (c := 7) (j := 15) (n := 16) (v := nI (zV (pTk T n 15 0 99 (pSv 3 row (pTk T n 14 0 100 (pNw T n 0 row S)))))) (p := 62) dX7_readHarbour_59 rfl rfl (by decide) (by decide) (Or.inl rfl) c3.2.2.2.2.2.1 rfl ?_
        refine wf_iast (n := 6) (i := row) (p := 63) dX7_readHarbour_62 (s_o3 ho) (l_o ho 3 (by decide)) (in_nJ (by omega) (by decide)) (nI_cl (by omega)) rfl ?_
        refine we_iconst (v := 1) (p := 64) dX7_readHarbour_63 (by decide) rfl ?_
        exact wi_ret dX7_readHarbour_64 rfl (by decide) (by decide) (RdP.ok (X := (pSv 4 row (pTk T n 15 0 99 (pSv 3 row (pTk T n 14 0 100 (pNw T n 0 row S)))))) (by
      unfold pHarb
      first | (rw [pB_y z1, pB_y z2, pB_y z3]; done) | (rw [pB_y z1, pB_y z2, pB_y z3]; rfl)) z3 (((((RdF.rf.tr f1).tr f2).uo (Or.inl ⟨by omega, by omega⟩) ho).tr f3).uo (Or.inl ⟨by omega, by omega⟩) ho) (c3.st (j := 4) ho (by decide) (by decide)))
      · skip
        refine we_callV_int (p := 45) (k' := 3) (a := [.ref 3, .int 15, .int 0, .int 99]) (rr := []) dX7_readHarbour_42 rfl rfl rfl rfl (rc_of rfl rfl (by decide) ⟨rfl, by decide⟩) (Nat.le_of_ble_eq_true rfl) (Nat.le_of_ble_eq_true rfl) (by decide) e3 (Or.inl rfl) rfl ?_
        refine we_if_ne (t := 50) (p := 48) dX7_readHarbour_45 (by decide) rfl rfl (fun hc45 => absurd (by decide) hc45) (fun hc45 => ?_)
        refine we_iconst (v := 0) (p := 49) dX7_readHarbour_48 (by decide) rfl ?_
        exact wi_ret dX7_readHarbour_49 rfl (by decide) (by decide) (RdP.go (X := (pTk T n 15 0 99 (pSv 3 row (pTk T n 14 0 100 (pNw T n 0 row S))))) (by
      unfold pHarb
      first | (rw [pB_y z1, pB_y z2, pB_n z3]; done) | (rw [pB_y z1, pB_y z2, pB_n z3]; rfl)) z3 ((((RdF.rf.tr f1).tr f2).uo (Or.inl ⟨by omega, by omega⟩) ho).tr f3) g3 s3)
    · skip
      refine we_callV_int (p := 18) (k' := 3) (a := [.ref 3, .int 14, .int 0, .int 100]) (rr := []) dX7_readHarbour_15 rfl rfl rfl rfl (rc_of rfl rfl (by decide) ⟨rfl, by decide⟩) (Nat.le_of_ble_eq_true rfl) (Nat.le_of_ble_eq_true rfl) (by decide) e2 (Or.inl rfl) rfl ?_
      refine we_if_ne (t := 23) (p := 21) dX7_readHarbour_18 (by decide) rfl rfl (fun hc18 => absurd (by decide) hc18) (fun hc18 => ?_)
      refine we_iconst (v := 0) (p := 22) dX7_readHarbour_21 (by decide) rfl ?_
      exact wi_ret dX7_readHarbour_22 rfl (by decide) (by decide) (RdP.go (X := (pTk T n 14 0 100 (pNw T n 0 row S))) (by
      unfold pHarb
      first | (rw [pB_y z1, pB_n z2]; done) | (rw [pB_y z1, pB_n z2]; rfl)) z2 ((RdF.rf.tr f1).tr f2) g2 s2)
  · skip
    refine we_callV_int (p := 6) (k' := 3) (a := [.ref 3, .int 0, .int (nI row)]) (rr := []) dX7_readHarbour_3 rfl rfl rfl rfl (rc_of rfl rfl (by decide) ⟨rfl, by decide⟩) (Nat.le_of_ble_eq_true rfl) (Nat.le_of_ble_eq_true rfl) (by decide) e1 (Or.inl rfl) rfl ?_
    refine we_if_eq (t := 21) (p := 9) dX7_readHarbour_6 (by decide) rfl rfl (fun hc6 => ?_) (fun hc6 => absurd (by decide) hc6)
    refine we_iconst (v := 0) (p := 22) dX7_readHarbour_21 (by decide) rfl ?_
    exact wi_ret dX7_readHarbour_22 rfl (by decide) (by decide) (RdP.go (X := (pNw T n 0 row S)) (by
      unfold pHarb
      first | (rw [pB_n z1]; done) | (rw [pB_n z1]; rfl)) z1 (RdF.rf.tr f1) g1 s1)
set_option maxRecDepth 10000 in
theorem x_readRival {I : Nat → Nat → Int32} {J : Nat → Nat → Int64} {F : Nat → Nat → Option Nat} {nc ns : Nat} {T : Nat → Nat} {n o : Nat} {S : pZ} (ho : isO o) (hF : RFok F) (hdF : F 3 0 = some o) (ht : txC T n I J) (hc : cS T n o S I J) (hz : zF S = 0) {row : Nat} (hrow : row < 8) : Ew 4 mX7_readRival 0 [.ref 3, .int (nI row)] [] ((SH, nc, ns), I, J, F) (RdP nc ns T n o I J F (pRiv T n row S)) := by
  refine we_aload_n (p := 1) dX7_readRival_0 rfl rfl ?_
  refine we_iconst (v := 2) (p := 2) dX7_readRival_1 (by decide) rfl ?_
  obtain ⟨_, _, e1, I1, J1, rfl, f1, ⟨z1, rfl, c1⟩ | ⟨z1, rfl, g1, s1⟩⟩ := x_findName (so := 2) ho hF hdF ht hc hz (by decide)
  · skip
    refine we_callV_int (p := 5) (k' := 1) (a := [.ref 3, .int 2]) (rr := []) dX7_readRival_2 rfl rfl rfl rfl (rc_of rfl rfl (by decide) ⟨rfl, by decide⟩) (Nat.le_of_ble_eq_true rfl) (Nat.le_of_ble_eq_true rfl) (by decide) e1 (Or.inl rfl) rfl ?_
    refine we_if_ne (t := 10) (p := 8) dX7_readRival_5 (by decide) rfl rfl (fun hc5 => ?_) (fun hc5 => absurd hc5 (by decide))
    refine we_aload_n (p := 11) dX7_readRival_10 rfl rfl ?_
    refine we_getR (c := 7) (j := 0) (n := 16) (b := o) (p := 14) dX7_readRival_11 rfl rfl (by decide) (by decide) rfl hdF rfl ?_
    refine we_getR (c := 4) (j := 10) (n := 18) (b := (o + 9)) (p := 17) dX7_readRival_14 rfl (s_o ho) (l_o0 ho) (by decide) rfl (r_o10 hF ho) rfl ?_
    refine we_iload_n (p := 18) dX7_readRival_17 rfl rfl ?_
    refine we_aload_n (p := 19) dX7_readRival_18 rfl rfl ?_
    refine wf_getI (c := 7) (j := 15) (n := 16) (v := nI (zV (pFn T n 2 S))) (p := 22) dX7_readRival_19 rfl rfl (by decide) (by decide) (Or.inl rfl) c1.2.2.2.2.2.1 rfl ?_
    refine wf_iast (n := 8) (i := row) (p := 23) dX7_readRival_22 (s_o9 ho) (l_o ho 9 (by decide)) (in_nJ (by omega) (by decide)) (nI_cl (by omega)) rfl ?_
    refine we_aload_n (p := 24) dX7_readRival_23 rfl rfl ?_
    obtain ⟨_, _, e2, rfl, I2, J2, F2, rfl, ⟨rfl, a2, r2⟩⟩ := x_advance (I := (hp_u I1 (o + 9) row (nI (zV (pFn T n 2 S))))) hF ((ht.rd ho f1).rd ho (RdF.rf.uo (Or.inl ⟨by omega, by omega⟩) ho)) (tE_le (c1.st (j := 10) ho (by decide) (by decide)).2.1).1 (c1.st (j := 10) ho (by decide) (by decide)).1.1
    refine we_callV_v (p := 27) (k' := 2) (a := [.ref 3]) (rr := []) dX7_readRival_24 rfl rfl rfl rfl (rc_of rfl rfl (by decide) ⟨rfl, by decide⟩) (Nat.le_of_ble_eq_true rfl) (Nat.le_of_ble_eq_true rfl) (by decide) e2 (Or.inl rfl) rfl ?_
    refine we_aload_n (p := 28) dX7_readRival_27 rfl rfl ?_
    refine we_bipush (v := 19) (p := 30) dX7_readRival_28 (by decide) rfl ?_
    refine we_iconst (v := 0) (p := 31) dX7_readRival_30 (by decide) rfl ?_
    refine we_bipush (v := 99) (p := 33) dX7_readRival_31 (by decide) rfl ?_
    obtain ⟨_, _, e3, I3, J3, rfl, f3, ⟨z3, rfl, c3⟩ | ⟨z3, rfl, g3, s3⟩⟩ := x_takeNumber (w := 19) (lo := 0) (hi := 99) ho hF hdF (((ht.rd ho f1).rd ho (RdF.rf.uo (Or.inl ⟨by omega, by omega⟩) ho)).av a2) ((c1.st (j := 10) ho (by decide) (by decide)).av ho a2 r2) z1 (by decide) (by decide)
    · skip
      refine we_callV_int (p := 36) (k' := 3) (a := [.ref 3, .int 19, .int 0, .int 99]) (rr := []) dX7_readRival_33 rfl rfl rfl rfl (rc_of rfl rfl (by decide) ⟨rfl, by decide⟩) (Nat.le_of_ble_eq_true rfl) (Nat.le_of_ble_eq_true rfl) (by decide) e3 (Or.inl rfl) rfl ?_
      refine we_if_ne (t := 41) (p := 39) dX7_readRival_36 (by decide) rfl rfl (fun hc36 => ?_) (fun hc36 => absurd hc36 (by decide))
      refine we_aload_n (p := 42) dX7_readRival_41 rfl rfl ?_
      refine we_getR (c := 7) (j := 0) (n := 16) (b := o) (p := 45) dX7_readRival_42 rfl rfl (by decide) (by decide) rfl hdF rfl ?_
      refine we_getR (c := 4) (j := 11) (n := 18) (b := (o + 10)) (p := 48) dX7_readRival_45 rfl (s_o ho) (l_o0 ho) (by decide) rfl (r_o11 hF ho) rfl ?_
      refine we_iload_n (p := 49) dX7_readRival_48 rfl rfl ?_
      refine we_aload_n (p := 50) dX7_readRival_49 rfl rfl ?_
      refine wf_getI (c := 7) (j := 15) (n := 16) (v := nI (zV (pTk T n 19 0 99 (pAv T n (pSv 10 row (pFn T n 2 S)))))) (p := 53) dX7_readRival_50 rfl rfl (by decide) (by decide) (Or.inl rfl) c3.2.2.2.2.2.1 rfl ?_
      refine wf_iast (n := 8) (i := row) (p := 54) dX7_readRival_53 (s_o10 ho) (l_o ho 10 (by decide)) (in_nJ (by omega) (by decide)) (nI_cl (by omega)) rfl ?_
      refine we_iconst (v := 1) (p := 55) dX7_readRival_54 (by decide) rfl ?_
      exact wi_ret dX7_readRival_55 rfl (by decide) (by decide) (RdP.ok (X := (pSv 11 row (pTk T n 19 0 99 (pAv T n (pSv 10 row (pFn T n 2 S)))))) (by
      unfold pRiv
      first | (rw [pB_y z1, pB_y z3]; done) | (rw [pB_y z1, pB_y z3]; rfl)) z3 (((((RdF.rf.tr f1).uo (Or.inl ⟨by omega, by omega⟩) ho).tr a2.r).tr f3).uo (Or.inl ⟨by omega, by omega⟩) ho) (c3.st (j := 11) ho (by decide) (by decide)))
    · skip
      refine we_callV_int (p := 36) (k' := 3) (a := [.ref 3, .int 19, .int 0, .int 99]) (rr := []) dX7_readRival_33 rfl rfl rfl rfl (rc_of rfl rfl (by decide) ⟨rfl, by decide⟩) (Nat.le_of_ble_eq_true rfl) (Nat.le_of_ble_eq_true rfl) (by decide) e3 (Or.inl rfl) rfl ?_
      refine we_if_ne (t := 41) (p := 39) dX7_readRival_36 (by decide) rfl rfl (fun hc36 => absurd (by decide) hc36) (fun hc36 => ?_)
      refine we_iconst (v := 0) (p := 40) dX7_readRival_39 (by decide) rfl ?_
      exact wi_ret dX7_readRival_40 rfl (by decide) (by decide) (RdP.go (X := (pTk T n 19 0 99 (pAv T n (pSv 10 row (pFn T n 2 S))))) (by
      unfold pRiv
      first | (rw [pB_y z1, pB_n z3]; done) | (rw [pB_y z1, pB_n z3]; rfl)) z3 ((((RdF.rf.tr f1).uo (Or.inl ⟨by omega, by omega⟩) ho).tr a2.r).tr f3) g3 s3)
  · skip
    refine we_callV_int (p := 5) (k' := 1) (a := [.ref 3, .int 2]) (rr := []) dX7_readRival_2 rfl rfl rfl rfl (rc_of rfl rfl (by decide) ⟨rfl, by decide⟩) (Nat.le_of_ble_eq_true rfl) (Nat.le_of_ble_eq_true rfl) (by decide) e1 (Or.inl rfl) rfl ?_
    refine we_if_ne (t := 10) (p := 8) dX7_readRival_5 (by decide) rfl rfl (fun hc5 => absurd (by decide) hc5) (fun hc5 => ?_)
    refine we_iconst (v := 0) (p := 9) dX7_readRival_8 (by decide) rfl ?_
    exact wi_ret dX7_readRival_9 rfl (by decide) (by decide) (RdP.go (X := (pFn T n 2 S)) (by
      unfold pRiv
      first | (rw [pB_n z1]; done) | (rw [pB_n z1]; rfl)) z1 (RdF.rf.tr f1) g1 s1)
set_option maxRecDepth 10000 in
theorem x_readLetter {I : Nat → Nat → Int32} {J : Nat → Nat → Int64} {F : Nat → Nat → Option Nat} {nc ns : Nat} {T : Nat → Nat} {n o : Nat} {S : pZ} (ho : isO o) (hF : RFok F) (hdF : F 3 0 = some o) (ht : txC T n I J) (hc : cS T n o S I J) (hz : zF S = 0) {row : Nat} (hrow : row < 6) : Ew 4 mX7_readLetter 0 [.ref 3, .int (nI row)] [] ((SH, nc, ns), I, J, F) (RdP nc ns T n o I J F (pLet T n row S)) := by
  refine we_aload_n (p := 1) dX7_readLetter_0 rfl rfl ?_
  refine we_iconst (v := 0) (p := 2) dX7_readLetter_1 (by decide) rfl ?_
  obtain ⟨_, _, e1, I1, J1, rfl, f1, ⟨z1, rfl, c1⟩ | ⟨z1, rfl, g1, s1⟩⟩ := x_findName (so := 0) ho hF hdF ht hc hz (by decide)
  · skip
    refine we_callV_int (p := 5) (k' := 1) (a := [.ref 3, .int 0]) (rr := []) dX7_readLetter_2 rfl rfl rfl rfl (rc_of rfl rfl (by decide) ⟨rfl, by decide⟩) (Nat.le_of_ble_eq_true rfl) (Nat.le_of_ble_eq_true rfl) (by decide) e1 (Or.inl rfl) rfl ?_
    refine we_if_ne (t := 10) (p := 8) dX7_readLetter_5 (by decide) rfl rfl (fun hc5 => ?_) (fun hc5 => absurd hc5 (by decide))
    refine we_aload_n (p := 11) dX7_readLetter_10 rfl rfl ?_
    refine we_getR (c := 7) (j := 0) (n := 16) (b := o) (p := 14) dX7_readLetter_11 rfl rfl (by decide) (by decide) rfl hdF rfl ?_
    refine we_getR (c := 4) (j := 12) (n := 18) (b := (o + 11)) (p := 17) dX7_readLetter_14 rfl (s_o ho) (l_o0 ho) (by decide) rfl (r_o12 hF ho) rfl ?_
    refine we_iload_n (p := 18) dX7_readLetter_17 rfl rfl ?_
    refine we_aload_n (p := 19) dX7_readLetter_18 rfl rfl ?_
    refine wf_getI (c := 7) (j := 15) (n := 16) (v := nI (zV (pFn T n 0 S))) (p := 22) dX7_readLetter_19 rfl rfl (by decide) (by decide) (Or.inl rfl) c1.2.2.2.2.2.1 rfl ?_
    refine wf_iast (n := 6) (i := row) (p := 23) dX7_readLetter_22 (s_o11 ho) (l_o ho 11 (by decide)) (in_nJ (by omega) (by decide)) (nI_cl (by omega)) rfl ?_
    refine we_aload_n (p := 24) dX7_readLetter_23 rfl rfl ?_
    obtain ⟨_, _, e2, rfl, I2, J2, F2, rfl, ⟨rfl, a2, r2⟩⟩ := x_advance (I := (hp_u I1 (o + 11) row (nI (zV (pFn T n 0 S))))) hF ((ht.rd ho f1).rd ho (RdF.rf.uo (Or.inl ⟨by omega, by omega⟩) ho)) (tE_le (c1.st (j := 12) ho (by decide) (by decide)).2.1).1 (c1.st (j := 12) ho (by decide) (by decide)).1.1
    refine we_callV_v (p := 27) (k' := 2) (a := [.ref 3]) (rr := []) dX7_readLetter_24 rfl rfl rfl rfl (rc_of rfl rfl (by decide) ⟨rfl, by decide⟩) (Nat.le_of_ble_eq_true rfl) (Nat.le_of_ble_eq_true rfl) (by decide) e2 (Or.inl rfl) rfl ?_
    refine we_aload_n (p := 28) dX7_readLetter_27 rfl rfl ?_
    refine we_bipush (v := 20) (p := 30) dX7_readLetter_28 (by decide) rfl ?_
    refine we_iconst (v := 1) (p := 31) dX7_readLetter_30 (by decide) rfl ?_
    refine we_iconst (v := 5) (p := 32) dX7_readLetter_31 (by decide) rfl ?_
    obtain ⟨_, _, e3, I3, J3, rfl, f3, ⟨z3, rfl, c3⟩ | ⟨z3, rfl, g3, s3⟩⟩ := x_takeNumber (w := 20) (lo := 1) (hi := 5) ho hF hdF (((ht.rd ho f1).rd ho (RdF.rf.uo (Or.inl ⟨by omega, by omega⟩) ho)).av a2) ((c1.st (j := 12) ho (by decide) (by decide)).av ho a2 r2) z1 (by decide) (by decide)
    · skip
      refine we_callV_int (p := 35) (k' := 3) (a := [.ref 3, .int 20, .int 1, .int 5]) (rr := []) dX7_readLetter_32 rfl rfl rfl rfl (rc_of rfl rfl (by decide) ⟨rfl, by decide⟩) (Nat.le_of_ble_eq_true rfl) (Nat.le_of_ble_eq_true rfl) (by decide) e3 (Or.inl rfl) rfl ?_
      refine we_if_ne (t := 40) (p := 38) dX7_readLetter_35 (by decide) rfl rfl (fun hc35 => ?_) (fun hc35 => absurd hc35 (by decide))
      refine we_aload_n (p := 41) dX7_readLetter_40 rfl rfl ?_
      refine we_getR (c := 7) (j := 0) (n := 16) (b := o) (p := 44) dX7_readLetter_41 rfl rfl (by decide) (by decide) rfl hdF rfl ?_
      refine we_getR (c := 4) (j := 13) (n := 18) (b := (o + 12)) (p := 47) dX7_readLetter_44 rfl (s_o ho) (l_o0 ho) (by decide) rfl (r_o13 hF ho) rfl ?_
      refine we_iload_n (p := 48) dX7_readLetter_47 rfl rfl ?_
      refine we_aload_n (p := 49) dX7_readLetter_48 rfl rfl ?_
      refine wf_getI (c := 7) (j := 15) (n := 16) (v := nI (zV (pTk T n 20 1 5 (pAv T n (pSv 12 row (pFn T n 0 S)))))) (p := 52) dX7_readLetter_49 rfl rfl (by decide) (by decide) (Or.inl rfl) c3.2.2.2.2.2.1 rfl ?_
      refine wf_iast (n := 6) (i := row) (p := 53) dX7_readLetter_52 (s_o12 ho) (l_o ho 12 (by decide)) (in_nJ (by omega) (by decide)) (nI_cl (by omega)) rfl ?_
      refine we_iconst (v := 1) (p := 54) dX7_readLetter_53 (by decide) rfl ?_
      exact wi_ret dX7_readLetter_54 rfl (by decide) (by decide) (RdP.ok (X := (pSv 13 row (pTk T n 20 1 5 (pAv T n (pSv 12 row (pFn T n 0 S)))))) (by
      unfold pLet
      first | (rw [pB_y z1, pB_y z3]; done) | (rw [pB_y z1, pB_y z3]; rfl)) z3 (((((RdF.rf.tr f1).uo (Or.inl ⟨by omega, by omega⟩) ho).tr a2.r).tr f3).uo (Or.inl ⟨by omega, by omega⟩) ho) (c3.st (j := 13) ho (by decide) (by decide)))
    · skip
      refine we_callV_int (p := 35) (k' := 3) (a := [.ref 3, .int 20, .int 1, .int 5]) (rr := []) dX7_readLetter_32 rfl rfl rfl rfl (rc_of rfl rfl (by decide) ⟨rfl, by decide⟩) (Nat.le_of_ble_eq_true rfl) (Nat.le_of_ble_eq_true rfl) (by decide) e3 (Or.inl rfl) rfl ?_
      refine we_if_ne (t := 40) (p := 38) dX7_readLetter_35 (by decide) rfl rfl (fun hc35 => absurd (by decide) hc35) (fun hc35 => ?_)
      refine we_iconst (v := 0) (p := 39) dX7_readLetter_38 (by decide) rfl ?_
      exact wi_ret dX7_readLetter_39 rfl (by decide) (by decide) (RdP.go (X := (pTk T n 20 1 5 (pAv T n (pSv 12 row (pFn T n 0 S))))) (by
      unfold pLet
      first | (rw [pB_y z1, pB_n z3]; done) | (rw [pB_y z1, pB_n z3]; rfl)) z3 ((((RdF.rf.tr f1).uo (Or.inl ⟨by omega, by omega⟩) ho).tr a2.r).tr f3) g3 s3)
  · skip
    refine we_callV_int (p := 5) (k' := 1) (a := [.ref 3, .int 0]) (rr := []) dX7_readLetter_2 rfl rfl rfl rfl (rc_of rfl rfl (by decide) ⟨rfl, by decide⟩) (Nat.le_of_ble_eq_true rfl) (Nat.le_of_ble_eq_true rfl) (by decide) e1 (Or.inl rfl) rfl ?_
    refine we_if_ne (t := 10) (p := 8) dX7_readLetter_5 (by decide) rfl rfl (fun hc5 => absurd (by decide) hc5) (fun hc5 => ?_)
    refine we_iconst (v := 0) (p := 9) dX7_readLetter_8 (by decide) rfl ?_
    exact wi_ret dX7_readLetter_9 rfl (by decide) (by decide) (RdP.go (X := (pFn T n 0 S)) (by
      unfold pLet
      first | (rw [pB_n z1]; done) | (rw [pB_n z1]; rfl)) z1 (RdF.rf.tr f1) g1 s1)
set_option maxRecDepth 10000 in
theorem x_readHand {I : Nat → Nat → Int32} {J : Nat → Nat → Int64} {F : Nat → Nat → Option Nat} {nc ns : Nat} {T : Nat → Nat} {n o : Nat} {S : pZ} (ho : isO o) (hF : RFok F) (hdF : F 3 0 = some o) (ht : txC T n I J) (hc : cS T n o S I J) (hz : zF S = 0) {row : Nat} (hrow : row < 5) (h19 : zC S < 19) : Ew 4 mX7_readHand 0 [.ref 3, .int (nI row)] [] ((SH, nc, ns), I, J, F) (RdP nc ns T n o I J F (pHan T n row S)) := by
  refine we_aload_n (p := 1) dX7_readHand_0 rfl rfl ?_
  refine we_iconst (v := 5) (p := 2) dX7_readHand_1 (by decide) rfl ?_
  refine we_iload_n (p := 3) dX7_readHand_2 rfl rfl ?_
  obtain ⟨_, _, e1, I1, J1, rfl, f1, ⟨z1, rfl, c1⟩ | ⟨z1, rfl, g1, s1⟩⟩ := x_takeNewName (so := 5) (row := row) ho hF hdF ht hc hz (by omega) (by decide) (fun _ => by omega) h19
  · skip
    refine we_callV_int (p := 6) (k' := 3) (a := [.ref 3, .int 5, .int (nI row)]) (rr := []) dX7_readHand_3 rfl rfl rfl rfl (rc_of rfl rfl (by decide) ⟨rfl, by decide⟩) (Nat.le_of_ble_eq_true rfl) (Nat.le_of_ble_eq_true rfl) (by decide) e1 (Or.inl rfl) rfl ?_
    refine we_if_eq (t := 21) (p := 9) dX7_readHand_6 (by decide) rfl rfl (fun hc6 => absurd hc6 (by decide)) (fun hc6 => ?_)
    refine we_aload_n (p := 10) dX7_readHand_9 rfl rfl ?_
    refine we_bipush (v := 21) (p := 12) dX7_readHand_10 (by decide) rfl ?_
    refine we_iconst (v := 0) (p := 13) dX7_readHand_12 (by decide) rfl ?_
    refine we_bipush (v := 60) (p := 15) dX7_readHand_13 (by decide) rfl ?_
    obtain ⟨_, _, e2, I2, J2, rfl, f2, ⟨z2, rfl, c2⟩ | ⟨z2, rfl, g2, s2⟩⟩ := x_takeNumber (w := 21) (lo := 0) (hi := 60) ho hF hdF (ht.rd ho f1) c1 z1 (by decide) (by decide)
    · skip
      refine we_callV_int (p := 18) (k' := 3) (a := [.ref 3, .int 21, .int 0, .int 60]) (rr := []) dX7_readHand_15 rfl rfl rfl rfl (rc_of rfl rfl (by decide) ⟨rfl, by decide⟩) (Nat.le_of_ble_eq_true rfl) (Nat.le_of_ble_eq_true rfl) (by decide) e2 (Or.inl rfl) rfl ?_
      refine we_if_ne (t := 23) (p := 21) dX7_readHand_18 (by decide) rfl rfl (fun hc18 => ?_) (fun hc18 => absurd hc18 (by decide))
      refine we_aload_n (p := 24) dX7_readHand_23 rfl rfl ?_
      refine we_getR (c := 7) (j := 0) (n := 16) (b := o) (p := 27) dX7_readHand_24 rfl rfl (by decide) (by decide) rfl hdF rfl ?_
      refine we_getR (c := 4) (j := 14) (n := 18) (b := (o + 13)) (p := 30) dX7_readHand_27 rfl (s_o ho) (l_o0 ho) (by decide) rfl (r_o14 hF ho) rfl ?_
      refine we_iload_n (p := 31) dX7_readHand_30 rfl rfl ?_
      refine we_aload_n (p := 32) dX7_readHand_31 rfl rfl ?_
      refine wf_getI (c := 7) (j := 15) (n := 16) (v := nI (zV (pTk T n 21 0 60 (pNw T n 5 row S)))) (p := 35) dX7_readHand_32 rfl rfl (by decide) (by decide) (Or.inl rfl) c2.2.2.2.2.2.1 rfl ?_
      refine wf_iast (n := 5) (i := row) (p := 36) dX7_readHand_35 (s_o13 ho) (l_o ho 13 (by decide)) (in_nJ (by omega) (by decide)) (nI_cl (by omega)) rfl ?_
      refine we_aload_n (p := 37) dX7_readHand_36 rfl rfl ?_
      refine we_bipush (v := 22) (p := 39) dX7_readHand_37 (by decide) rfl ?_
      refine we_iconst (v := 1) (p := 40) dX7_readHand_39 (by decide) rfl ?_
      refine we_bipush (v := 9) (p := 42) dX7_readHand_40 (by decide) rfl ?_
      obtain ⟨_, _, e3, I3, J3, rfl, f3, ⟨z3, rfl, c3⟩ | ⟨z3, rfl, g3, s3⟩⟩ := x_takeNumber (w := 22) (lo := 1) (hi := 9) ho hF hdF (((ht.rd ho f1).rd ho f2).rd ho (RdF.rf.uo (Or.inl ⟨by omega, by omega⟩) ho)) (c2.st (j := 14) ho (by decide) (by decide)) z2 (by decide) (by decide)
      · skip
        refine we_callV_int (p := 45) (k' := 3) (a := [.ref 3, .int 22, .int 1, .int 9]) (rr := []) dX7_readHand_42 rfl rfl rfl rfl (rc_of rfl rfl (by decide) ⟨rfl, by decide⟩) (Nat.le_of_ble_eq_true rfl) (Nat.le_of_ble_eq_true rfl) (by decide) e3 (Or.inl rfl) rfl ?_
        refine we_if_ne (t := 50) (p := 48) dX7_readHand_45 (by decide) rfl rfl (fun hc45 => ?_) (fun hc45 => absurd hc45 (by decide))
        refine we_aload_n (p := 51) dX7_readHand_50 rfl rfl ?_
        refine we_getR (c := 7) (j := 0) (n := 16) (b := o) (p := 54) dX7_readHand_51 rfl rfl (by decide) (by decide) rfl hdF rfl ?_
        refine we_getR (c := 4) (j := 15) (n := 18) (b := (o + 14)) (p := 57) dX7_readHand_54 rfl (s_o ho) (l_o0 ho) (by decide) rfl (r_o15 hF ho) rfl ?_
        refine we_iload_n (p := 58) dX7_readHand_57 rfl rfl ?_
        refine we_aload_n (p := 59) dX7_readHand_58 rfl rfl ?_
        refine wf_getI (c := 7) (j := 15) (n := 16) (v := nI (zV (pTk T n 22 1 9 (pSv 14 row (pTk T n 21 0 60 (pNw T n 5 row S)))))) (p := 62) dX7_readHand_59 rfl rfl (by decide) (by decide) (Or.inl rfl) c3.2.2.2.2.2.1 rfl ?_
        refine wf_iast (n := 5) (i := row) (p := 63) dX7_readHand_62 (s_o14 ho) (l_o ho 14 (by decide)) (in_nJ (by omega) (by decide)) (nI_cl (by omega)) rfl ?_
        refine we_iconst (v := 1) (p := 64) dX7_readHand_63 (by decide) rfl ?_
        exact wi_ret dX7_readHand_64 rfl (by decide) (by decide) (RdP.ok (X := (pSv 15 row (pTk T n 22 1 9 (pSv 14 row (pTk T n 21 0 60 (pNw T n 5 row S)))))) (by
      unfold pHan
      first | (rw [pB_y z1, pB_y z2, pB_y z3]; done) | (rw [pB_y z1, pB_y z2, pB_y z3]; rfl)) z3 (((((RdF.rf.tr f1).tr f2).uo (Or.inl ⟨by omega, by omega⟩) ho).tr f3).uo (Or.inl ⟨by omega, by omega⟩) ho) (c3.st (j := 15) ho (by decide) (by decide)))
      · skip
        refine we_callV_int (p := 45) (k' := 3) (a := [.ref 3, .int 22, .int 1, .int 9]) (rr := []) dX7_readHand_42 rfl rfl rfl rfl (rc_of rfl rfl (by decide) ⟨rfl, by decide⟩) (Nat.le_of_ble_eq_true rfl) (Nat.le_of_ble_eq_true rfl) (by decide) e3 (Or.inl rfl) rfl ?_
        refine we_if_ne (t := 50) (p := 48) dX7_readHand_45 (by decide) rfl rfl (fun hc45 => absurd (by decide) hc45) (fun hc45 => ?_)
        refine we_iconst (v := 0) (p := 49) dX7_readHand_48 (by decide) rfl ?_
        exact wi_ret dX7_readHand_49 rfl (by decide) (by decide) (RdP.go (X := (pTk T n 22 1 9 (pSv 14 row (pTk T n 21 0 60 (pNw T n 5 row S))))) (by
      unfold pHan
      first | (rw [pB_y z1, pB_y z2, pB_n z3]; done) | (rw [pB_y z1, pB_y z2, pB_n z3]; rfl)) z3 ((((RdF.rf.tr f1).tr f2).uo (Or.inl ⟨by omega, by omega⟩) ho).tr f3) g3 s3)
    · skip
      refine we_callV_int (p := 18) (k' := 3) (a := [.ref 3, .int 21, .int 0, .int 60]) (rr := []) dX7_readHand_15 rfl rfl rfl rfl (rc_of rfl rfl (by decide) ⟨rfl, by decide⟩) (Nat.le_of_ble_eq_true rfl) (Nat.le_of_ble_eq_true rfl) (by decide) e2 (Or.inl rfl) rfl ?_
      refine we_if_ne (t := 23) (p := 21) dX7_readHand_18 (by decide) rfl rfl (fun hc18 => absurd (by decide) hc18) (fun hc18 => ?_)
      refine we_iconst (v := 0) (p := 22) dX7_readHand_21 (by decide) rfl ?_
      exact wi_ret dX7_readHand_22 rfl (by decide) (by decide) (RdP.go (X := (pTk T n 21 0 60 (pNw T n 5 row S))) (by
      unfold pHan
      first | (rw [pB_y z1, pB_n z2]; done) | (rw [pB_y z1, pB_n z2]; rfl)) z2 ((RdF.rf.tr f1).tr f2) g2 s2)
  · skip
    refine we_callV_int (p := 6) (k' := 3) (a := [.ref 3, .int 5, .int (nI row)]) (rr := []) dX7_readHand_3 rfl rfl rfl rfl (rc_of rfl rfl (by decide) ⟨rfl, by decide⟩) (Nat.le_of_ble_eq_true rfl) (Nat.le_of_ble_eq_true rfl) (by decide) e1 (Or.inl rfl) rfl ?_
    refine we_if_eq (t := 21) (p := 9) dX7_readHand_6 (by decide) rfl rfl (fun hc6 => ?_) (fun hc6 => absurd (by decide) hc6)
    refine we_iconst (v := 0) (p := 22) dX7_readHand_21 (by decide) rfl ?_
    exact wi_ret dX7_readHand_22 rfl (by decide) (by decide) (RdP.go (X := (pNw T n 5 row S)) (by
      unfold pHan
      first | (rw [pB_n z1]; done) | (rw [pB_n z1]; rfl)) z1 (RdF.rf.tr f1) g1 s1)
set_option maxRecDepth 10000 in
theorem x_readNearly {I : Nat → Nat → Int32} {J : Nat → Nat → Int64} {F : Nat → Nat → Option Nat} {nc ns : Nat} {T : Nat → Nat} {n o : Nat} {S : pZ} (ho : isO o) (hF : RFok F) (hdF : F 3 0 = some o) (ht : txC T n I J) (hc : cS T n o S I J) (hz : zF S = 0) {row : Nat} (hrow : row < 4) : Ew 4 mX7_readNearly 0 [.ref 3, .int (nI row)] [] ((SH, nc, ns), I, J, F) (RdP nc ns T n o I J F (pNea T n row S)) := by
  refine we_aload_n (p := 1) dX7_readNearly_0 rfl rfl ?_
  refine we_bipush (v := 23) (p := 3) dX7_readNearly_1 (by decide) rfl ?_
  refine we_iconst (v := 0) (p := 4) dX7_readNearly_3 (by decide) rfl ?_
  refine we_bipush (v := 8) (p := 6) dX7_readNearly_4 (by decide) rfl ?_
  obtain ⟨_, _, e1, I1, J1, rfl, f1, ⟨z1, rfl, c1⟩ | ⟨z1, rfl, g1, s1⟩⟩ := x_takeNumber (w := 23) (lo := 0) (hi := 8) ho hF hdF ht hc hz (by decide) (by decide)
  · skip
    refine we_callV_int (p := 9) (k' := 3) (a := [.ref 3, .int 23, .int 0, .int 8]) (rr := []) dX7_readNearly_6 rfl rfl rfl rfl (rc_of rfl rfl (by decide) ⟨rfl, by decide⟩) (Nat.le_of_ble_eq_true rfl) (Nat.le_of_ble_eq_true rfl) (by decide) e1 (Or.inl rfl) rfl ?_
    refine we_if_ne (t := 14) (p := 12) dX7_readNearly_9 (by decide) rfl rfl (fun hc9 => ?_) (fun hc9 => absurd hc9 (by decide))
    refine we_aload_n (p := 15) dX7_readNearly_14 rfl rfl ?_
    refine we_getR (c := 7) (j := 0) (n := 16) (b := o) (p := 18) dX7_readNearly_15 rfl rfl (by decide) (by decide) rfl hdF rfl ?_
    refine we_getR (c := 4) (j := 16) (n := 18) (b := (o + 15)) (p := 21) dX7_readNearly_18 rfl (s_o ho) (l_o0 ho) (by decide) rfl (r_o16 hF ho) rfl ?_
    refine we_iload_n (p := 22) dX7_readNearly_21 rfl rfl ?_
    refine we_aload_n (p := 23) dX7_readNearly_22 rfl rfl ?_
    refine wf_getI (c := 7) (j := 15) (n := 16) (v := nI (zV (pTk T n 23 0 8 S))) (p := 26) dX7_readNearly_23 rfl rfl (by decide) (by decide) (Or.inl rfl) c1.2.2.2.2.2.1 rfl ?_
    refine wf_iast (n := 4) (i := row) (p := 27) dX7_readNearly_26 (s_o15 ho) (l_o ho 15 (by decide)) (in_nJ (by omega) (by decide)) (nI_cl (by omega)) rfl ?_
    refine we_aload_n (p := 28) dX7_readNearly_27 rfl rfl ?_
    refine we_bipush (v := 24) (p := 30) dX7_readNearly_28 (by decide) rfl ?_
    refine we_bipush (v := 16) (p := 32) dX7_readNearly_30 (by decide) rfl ?_
    refine we_bipush (v := 40) (p := 34) dX7_readNearly_32 (by decide) rfl ?_
    obtain ⟨_, _, e2, I2, J2, rfl, f2, ⟨z2, rfl, c2⟩ | ⟨z2, rfl, g2, s2⟩⟩ := x_takeNumber (w := 24) (lo := 16) (hi := 40) ho hF hdF ((ht.rd ho f1).rd ho (RdF.rf.uo (Or.inl ⟨by omega, by omega⟩) ho)) (c1.st (j := 16) ho (by decide) (by decide)) z1 (by decide) (by decide)
    · skip
      refine we_callV_int (p := 37) (k' := 3) (a := [.ref 3, .int 24, .int 16, .int 40]) (rr := []) dX7_readNearly_34 rfl rfl rfl rfl (rc_of rfl rfl (by decide) ⟨rfl, by decide⟩) (Nat.le_of_ble_eq_true rfl) (Nat.le_of_ble_eq_true rfl) (by decide) e2 (Or.inl rfl) rfl ?_
      refine we_if_ne (t := 42) (p := 40) dX7_readNearly_37 (by decide) rfl rfl (fun hc37 => ?_) (fun hc37 => absurd hc37 (by decide))
      refine we_aload_n (p := 43) dX7_readNearly_42 rfl rfl ?_
      refine we_getR (c := 7) (j := 0) (n := 16) (b := o) (p := 46) dX7_readNearly_43 rfl rfl (by decide) (by decide) rfl hdF rfl ?_
      refine we_getR (c := 4) (j := 17) (n := 18) (b := (o + 16)) (p := 49) dX7_readNearly_46 rfl (s_o ho) (l_o0 ho) (by decide) rfl (r_o17 hF ho) rfl ?_
      refine we_iload_n (p := 50) dX7_readNearly_49 rfl rfl ?_
      refine we_aload_n (p := 51) dX7_readNearly_50 rfl rfl ?_
      refine wf_getI (c := 7) (j := 15) (n := 16) (v := nI (zV (pTk T n 24 16 40 (pSv 16 row (pTk T n 23 0 8 S))))) (p := 54) dX7_readNearly_51 rfl rfl (by decide) (by decide) (Or.inl rfl) c2.2.2.2.2.2.1 rfl ?_
      refine wf_iast (n := 4) (i := row) (p := 55) dX7_readNearly_54 (s_o16 ho) (l_o ho 16 (by decide)) (in_nJ (by omega) (by decide)) (nI_cl (by omega)) rfl ?_
      refine we_iconst (v := 1) (p := 56) dX7_readNearly_55 (by decide) rfl ?_
      exact wi_ret dX7_readNearly_56 rfl (by decide) (by decide) (RdP.ok (X := (pSv 17 row (pTk T n 24 16 40 (pSv 16 row (pTk T n 23 0 8 S))))) (by
      unfold pNea
      first | (rw [pB_y z1, pB_y z2]; done) | (rw [pB_y z1, pB_y z2]; rfl)) z2 ((((RdF.rf.tr f1).uo (Or.inl ⟨by omega, by omega⟩) ho).tr f2).uo (Or.inl ⟨by omega, by omega⟩) ho) (c2.st (j := 17) ho (by decide) (by decide)))
    · skip
      refine we_callV_int (p := 37) (k' := 3) (a := [.ref 3, .int 24, .int 16, .int 40]) (rr := []) dX7_readNearly_34 rfl rfl rfl rfl (rc_of rfl rfl (by decide) ⟨rfl, by decide⟩) (Nat.le_of_ble_eq_true rfl) (Nat.le_of_ble_eq_true rfl) (by decide) e2 (Or.inl rfl) rfl ?_
      refine we_if_ne (t := 42) (p := 40) dX7_readNearly_37 (by decide) rfl rfl (fun hc37 => absurd (by decide) hc37) (fun hc37 => ?_)
      refine we_iconst (v := 0) (p := 41) dX7_readNearly_40 (by decide) rfl ?_
      exact wi_ret dX7_readNearly_41 rfl (by decide) (by decide) (RdP.go (X := (pTk T n 24 16 40 (pSv 16 row (pTk T n 23 0 8 S)))) (by
      unfold pNea
      first | (rw [pB_y z1, pB_n z2]; done) | (rw [pB_y z1, pB_n z2]; rfl)) z2 (((RdF.rf.tr f1).uo (Or.inl ⟨by omega, by omega⟩) ho).tr f2) g2 s2)
  · skip
    refine we_callV_int (p := 9) (k' := 3) (a := [.ref 3, .int 23, .int 0, .int 8]) (rr := []) dX7_readNearly_6 rfl rfl rfl rfl (rc_of rfl rfl (by decide) ⟨rfl, by decide⟩) (Nat.le_of_ble_eq_true rfl) (Nat.le_of_ble_eq_true rfl) (by decide) e1 (Or.inl rfl) rfl ?_
    refine we_if_ne (t := 14) (p := 12) dX7_readNearly_9 (by decide) rfl rfl (fun hc9 => absurd (by decide) hc9) (fun hc9 => ?_)
    refine we_iconst (v := 0) (p := 13) dX7_readNearly_12 (by decide) rfl ?_
    exact wi_ret dX7_readNearly_13 rfl (by decide) (by decide) (RdP.go (X := (pTk T n 23 0 8 S)) (by
      unfold pNea
      first | (rw [pB_n z1]; done) | (rw [pB_n z1]; rfl)) z1 (RdF.rf.tr f1) g1 s1)
