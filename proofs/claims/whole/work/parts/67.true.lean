/-! isTrue on both sides. -/
theorem x_lowE {I : Nat → Nat → Int32} {J : Nat → Nat → Int64} {F : Nat → Nat → Option Nat} {nc ns : Nat} {u d : Nat} {b : Int32} {a c : Int64} (ha : a = lN u) (hc : c = lN d) (hu : u < 2 ^ 63) (hd : d < 2 ^ 63) (h0 : 0 < d) : Ev 0 mX11_inLowestTerms 0 [.long a, .null, .long c, .null, .int b, .null, .null, .null, .null, .null, .null, .null] [] ((SH, nc, ns), I, J, F) (some (.long (lowS u d b))) ((SH, nc, ns), I, J, F) := by
  subst ha hc
  exact x_low hu hd h0
theorem y_lowE {I : Nat → Nat → Int32} {J : Nat → Nat → Int64} {F : Nat → Nat → Option Nat} {nc ns : Nat} {u d : Nat} {b : Int32} {a c : Int64} (ha : a = lN u) (hc : c = lN d) (hu : u < 2 ^ 63) (hd : d < 2 ^ 63) (h0 : 0 < d) : Ev 0 mX12_lowest 0 [.long a, .null, .long c, .null, .int b, .null, .null, .null, .null, .null, .null] [] ((SH, nc, ns), I, J, F) (some (.long (lowS u d b))) ((SH, nc, ns), I, J, F) := by
  subst ha hc
  exact y_low hu hd h0
theorem pow_love {D : oD} (hW : WF D) {w : Nat} (hw : w < dN D 2) (y : Int32) : powS D (loveS D w y).toInt64 = lN (loveN D w y ^ tN D) := by
  obtain ⟨e, h⟩ := love_n hW hw y
  rw [e, nI_l (by omega), pow_n hW.t]
theorem pow_100 {D : oD} (hW : WF D) : powS D ((100 : Int32)).toInt64 = lN (100 ^ tN D) := by
  rw [show ((100 : Int32)).toInt64 = lN 100 from nI_l (n := 100) (by omega), pow_n hW.t]
theorem pow_100' {D : oD} (hW : WF D) : powS D 100 = lN (100 ^ tN D) := pow_n (x := 100) hW.t
theorem lvN_lt {D : oD} (hW : WF D) {w : Nat} (hw : w < dN D 2) (y : Int32) : loveN D w y ^ tN D < 2 ^ 63 := by
  have := pow_lt hW.t (x := loveN D w y) (by have := (love_n hW hw y).2; omega)
  omega
theorem h_lt {D : oD} (hW : WF D) : 100 ^ tN D < 2 ^ 63 := by
  have := pow_lt hW.t (x := 100) (by omega)
  omega
set_option maxRecDepth 10000 in
theorem c_isTrue_no {I : Nat → Nat → Int32} {J : Nat → Nat → Int64} {F : Nat → Nat → Option Nat} {nc ns : Nat} {o : Nat} {D : oD} {s : Nat → Int32} (ho : isO o) (hF : RFok F) (hoF : F 0 2 = some o) (hC : oC I o D) (hW : WF D) (hm : mo I 42 s) (hS : WFs D s) {v l b : Int32} (ht : ¬ (eiS (ixS v (dN D 2)) (nuS l 0 30)) = 0) : Ev 4 mX11_isTrue 0 [.ref 0, .int v, .int l, .int b] [] ((SH, nc, ns), I, J, F) (some (.long (-1))) ((SH, nc, ns), hp_u I 0 10 (eiS (ixS v (dN D 2)) (nuS l 0 30)), J, F) := by
  have hD := hW.c
  have hH := hW.h
  have hT := hW.t
  have bt := hT.2
  obtain ⟨b0, b1, b2, b3, b4, b5, b6⟩ := hD.2
  refine e_aload_n (p := 1) dX11_isTrue_0 rfl rfl ?_
  refine e_aload_n (p := 2) dX11_isTrue_1 rfl rfl ?_
  refine e_iload_n (p := 3) dX11_isTrue_2 rfl rfl ?_
  refine e_callV_int (p := 6) (k' := 1) (a := [.ref 0, .int v]) (rr := [.ref 0]) dX11_isTrue_3 rfl rfl rfl rfl (rc_of rfl rfl (by decide) ⟨rfl, by decide⟩) (Nat.le_of_ble_eq_true rfl) (Nat.le_of_ble_eq_true rfl) (by decide) (x_ofWoman ho hF hoF hC hW hm hS) (Or.inl rfl) rfl ?_
  refine e_aload_n (p := 7) dX11_isTrue_6 rfl rfl ?_
  refine e_iload_n (p := 8) dX11_isTrue_7 rfl rfl ?_
  refine e_callV_int (p := 11) (k' := 1) (a := [.ref 0, .int l]) (rr := [.int (ixS v (dN D 2)), .ref 0]) dX11_isTrue_8 rfl rfl rfl rfl (rc_of rfl rfl (by decide) ⟨rfl, by decide⟩) (Nat.le_of_ble_eq_true rfl) (Nat.le_of_ble_eq_true rfl) (by decide) x_ofLanding (Or.inl rfl) rfl ?_
  refine e_callS_int (p := 14) (k' := 0) (a := [.int (ixS v (dN D 2)), .int (nuS l 0 30)]) (rr := [.ref 0]) dX11_isTrue_11 rfl rfl rfl rfl rfl (rc_st rfl) (Nat.le_of_ble_eq_true rfl) (Nat.le_of_ble_eq_true rfl) (by decide) x_either (Or.inl rfl) rfl ?_
  refine e_callV_int (p := 17) (k' := 0) (a := [.ref 0, .int (eiS (ixS v (dN D 2)) (nuS l 0 30))]) (rr := []) dX11_isTrue_14 rfl rfl rfl rfl (rc_of rfl rfl (by decide) ⟨rfl, by decide⟩) (Nat.le_of_ble_eq_true rfl) (Nat.le_of_ble_eq_true rfl) (by decide) x_refused (Or.inl rfl) rfl ?_
  refine e_if_eq (t := 24) (p := 20) dX11_isTrue_17 (by decide) rfl rfl (fun hc17 => absurd hc17 (rf_ne ht)) (fun hc17 => ?_)
  refine e_ldc2 (p := 23) dX11_isTrue_20 rfl rfl ?_
  exact e_lretE dX11_isTrue_23 rfl ⟨rfl, rfl⟩
set_option maxRecDepth 10000 in
theorem c_isTrue_ok {I : Nat → Nat → Int32} {J : Nat → Nat → Int64} {F : Nat → Nat → Option Nat} {nc ns : Nat} {o : Nat} {D : oD} {s : Nat → Int32} (ho : isO o) (hF : RFok F) (hoF : F 0 2 = some o) (hC : oC I o D) (hW : WF D) (hm : mo I 42 s) (hS : WFs D s) {w : Nat} (hw : w < dN D 2) {l : Nat} (hl : l ≤ 30) {b : Int32}  : Ev 4 mX11_isTrue 0 [.ref 0, .int (nI w), .int (nI l), .int b] [] ((SH, nc, ns), I, J, F) (some (.long (lowS (loveN D w (nI l * D 0 0) ^ tN D) (100 ^ tN D) b))) ((SH, nc, ns), hp_u I 0 10 0, J, F) := by
  have hD := hW.c
  have hH := hW.h
  have hT := hW.t
  have bt := hT.2
  obtain ⟨b0, b1, b2, b3, b4, b5, b6⟩ := hD.2
  refine e_aload_n (p := 1) dX11_isTrue_0 rfl rfl ?_
  refine e_aload_n (p := 2) dX11_isTrue_1 rfl rfl ?_
  refine e_iload_n (p := 3) dX11_isTrue_2 rfl rfl ?_
  refine e_callV_int (p := 6) (k' := 1) (a := [.ref 0, .int (nI w)]) (rr := [.ref 0]) dX11_isTrue_3 rfl rfl rfl rfl (rc_of rfl rfl (by decide) ⟨rfl, by decide⟩) (Nat.le_of_ble_eq_true rfl) (Nat.le_of_ble_eq_true rfl) (by decide) (Ev.i (ix_ok (n := dN D 2) (by omega) (by omega)) (x_ofWoman ho hF hoF hC hW hm hS)) (Or.inl rfl) rfl ?_
  refine e_aload_n (p := 7) dX11_isTrue_6 rfl rfl ?_
  refine e_iload_n (p := 8) dX11_isTrue_7 rfl rfl ?_
  refine e_callV_int (p := 11) (k' := 1) (a := [.ref 0, .int (nI l)]) (rr := [.int 0, .ref 0]) dX11_isTrue_8 rfl rfl rfl rfl (rc_of rfl rfl (by decide) ⟨rfl, by decide⟩) (Nat.le_of_ble_eq_true rfl) (Nat.le_of_ble_eq_true rfl) (by decide) (Ev.i (nu_ok (a := 0) (b := 30) (n := l) (by omega) (by omega) (by omega)) (x_ofLanding)) (Or.inl rfl) rfl ?_
  refine e_callS_int (p := 14) (k' := 0) (a := [.int 0, .int 0]) (rr := [.ref 0]) dX11_isTrue_11 rfl rfl rfl rfl rfl (rc_st rfl) (Nat.le_of_ble_eq_true rfl) (Nat.le_of_ble_eq_true rfl) (by decide) (Ev.i (show eiS 0 0 = 0 by decide) (x_either)) (Or.inl rfl) rfl ?_
  refine e_callV_int (p := 17) (k' := 0) (a := [.ref 0, .int 0]) (rr := []) dX11_isTrue_14 rfl rfl rfl rfl (rc_of rfl rfl (by decide) ⟨rfl, by decide⟩) (Nat.le_of_ble_eq_true rfl) (Nat.le_of_ble_eq_true rfl) (by decide) (Ev.i (show rfS 0 = 0 by decide) (x_refused)) (Or.inl rfl) rfl ?_
  refine e_if_eq (t := 24) (p := 20) dX11_isTrue_17 (by decide) rfl rfl (fun hc17 => ?_) (fun hc17 => absurd (by decide) hc17)
  refine e_aload_n (p := 25) dX11_isTrue_24 rfl rfl ?_
  refine e_getR (c := 10) (j := 2) (n := 13) (b := o) (p := 28) dX11_isTrue_25 rfl rfl (by decide) (by decide) rfl hoF rfl ?_
  refine e_aload_n (p := 29) dX11_isTrue_28 rfl rfl ?_
  refine e_getR (c := 10) (j := 2) (n := 13) (b := o) (p := 32) dX11_isTrue_29 rfl rfl (by decide) (by decide) rfl hoF rfl ?_
  refine e_iload_n (p := 33) dX11_isTrue_32 rfl rfl ?_
  refine e_iload_n (p := 34) dX11_isTrue_33 rfl rfl ?_
  refine e_callV_int (p := 37) (k' := 3) (a := [.ref o, .int (nI w), .int (nI l)]) (rr := [.ref o]) dX11_isTrue_34 rfl rfl rfl rfl (rc_of rfl (s_o ho) (l_o0 ho) ⟨rfl, by decide⟩) (Nat.le_of_ble_eq_true rfl) (Nat.le_of_ble_eq_true rfl) (by decide) (x_loveAt ho hF (oC_u hC ho (by decide)) hW.c hW.h (by omega)) (Or.inl rfl) rfl ?_
  refine e_callV_long (p := 40) (k' := 0) (a := [.ref o, .int (loveS D w ((nI l) * D 0 0))]) (rr := []) dX11_isTrue_37 rfl rfl rfl rfl (rc_of rfl (s_o ho) (l_o0 ho) ⟨rfl, by decide⟩) (Nat.le_of_ble_eq_true rfl) (Nat.le_of_ble_eq_true rfl) (by decide) (x_overTrial ho hF (oC_u hC ho (by decide)) hW.c hW.t) (Or.inl rfl) rfl ?_
  refine e_aload_n (p := 41) dX11_isTrue_40 rfl rfl ?_
  refine e_getR (c := 10) (j := 2) (n := 13) (b := o) (p := 44) dX11_isTrue_41 rfl rfl (by decide) (by decide) rfl hoF rfl ?_
  refine e_bipush (v := 100) (p := 46) dX11_isTrue_44 (by decide) rfl ?_
  refine e_callV_long (p := 49) (k' := 0) (a := [.ref o, .int 100]) (rr := [.long (powS D (loveS D w ((nI l) * D 0 0)).toInt64)]) dX11_isTrue_46 rfl rfl rfl rfl (rc_of rfl (s_o ho) (l_o0 ho) ⟨rfl, by decide⟩) (Nat.le_of_ble_eq_true rfl) (Nat.le_of_ble_eq_true rfl) (by decide) (x_overTrial ho hF (oC_u hC ho (by decide)) hW.c hW.t) (Or.inl rfl) rfl ?_
  refine e_iload_n (p := 50) dX11_isTrue_49 rfl rfl ?_
  refine e_callS_long (p := 53) (k' := 0) (a := [.long (powS D (loveS D w ((nI l) * D 0 0)).toInt64), .long (powS D ((100 : Int32)).toInt64), .int b]) (rr := []) dX11_isTrue_50 rfl rfl rfl rfl rfl (rc_st rfl) (Nat.le_of_ble_eq_true rfl) (Nat.le_of_ble_eq_true rfl) (by decide) (x_lowE (pow_love hW hw _) (pow_100 hW) (lvN_lt hW hw _) (h_lt hW) (Nat.pow_pos (by omega))) (Or.inl rfl) rfl ?_
  exact e_lretE dX11_isTrue_53 rfl ⟨rfl, rfl⟩
set_option maxRecDepth 10000 in
theorem q_isTrue_no {I : Nat → Nat → Int32} {J : Nat → Nat → Int64} {F : Nat → Nat → Option Nat} {nc ns : Nat} {D : oD} (hF : RFok F) (hM : oM I 98 D) (hW : WF D) (hO : I 95 14 = tol D) {v l b : Int32} (ht : ¬ (whS (ixB v (dN D 2)) l) = 0) : Ev 5 mX12_isTrue 0 [.ref 95, .int v, .int l, .int b, .null] [] ((SH, nc, ns), I, J, F) (some (.long (-1))) ((SH, nc, ns), hp_u (hp_u I 95 0 0) 95 11 (whS (ixB v (dN D 2)) l), J, F) := by
  have hD := hW.c
  have hH := hW.h
  have hT := hW.t
  have bt := hT.2
  obtain ⟨b0, b1, b2, b3, b4, b5, b6⟩ := hD.2
  refine e_aload_n (p := 1) dX12_isTrue_0 rfl rfl ?_
  refine e_callV_v (p := 4) (k' := 0) (a := [.ref 95]) (rr := []) dX12_isTrue_1 rfl rfl rfl rfl (rc_of rfl rfl (by decide) ⟨rfl, by decide⟩) (Nat.le_of_ble_eq_true rfl) (Nat.le_of_ble_eq_true rfl) (by decide) y_good (Or.inl rfl) rfl ?_
  refine e_aload_n (p := 5) dX12_isTrue_4 rfl rfl ?_
  refine e_aload_n (p := 6) dX12_isTrue_5 rfl rfl ?_
  refine e_iload_n (p := 7) dX12_isTrue_6 rfl rfl ?_
  refine e_callV_int (p := 10) (k' := 1) (a := [.ref 95, .int v]) (rr := [.ref 95]) dX12_isTrue_7 rfl rfl rfl rfl (rc_of rfl rfl (by decide) ⟨rfl, by decide⟩) (Nat.le_of_ble_eq_true rfl) (Nat.le_of_ble_eq_true rfl) (by decide) (y_isWoman hF (oM_u (oM_u hM (by decide)) (by decide)) hW (I_u (I_u hO (by decide)) (by decide)) ) (Or.inl rfl) rfl ?_
  refine e_iload_n (p := 11) dX12_isTrue_10 rfl rfl ?_
  refine e_callV_int (p := 14) (k' := 2) (a := [.ref 95, .int (ixB v (dN D 2)), .int l]) (rr := []) dX12_isTrue_11 rfl rfl rfl rfl (rc_of rfl rfl (by decide) ⟨rfl, by decide⟩) (Nat.le_of_ble_eq_true rfl) (Nat.le_of_ble_eq_true rfl) (by decide) (y_why  ) (Or.inl rfl) rfl ?_
  refine e_istore (ls1 := [.ref 95, .int v, .int l, .int b, .int (whS (ixB v (dN D 2)) l)]) (p := 16) dX12_isTrue_14 rfl rfl ?_
  refine e_iload (p := 18) dX12_isTrue_16 rfl rfl ?_
  refine e_if_eq (t := 31) (p := 21) dX12_isTrue_18 (by decide) rfl rfl (fun hc18 => absurd hc18 ht) (fun hc18 => ?_)
  refine e_aload_n (p := 22) dX12_isTrue_21 rfl rfl ?_
  refine e_iload (p := 24) dX12_isTrue_22 rfl rfl ?_
  refine e_callV_int (p := 27) (k' := 0) (a := [.ref 95, .int (whS (ixB v (dN D 2)) l)]) (rr := []) dX12_isTrue_24 rfl rfl rfl rfl (rc_of rfl rfl (by decide) ⟨rfl, by decide⟩) (Nat.le_of_ble_eq_true rfl) (Nat.le_of_ble_eq_true rfl) (by decide) y_no (Or.inl rfl) rfl ?_
  refine e_i2l (p := 28) dX12_isTrue_27 rfl ?_
  refine e_goto (p := 53) dX12_isTrue_28 (by decide) rfl ?_
  exact e_lretE dX12_isTrue_53 rfl ⟨by decide, hpq rfl⟩
set_option maxRecDepth 10000 in
theorem q_isTrue_ok {I : Nat → Nat → Int32} {J : Nat → Nat → Int64} {F : Nat → Nat → Option Nat} {nc ns : Nat} {D : oD} (hF : RFok F) (hM : oM I 98 D) (hW : WF D) (hO : I 95 14 = tol D) {w : Nat} (hw : w < dN D 2) {l : Nat} (hl : l ≤ 30) {b : Int32}  : Ev 5 mX12_isTrue 0 [.ref 95, .int (nI w), .int (nI l), .int b, .null] [] ((SH, nc, ns), I, J, F) (some (.long (lowS (loveN D w (nI l * D 0 0) ^ tN D) (100 ^ tN D) b))) ((SH, nc, ns), hp_u (hp_u I 95 0 0) 95 11 0, J, F) := by
  have hD := hW.c
  have hH := hW.h
  have hT := hW.t
  have bt := hT.2
  obtain ⟨b0, b1, b2, b3, b4, b5, b6⟩ := hD.2
  refine e_aload_n (p := 1) dX12_isTrue_0 rfl rfl ?_
  refine e_callV_v (p := 4) (k' := 0) (a := [.ref 95]) (rr := []) dX12_isTrue_1 rfl rfl rfl rfl (rc_of rfl rfl (by decide) ⟨rfl, by decide⟩) (Nat.le_of_ble_eq_true rfl) (Nat.le_of_ble_eq_true rfl) (by decide) y_good (Or.inl rfl) rfl ?_
  refine e_aload_n (p := 5) dX12_isTrue_4 rfl rfl ?_
  refine e_aload_n (p := 6) dX12_isTrue_5 rfl rfl ?_
  refine e_iload_n (p := 7) dX12_isTrue_6 rfl rfl ?_
  refine e_callV_int (p := 10) (k' := 1) (a := [.ref 95, .int (nI w)]) (rr := [.ref 95]) dX12_isTrue_7 rfl rfl rfl rfl (rc_of rfl rfl (by decide) ⟨rfl, by decide⟩) (Nat.le_of_ble_eq_true rfl) (Nat.le_of_ble_eq_true rfl) (by decide) (Ev.i (ixB_ok (by omega) (by omega)) (y_isWoman hF (oM_u (oM_u hM (by decide)) (by decide)) hW (I_u (I_u hO (by decide)) (by decide)) )) (Or.inl rfl) rfl ?_
  refine e_iload_n (p := 11) dX12_isTrue_10 rfl rfl ?_
  refine e_callV_int (p := 14) (k' := 2) (a := [.ref 95, .int 1, .int (nI l)]) (rr := []) dX12_isTrue_11 rfl rfl rfl rfl (rc_of rfl rfl (by decide) ⟨rfl, by decide⟩) (Nat.le_of_ble_eq_true rfl) (Nat.le_of_ble_eq_true rfl) (by decide) (Ev.i (wh_ok (by omega)) (y_why  )) (Or.inl rfl) rfl ?_
  refine e_istore (ls1 := [.ref 95, .int (nI w), .int (nI l), .int b, .int 0]) (p := 16) dX12_isTrue_14 rfl rfl ?_
  refine e_iload (p := 18) dX12_isTrue_16 rfl rfl ?_
  refine e_if_eq (t := 31) (p := 21) dX12_isTrue_18 (by decide) rfl rfl (fun hc18 => ?_) (fun hc18 => absurd (by decide) hc18)
  refine e_aload_n (p := 32) dX12_isTrue_31 rfl rfl ?_
  refine e_aload_n (p := 33) dX12_isTrue_32 rfl rfl ?_
  refine e_iload_n (p := 34) dX12_isTrue_33 rfl rfl ?_
  refine e_iload_n (p := 35) dX12_isTrue_34 rfl rfl ?_
  refine e_callV_int (p := 38) (k' := 4) (a := [.ref 95, .int (nI w), .int (nI l)]) (rr := [.ref 95]) dX12_isTrue_35 rfl rfl rfl rfl (rc_of rfl rfl (by decide) ⟨rfl, by decide⟩) (Nat.le_of_ble_eq_true rfl) (Nat.le_of_ble_eq_true rfl) (by decide) (y_loveOf hF (oM_u (oM_u hM (by decide)) (by decide)) hW (by omega)) (Or.inl rfl) rfl ?_
  refine e_i2l (p := 39) dX12_isTrue_38 rfl ?_
  refine e_callV_long (p := 42) (k' := 0) (a := [.ref 95, .long ((loveS D w ((nI l) * D 0 0)).toInt64)]) (rr := []) dX12_isTrue_39 rfl rfl rfl rfl (rc_of rfl rfl (by decide) ⟨rfl, by decide⟩) (Nat.le_of_ble_eq_true rfl) (Nat.le_of_ble_eq_true rfl) (by decide) (y_trials hF (oM_u (oM_u hM (by decide)) (by decide)) hW ) (Or.inl rfl) rfl ?_
  refine e_aload_n (p := 43) dX12_isTrue_42 rfl rfl ?_
  refine e_ldc2 (p := 46) dX12_isTrue_43 rfl rfl ?_
  refine e_callV_long (p := 49) (k' := 0) (a := [.ref 95, .long 100]) (rr := [.long (powS D ((loveS D w ((nI l) * D 0 0)).toInt64))]) dX12_isTrue_46 rfl rfl rfl rfl (rc_of rfl rfl (by decide) ⟨rfl, by decide⟩) (Nat.le_of_ble_eq_true rfl) (Nat.le_of_ble_eq_true rfl) (by decide) (y_trials hF (oM_u (oM_u hM (by decide)) (by decide)) hW ) (Or.inl rfl) rfl ?_
  refine e_iload_n (p := 50) dX12_isTrue_49 rfl rfl ?_
  refine e_callS_long (p := 53) (k' := 0) (a := [.long (powS D ((loveS D w ((nI l) * D 0 0)).toInt64)), .long (powS D 100), .int b]) (rr := []) dX12_isTrue_50 rfl rfl rfl rfl rfl (rc_st rfl) (Nat.le_of_ble_eq_true rfl) (Nat.le_of_ble_eq_true rfl) (by decide) (y_lowE (pow_love hW hw _) (pow_100' hW) (lvN_lt hW hw _) (h_lt hW) (Nat.pow_pos (by omega))) (Or.inl rfl) rfl ?_
  exact e_lretE dX12_isTrue_53 rfl ⟨rfl, rfl⟩
