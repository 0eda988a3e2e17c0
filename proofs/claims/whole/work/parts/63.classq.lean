/-! The class: the plain public questions. -/
theorem x_apart {I : Nat → Nat → Int32} {J : Nat → Nat → Int64} {F : Nat → Nat → Option Nat} {nc ns : Nat} {o : Nat} {D : oD} (ho : isO o) (hF : RFok F) (hC : oC I o D) (hD : WFc D) {a : Nat} {x b : Int32} (hx : x = nI a) : Ev 2 mX4_landingsApart 0 [.ref o, .int x, .int b, .null, .null] [] ((SH, nc, ns), I, J, F) (some (.int (apartS D a b))) ((SH, nc, ns), I, J, F) := by
  subst hx
  exact x_landingsApart ho hF hC hD
theorem x_can {I : Nat → Nat → Int32} {J : Nat → Nat → Int64} {F : Nat → Nat → Option Nat} {nc ns : Nat} {o : Nat} {D : oD} (ho : isO o) (hF : RFok F) (hC : oC I o D) (hD : WFc D) {a : Nat} {x b : Int32} (hx : x = nI a) (ha : a < 6) : Ev 1 mX4_canReach 0 [.ref o, .int x, .int b] [] ((SH, nc, ns), I, J, F) (some (.int (canS D a b))) ((SH, nc, ns), I, J, F) := by
  subst hx
  exact x_canReach ho hF hC hD ha
theorem x_reach {I : Nat → Nat → Int32} {J : Nat → Nat → Int64} {F : Nat → Nat → Option Nat} {nc ns : Nat} {o : Nat} {D : oD} (ho : isO o) (hF : RFok F) (hC : oC I o D) (hD : WFc D) {a : Nat} {x : Int32} (hx : x = nI a) (ha : a < 6) : Ev 0 mX4_reachOf 0 [.ref o, .int x] [] ((SH, nc, ns), I, J, F) (some (.int (reachS D a))) ((SH, nc, ns), I, J, F) := by
  subst hx
  exact x_reachOf ho hF hC hD ha
set_option maxRecDepth 10000 in
theorem c_harbour_no {I : Nat → Nat → Int32} {J : Nat → Nat → Int64} {F : Nat → Nat → Option Nat} {nc ns : Nat} {o : Nat} {D : oD} {s : Nat → Int32} (ho : isO o) (hF : RFok F) (hoF : F 0 2 = some o) (hC : oC I o D) (hW : WF D) (hm : mo I 42 s) (hS : WFs D s) {h x : Int32} (ht : ¬ (eiS (ixS h (dN D 0)) (ixS x 4)) = 0) : Ev 2 mX11_harbour 0 [.ref 0, .int h, .int x] [] ((SH, nc, ns), I, J, F) (some (.int (-1))) ((SH, nc, ns), hp_u I 0 10 (eiS (ixS h (dN D 0)) (ixS x 4)), J, F) := by
  have hD := hW.c
  have hH := hW.h
  have hT := hW.t
  have bt := hT.2
  obtain ⟨b0, b1, b2, b3, b4, b5, b6⟩ := hD.2
  refine e_aload_n (p := 1) dX11_harbour_0 rfl rfl ?_
  refine e_aload_n (p := 2) dX11_harbour_1 rfl rfl ?_
  refine e_iload_n (p := 3) dX11_harbour_2 rfl rfl ?_
  refine e_callV_int (p := 6) (k' := 1) (a := [.ref 0, .int h]) (rr := [.ref 0]) dX11_harbour_3 rfl rfl rfl rfl (rc_of rfl rfl (by decide) ⟨rfl, by decide⟩) (Nat.le_of_ble_eq_true rfl) (Nat.le_of_ble_eq_true rfl) (by decide) (x_ofHarbour ho hF hoF hC hW hm hS) (Or.inl rfl) rfl ?_
  refine e_iload_n (p := 7) dX11_harbour_6 rfl rfl ?_
  refine e_iconst (v := 4) (p := 8) dX11_harbour_7 (by decide) rfl ?_
  refine e_callS_int (p := 11) (k' := 0) (a := [.int x, .int 4]) (rr := [.int (ixS h (dN D 0)), .ref 0]) dX11_harbour_8 rfl rfl rfl rfl rfl (rc_st rfl) (Nat.le_of_ble_eq_true rfl) (Nat.le_of_ble_eq_true rfl) (by decide) (x_ofIndex (n := 4)) (Or.inl rfl) rfl ?_
  refine e_callS_int (p := 14) (k' := 0) (a := [.int (ixS h (dN D 0)), .int (ixS x 4)]) (rr := [.ref 0]) dX11_harbour_11 rfl rfl rfl rfl rfl (rc_st rfl) (Nat.le_of_ble_eq_true rfl) (Nat.le_of_ble_eq_true rfl) (by decide) x_either (Or.inl rfl) rfl ?_
  refine e_callV_int (p := 17) (k' := 0) (a := [.ref 0, .int (eiS (ixS h (dN D 0)) (ixS x 4))]) (rr := []) dX11_harbour_14 rfl rfl rfl rfl (rc_of rfl rfl (by decide) ⟨rfl, by decide⟩) (Nat.le_of_ble_eq_true rfl) (Nat.le_of_ble_eq_true rfl) (by decide) x_refused (Or.inl rfl) rfl ?_
  refine e_if_eq (t := 22) (p := 20) dX11_harbour_17 (by decide) rfl rfl (fun hc17 => absurd hc17 (rf_ne ht)) (fun hc17 => ?_)
  refine e_iconst (v := -1) (p := 21) dX11_harbour_20 (by decide) rfl ?_
  exact e_iretE dX11_harbour_21 rfl rfl (by decide) ⟨rfl, rfl⟩
set_option maxRecDepth 10000 in
theorem c_harbour_ok0 {I : Nat → Nat → Int32} {J : Nat → Nat → Int64} {F : Nat → Nat → Option Nat} {nc ns : Nat} {o : Nat} {D : oD} {s : Nat → Int32} (ho : isO o) (hF : RFok F) (hoF : F 0 2 = some o) (hC : oC I o D) (hW : WF D) (hm : mo I 42 s) (hS : WFs D s) {h : Nat} (hh : h < dN D 0)  : Ev 2 mX11_harbour 0 [.ref 0, .int (nI h), .int 0] [] ((SH, nc, ns), I, J, F) (some (.int (D 3 h))) ((SH, nc, ns), hp_u I 0 10 0, J, F) := by
  have hD := hW.c
  have hH := hW.h
  have hT := hW.t
  have bt := hT.2
  obtain ⟨b0, b1, b2, b3, b4, b5, b6⟩ := hD.2
  refine e_aload_n (p := 1) dX11_harbour_0 rfl rfl ?_
  refine e_aload_n (p := 2) dX11_harbour_1 rfl rfl ?_
  refine e_iload_n (p := 3) dX11_harbour_2 rfl rfl ?_
  refine e_callV_int (p := 6) (k' := 1) (a := [.ref 0, .int (nI h)]) (rr := [.ref 0]) dX11_harbour_3 rfl rfl rfl rfl (rc_of rfl rfl (by decide) ⟨rfl, by decide⟩) (Nat.le_of_ble_eq_true rfl) (Nat.le_of_ble_eq_true rfl) (by decide) (Ev.i (ix_ok (n := dN D 0) (by omega) (by omega)) (x_ofHarbour ho hF hoF hC hW hm hS)) (Or.inl rfl) rfl ?_
  refine e_iload_n (p := 7) dX11_harbour_6 rfl rfl ?_
  refine e_iconst (v := 4) (p := 8) dX11_harbour_7 (by decide) rfl ?_
  refine e_callS_int (p := 11) (k' := 0) (a := [.int 0, .int 4]) (rr := [.int 0, .ref 0]) dX11_harbour_8 rfl rfl rfl rfl rfl (rc_st rfl) (Nat.le_of_ble_eq_true rfl) (Nat.le_of_ble_eq_true rfl) (by decide) (Ev.i (ix_ok (n := 4) (w := 0) (by omega) (by omega)) (x_ofIndex)) (Or.inl rfl) rfl ?_
  refine e_callS_int (p := 14) (k' := 0) (a := [.int 0, .int 0]) (rr := [.ref 0]) dX11_harbour_11 rfl rfl rfl rfl rfl (rc_st rfl) (Nat.le_of_ble_eq_true rfl) (Nat.le_of_ble_eq_true rfl) (by decide) (Ev.i (show eiS 0 0 = 0 by decide) (x_either)) (Or.inl rfl) rfl ?_
  refine e_callV_int (p := 17) (k' := 0) (a := [.ref 0, .int 0]) (rr := []) dX11_harbour_14 rfl rfl rfl rfl (rc_of rfl rfl (by decide) ⟨rfl, by decide⟩) (Nat.le_of_ble_eq_true rfl) (Nat.le_of_ble_eq_true rfl) (by decide) (Ev.i (show rfS 0 = 0 by decide) (x_refused)) (Or.inl rfl) rfl ?_
  refine e_if_eq (t := 22) (p := 20) dX11_harbour_17 (by decide) rfl rfl (fun hc17 => ?_) (fun hc17 => absurd (by decide) hc17)
  refine e_iload_n (p := 23) dX11_harbour_22 rfl rfl ?_
  refine e_swIn (p := 48) dX11_harbour_23 (by decide) rfl (by decide) rfl ?_
  refine e_aload_n (p := 49) dX11_harbour_48 rfl rfl ?_
  refine e_getR (c := 10) (j := 2) (n := 13) (b := o) (p := 52) dX11_harbour_49 rfl rfl (by decide) (by decide) rfl hoF rfl ?_
  refine e_getR (c := 4) (j := 3) (n := 18) (b := (o + 2)) (p := 55) dX11_harbour_52 rfl (s_o ho) (l_o0 ho) (by decide) rfl (r_o3 hF ho) rfl ?_
  refine e_iload_n (p := 56) dX11_harbour_55 rfl rfl ?_
  refine f_iald (n := 6) (i := h) (v := D 3 h) (p := 57) dX11_harbour_56 (s_o2 ho) (l_o ho 2 (by decide)) (in_nJ (by omega) (by decide)) (nI_cl (by omega)) (c3 (oC_u hC ho (by decide)) (by omega)) rfl ?_
  exact e_iretE dX11_harbour_57 rfl rfl (by decide) ⟨rfl, rfl⟩
set_option maxRecDepth 10000 in
theorem c_harbour_ok1 {I : Nat → Nat → Int32} {J : Nat → Nat → Int64} {F : Nat → Nat → Option Nat} {nc ns : Nat} {o : Nat} {D : oD} {s : Nat → Int32} (ho : isO o) (hF : RFok F) (hoF : F 0 2 = some o) (hC : oC I o D) (hW : WF D) (hm : mo I 42 s) (hS : WFs D s) {h : Nat} (hh : h < dN D 0)  : Ev 2 mX11_harbour 0 [.ref 0, .int (nI h), .int 1] [] ((SH, nc, ns), I, J, F) (some (.int (D 4 h))) ((SH, nc, ns), hp_u I 0 10 0, J, F) := by
  have hD := hW.c
  have hH := hW.h
  have hT := hW.t
  have bt := hT.2
  obtain ⟨b0, b1, b2, b3, b4, b5, b6⟩ := hD.2
  refine e_aload_n (p := 1) dX11_harbour_0 rfl rfl ?_
  refine e_aload_n (p := 2) dX11_harbour_1 rfl rfl ?_
  refine e_iload_n (p := 3) dX11_harbour_2 rfl rfl ?_
  refine e_callV_int (p := 6) (k' := 1) (a := [.ref 0, .int (nI h)]) (rr := [.ref 0]) dX11_harbour_3 rfl rfl rfl rfl (rc_of rfl rfl (by decide) ⟨rfl, by decide⟩) (Nat.le_of_ble_eq_true rfl) (Nat.le_of_ble_eq_true rfl) (by decide) (Ev.i (ix_ok (n := dN D 0) (by omega) (by omega)) (x_ofHarbour ho hF hoF hC hW hm hS)) (Or.inl rfl) rfl ?_
  refine e_iload_n (p := 7) dX11_harbour_6 rfl rfl ?_
  refine e_iconst (v := 4) (p := 8) dX11_harbour_7 (by decide) rfl ?_
  refine e_callS_int (p := 11) (k' := 0) (a := [.int 1, .int 4]) (rr := [.int 0, .ref 0]) dX11_harbour_8 rfl rfl rfl rfl rfl (rc_st rfl) (Nat.le_of_ble_eq_true rfl) (Nat.le_of_ble_eq_true rfl) (by decide) (Ev.i (ix_ok (n := 4) (w := 1) (by omega) (by omega)) (x_ofIndex)) (Or.inl rfl) rfl ?_
  refine e_callS_int (p := 14) (k' := 0) (a := [.int 0, .int 0]) (rr := [.ref 0]) dX11_harbour_11 rfl rfl rfl rfl rfl (rc_st rfl) (Nat.le_of_ble_eq_true rfl) (Nat.le_of_ble_eq_true rfl) (by decide) (Ev.i (show eiS 0 0 = 0 by decide) (x_either)) (Or.inl rfl) rfl ?_
  refine e_callV_int (p := 17) (k' := 0) (a := [.ref 0, .int 0]) (rr := []) dX11_harbour_14 rfl rfl rfl rfl (rc_of rfl rfl (by decide) ⟨rfl, by decide⟩) (Nat.le_of_ble_eq_true rfl) (Nat.le_of_ble_eq_true rfl) (by decide) (Ev.i (show rfS 0 = 0 by decide) (x_refused)) (Or.inl rfl) rfl ?_
  refine e_if_eq (t := 22) (p := 20) dX11_harbour_17 (by decide) rfl rfl (fun hc17 => ?_) (fun hc17 => absurd (by decide) hc17)
  refine e_iload_n (p := 23) dX11_harbour_22 rfl rfl ?_
  refine e_swIn (p := 58) dX11_harbour_23 (by decide) rfl (by decide) rfl ?_
  refine e_aload_n (p := 59) dX11_harbour_58 rfl rfl ?_
  refine e_getR (c := 10) (j := 2) (n := 13) (b := o) (p := 62) dX11_harbour_59 rfl rfl (by decide) (by decide) rfl hoF rfl ?_
  refine e_getR (c := 4) (j := 4) (n := 18) (b := (o + 3)) (p := 65) dX11_harbour_62 rfl (s_o ho) (l_o0 ho) (by decide) rfl (r_o4 hF ho) rfl ?_
  refine e_iload_n (p := 66) dX11_harbour_65 rfl rfl ?_
  refine f_iald (n := 6) (i := h) (v := D 4 h) (p := 67) dX11_harbour_66 (s_o3 ho) (l_o ho 3 (by decide)) (in_nJ (by omega) (by decide)) (nI_cl (by omega)) (c4 (oC_u hC ho (by decide)) (by omega)) rfl ?_
  exact e_iretE dX11_harbour_67 rfl rfl (by decide) ⟨rfl, rfl⟩
set_option maxRecDepth 10000 in
theorem c_harbour_ok2 {I : Nat → Nat → Int32} {J : Nat → Nat → Int64} {F : Nat → Nat → Option Nat} {nc ns : Nat} {o : Nat} {D : oD} {s : Nat → Int32} (ho : isO o) (hF : RFok F) (hoF : F 0 2 = some o) (hC : oC I o D) (hW : WF D) (hm : mo I 42 s) (hS : WFs D s) {h : Nat} (hh : h < dN D 0)  : Ev 2 mX11_harbour 0 [.ref 0, .int (nI h), .int 2] [] ((SH, nc, ns), I, J, F) (some (.int (D 5 h))) ((SH, nc, ns), hp_u I 0 10 0, J, F) := by
  have hD := hW.c
  have hH := hW.h
  have hT := hW.t
  have bt := hT.2
  obtain ⟨b0, b1, b2, b3, b4, b5, b6⟩ := hD.2
  refine e_aload_n (p := 1) dX11_harbour_0 rfl rfl ?_
  refine e_aload_n (p := 2) dX11_harbour_1 rfl rfl ?_
  refine e_iload_n (p := 3) dX11_harbour_2 rfl rfl ?_
  refine e_callV_int (p := 6) (k' := 1) (a := [.ref 0, .int (nI h)]) (rr := [.ref 0]) dX11_harbour_3 rfl rfl rfl rfl (rc_of rfl rfl (by decide) ⟨rfl, by decide⟩) (Nat.le_of_ble_eq_true rfl) (Nat.le_of_ble_eq_true rfl) (by decide) (Ev.i (ix_ok (n := dN D 0) (by omega) (by omega)) (x_ofHarbour ho hF hoF hC hW hm hS)) (Or.inl rfl) rfl ?_
  refine e_iload_n (p := 7) dX11_harbour_6 rfl rfl ?_
  refine e_iconst (v := 4) (p := 8) dX11_harbour_7 (by decide) rfl ?_
  refine e_callS_int (p := 11) (k' := 0) (a := [.int 2, .int 4]) (rr := [.int 0, .ref 0]) dX11_harbour_8 rfl rfl rfl rfl rfl (rc_st rfl) (Nat.le_of_ble_eq_true rfl) (Nat.le_of_ble_eq_true rfl) (by decide) (Ev.i (ix_ok (n := 4) (w := 2) (by omega) (by omega)) (x_ofIndex)) (Or.inl rfl) rfl ?_
  refine e_callS_int (p := 14) (k' := 0) (a := [.int 0, .int 0]) (rr := [.ref 0]) dX11_harbour_11 rfl rfl rfl rfl rfl (rc_st rfl) (Nat.le_of_ble_eq_true rfl) (Nat.le_of_ble_eq_true rfl) (by decide) (Ev.i (show eiS 0 0 = 0 by decide) (x_either)) (Or.inl rfl) rfl ?_
  refine e_callV_int (p := 17) (k' := 0) (a := [.ref 0, .int 0]) (rr := []) dX11_harbour_14 rfl rfl rfl rfl (rc_of rfl rfl (by decide) ⟨rfl, by decide⟩) (Nat.le_of_ble_eq_true rfl) (Nat.le_of_ble_eq_true rfl) (by decide) (Ev.i (show rfS 0 = 0 by decide) (x_refused)) (Or.inl rfl) rfl ?_
  refine e_if_eq (t := 22) (p := 20) dX11_harbour_17 (by decide) rfl rfl (fun hc17 => ?_) (fun hc17 => absurd (by decide) hc17)
  refine e_iload_n (p := 23) dX11_harbour_22 rfl rfl ?_
  refine e_swIn (p := 68) dX11_harbour_23 (by decide) rfl (by decide) rfl ?_
  refine e_aload_n (p := 69) dX11_harbour_68 rfl rfl ?_
  refine e_getR (c := 10) (j := 2) (n := 13) (b := o) (p := 72) dX11_harbour_69 rfl rfl (by decide) (by decide) rfl hoF rfl ?_
  refine e_getR (c := 4) (j := 5) (n := 18) (b := (o + 4)) (p := 75) dX11_harbour_72 rfl (s_o ho) (l_o0 ho) (by decide) rfl (r_o5 hF ho) rfl ?_
  refine e_iload_n (p := 76) dX11_harbour_75 rfl rfl ?_
  refine f_iald (n := 6) (i := h) (v := D 5 h) (p := 77) dX11_harbour_76 (s_o4 ho) (l_o ho 4 (by decide)) (in_nJ (by omega) (by decide)) (nI_cl (by omega)) (c5 (oC_u hC ho (by decide)) (by omega)) rfl ?_
  exact e_iretE dX11_harbour_77 rfl rfl (by decide) ⟨rfl, rfl⟩
set_option maxRecDepth 10000 in
theorem c_harbour_ok3 {I : Nat → Nat → Int32} {J : Nat → Nat → Int64} {F : Nat → Nat → Option Nat} {nc ns : Nat} {o : Nat} {D : oD} {s : Nat → Int32} (ho : isO o) (hF : RFok F) (hoF : F 0 2 = some o) (hC : oC I o D) (hW : WF D) (hm : mo I 42 s) (hS : WFs D s) {h : Nat} (hh : h < dN D 0)  : Ev 2 mX11_harbour 0 [.ref 0, .int (nI h), .int 3] [] ((SH, nc, ns), I, J, F) (some (.int (womenInS D (nI h)))) ((SH, nc, ns), hp_u I 0 10 0, J, F) := by
  have hD := hW.c
  have hH := hW.h
  have hT := hW.t
  have bt := hT.2
  obtain ⟨b0, b1, b2, b3, b4, b5, b6⟩ := hD.2
  refine e_aload_n (p := 1) dX11_harbour_0 rfl rfl ?_
  refine e_aload_n (p := 2) dX11_harbour_1 rfl rfl ?_
  refine e_iload_n (p := 3) dX11_harbour_2 rfl rfl ?_
  refine e_callV_int (p := 6) (k' := 1) (a := [.ref 0, .int (nI h)]) (rr := [.ref 0]) dX11_harbour_3 rfl rfl rfl rfl (rc_of rfl rfl (by decide) ⟨rfl, by decide⟩) (Nat.le_of_ble_eq_true rfl) (Nat.le_of_ble_eq_true rfl) (by decide) (Ev.i (ix_ok (n := dN D 0) (by omega) (by omega)) (x_ofHarbour ho hF hoF hC hW hm hS)) (Or.inl rfl) rfl ?_
  refine e_iload_n (p := 7) dX11_harbour_6 rfl rfl ?_
  refine e_iconst (v := 4) (p := 8) dX11_harbour_7 (by decide) rfl ?_
  refine e_callS_int (p := 11) (k' := 0) (a := [.int 3, .int 4]) (rr := [.int 0, .ref 0]) dX11_harbour_8 rfl rfl rfl rfl rfl (rc_st rfl) (Nat.le_of_ble_eq_true rfl) (Nat.le_of_ble_eq_true rfl) (by decide) (Ev.i (ix_ok (n := 4) (w := 3) (by omega) (by omega)) (x_ofIndex)) (Or.inl rfl) rfl ?_
  refine e_callS_int (p := 14) (k' := 0) (a := [.int 0, .int 0]) (rr := [.ref 0]) dX11_harbour_11 rfl rfl rfl rfl rfl (rc_st rfl) (Nat.le_of_ble_eq_true rfl) (Nat.le_of_ble_eq_true rfl) (by decide) (Ev.i (show eiS 0 0 = 0 by decide) (x_either)) (Or.inl rfl) rfl ?_
  refine e_callV_int (p := 17) (k' := 0) (a := [.ref 0, .int 0]) (rr := []) dX11_harbour_14 rfl rfl rfl rfl (rc_of rfl rfl (by decide) ⟨rfl, by decide⟩) (Nat.le_of_ble_eq_true rfl) (Nat.le_of_ble_eq_true rfl) (by decide) (Ev.i (show rfS 0 = 0 by decide) (x_refused)) (Or.inl rfl) rfl ?_
  refine e_if_eq (t := 22) (p := 20) dX11_harbour_17 (by decide) rfl rfl (fun hc17 => ?_) (fun hc17 => absurd (by decide) hc17)
  refine e_iload_n (p := 23) dX11_harbour_22 rfl rfl ?_
  refine e_swOut (p := 78) dX11_harbour_23 (by decide) (by decide) rfl ?_
  refine e_aload_n (p := 79) dX11_harbour_78 rfl rfl ?_
  refine e_getR (c := 10) (j := 2) (n := 13) (b := o) (p := 82) dX11_harbour_79 rfl rfl (by decide) (by decide) rfl hoF rfl ?_
  refine e_iload_n (p := 83) dX11_harbour_82 rfl rfl ?_
  refine e_callV_int (p := 86) (k' := 0) (a := [.ref o, .int (nI h)]) (rr := []) dX11_harbour_83 rfl rfl rfl rfl (rc_of rfl (s_o ho) (l_o0 ho) ⟨rfl, by decide⟩) (Nat.le_of_ble_eq_true rfl) (Nat.le_of_ble_eq_true rfl) (by decide) (x_womenIn ho hF (oC_u hC ho (by decide)) hW.c ) (Or.inl rfl) rfl ?_
  exact e_iretE dX11_harbour_86 rfl rfl (by decide) ⟨rfl, rfl⟩
set_option maxRecDepth 10000 in
theorem c_woman_no {I : Nat → Nat → Int32} {J : Nat → Nat → Int64} {F : Nat → Nat → Option Nat} {nc ns : Nat} {o : Nat} {D : oD} {s : Nat → Int32} (ho : isO o) (hF : RFok F) (hoF : F 0 2 = some o) (hC : oC I o D) (hW : WF D) (hm : mo I 42 s) (hS : WFs D s) {v x : Int32} (ht : ¬ (eiS (ixS v (dN D 2)) (ixS x 6)) = 0) : Ev 2 mX11_woman 0 [.ref 0, .int v, .int x] [] ((SH, nc, ns), I, J, F) (some (.int (-1))) ((SH, nc, ns), hp_u I 0 10 (eiS (ixS v (dN D 2)) (ixS x 6)), J, F) := by
  have hD := hW.c
  have hH := hW.h
  have hT := hW.t
  have bt := hT.2
  obtain ⟨b0, b1, b2, b3, b4, b5, b6⟩ := hD.2
  refine e_aload_n (p := 1) dX11_woman_0 rfl rfl ?_
  refine e_aload_n (p := 2) dX11_woman_1 rfl rfl ?_
  refine e_iload_n (p := 3) dX11_woman_2 rfl rfl ?_
  refine e_callV_int (p := 6) (k' := 1) (a := [.ref 0, .int v]) (rr := [.ref 0]) dX11_woman_3 rfl rfl rfl rfl (rc_of rfl rfl (by decide) ⟨rfl, by decide⟩) (Nat.le_of_ble_eq_true rfl) (Nat.le_of_ble_eq_true rfl) (by decide) (x_ofWoman ho hF hoF hC hW hm hS) (Or.inl rfl) rfl ?_
  refine e_iload_n (p := 7) dX11_woman_6 rfl rfl ?_
  refine e_bipush (v := 6) (p := 9) dX11_woman_7 (by decide) rfl ?_
  refine e_callS_int (p := 12) (k' := 0) (a := [.int x, .int 6]) (rr := [.int (ixS v (dN D 2)), .ref 0]) dX11_woman_9 rfl rfl rfl rfl rfl (rc_st rfl) (Nat.le_of_ble_eq_true rfl) (Nat.le_of_ble_eq_true rfl) (by decide) (x_ofIndex (n := 6)) (Or.inl rfl) rfl ?_
  refine e_callS_int (p := 15) (k' := 0) (a := [.int (ixS v (dN D 2)), .int (ixS x 6)]) (rr := [.ref 0]) dX11_woman_12 rfl rfl rfl rfl rfl (rc_st rfl) (Nat.le_of_ble_eq_true rfl) (Nat.le_of_ble_eq_true rfl) (by decide) x_either (Or.inl rfl) rfl ?_
  refine e_callV_int (p := 18) (k' := 0) (a := [.ref 0, .int (eiS (ixS v (dN D 2)) (ixS x 6))]) (rr := []) dX11_woman_15 rfl rfl rfl rfl (rc_of rfl rfl (by decide) ⟨rfl, by decide⟩) (Nat.le_of_ble_eq_true rfl) (Nat.le_of_ble_eq_true rfl) (by decide) x_refused (Or.inl rfl) rfl ?_
  refine e_if_eq (t := 23) (p := 21) dX11_woman_18 (by decide) rfl rfl (fun hc18 => absurd hc18 (rf_ne ht)) (fun hc18 => ?_)
  refine e_iconst (v := -1) (p := 22) dX11_woman_21 (by decide) rfl ?_
  exact e_iretE dX11_woman_22 rfl rfl (by decide) ⟨rfl, rfl⟩
set_option maxRecDepth 10000 in
theorem c_woman_ok0 {I : Nat → Nat → Int32} {J : Nat → Nat → Int64} {F : Nat → Nat → Option Nat} {nc ns : Nat} {o : Nat} {D : oD} {s : Nat → Int32} (ho : isO o) (hF : RFok F) (hoF : F 0 2 = some o) (hC : oC I o D) (hW : WF D) (hm : mo I 42 s) (hS : WFs D s) {w : Nat} (hw : w < dN D 2)  : Ev 2 mX11_woman 0 [.ref 0, .int (nI w), .int 0] [] ((SH, nc, ns), I, J, F) (some (.int (D 6 w))) ((SH, nc, ns), hp_u I 0 10 0, J, F) := by
  have hD := hW.c
  have hH := hW.h
  have hT := hW.t
  have bt := hT.2
  obtain ⟨b0, b1, b2, b3, b4, b5, b6⟩ := hD.2
  refine e_aload_n (p := 1) dX11_woman_0 rfl rfl ?_
  refine e_aload_n (p := 2) dX11_woman_1 rfl rfl ?_
  refine e_iload_n (p := 3) dX11_woman_2 rfl rfl ?_
  refine e_callV_int (p := 6) (k' := 1) (a := [.ref 0, .int (nI w)]) (rr := [.ref 0]) dX11_woman_3 rfl rfl rfl rfl (rc_of rfl rfl (by decide) ⟨rfl, by decide⟩) (Nat.le_of_ble_eq_true rfl) (Nat.le_of_ble_eq_true rfl) (by decide) (Ev.i (ix_ok (n := dN D 2) (by omega) (by omega)) (x_ofWoman ho hF hoF hC hW hm hS)) (Or.inl rfl) rfl ?_
  refine e_iload_n (p := 7) dX11_woman_6 rfl rfl ?_
  refine e_bipush (v := 6) (p := 9) dX11_woman_7 (by decide) rfl ?_
  refine e_callS_int (p := 12) (k' := 0) (a := [.int 0, .int 6]) (rr := [.int 0, .ref 0]) dX11_woman_9 rfl rfl rfl rfl rfl (rc_st rfl) (Nat.le_of_ble_eq_true rfl) (Nat.le_of_ble_eq_true rfl) (by decide) (Ev.i (ix_ok (n := 6) (w := 0) (by omega) (by omega)) (x_ofIndex)) (Or.inl rfl) rfl ?_
  refine e_callS_int (p := 15) (k' := 0) (a := [.int 0, .int 0]) (rr := [.ref 0]) dX11_woman_12 rfl rfl rfl rfl rfl (rc_st rfl) (Nat.le_of_ble_eq_true rfl) (Nat.le_of_ble_eq_true rfl) (by decide) (Ev.i (show eiS 0 0 = 0 by decide) (x_either)) (Or.inl rfl) rfl ?_
  refine e_callV_int (p := 18) (k' := 0) (a := [.ref 0, .int 0]) (rr := []) dX11_woman_15 rfl rfl rfl rfl (rc_of rfl rfl (by decide) ⟨rfl, by decide⟩) (Nat.le_of_ble_eq_true rfl) (Nat.le_of_ble_eq_true rfl) (by decide) (Ev.i (show rfS 0 = 0 by decide) (x_refused)) (Or.inl rfl) rfl ?_
  refine e_if_eq (t := 23) (p := 21) dX11_woman_18 (by decide) rfl rfl (fun hc18 => ?_) (fun hc18 => absurd (by decide) hc18)
  refine e_iload_n (p := 24) dX11_woman_23 rfl rfl ?_
  refine e_swIn (p := 60) dX11_woman_24 (by decide) rfl (by decide) rfl ?_
  refine e_aload_n (p := 61) dX11_woman_60 rfl rfl ?_
  refine e_getR (c := 10) (j := 2) (n := 13) (b := o) (p := 64) dX11_woman_61 rfl rfl (by decide) (by decide) rfl hoF rfl ?_
  refine e_getR (c := 4) (j := 6) (n := 18) (b := (o + 5)) (p := 67) dX11_woman_64 rfl (s_o ho) (l_o0 ho) (by decide) rfl (r_o6 hF ho) rfl ?_
  refine e_iload_n (p := 68) dX11_woman_67 rfl rfl ?_
  refine f_iald (n := 8) (i := w) (v := D 6 w) (p := 69) dX11_woman_68 (s_o5 ho) (l_o ho 5 (by decide)) (in_nJ (by omega) (by decide)) (nI_cl (by omega)) (c6 (oC_u hC ho (by decide)) (by omega)) rfl ?_
  exact e_iretE dX11_woman_69 rfl rfl (by decide) ⟨rfl, rfl⟩
set_option maxRecDepth 10000 in
theorem c_woman_ok1 {I : Nat → Nat → Int32} {J : Nat → Nat → Int64} {F : Nat → Nat → Option Nat} {nc ns : Nat} {o : Nat} {D : oD} {s : Nat → Int32} (ho : isO o) (hF : RFok F) (hoF : F 0 2 = some o) (hC : oC I o D) (hW : WF D) (hm : mo I 42 s) (hS : WFs D s) {w : Nat} (hw : w < dN D 2)  : Ev 2 mX11_woman 0 [.ref 0, .int (nI w), .int 1] [] ((SH, nc, ns), I, J, F) (some (.int (D 7 w))) ((SH, nc, ns), hp_u I 0 10 0, J, F) := by
  have hD := hW.c
  have hH := hW.h
  have hT := hW.t
  have bt := hT.2
  obtain ⟨b0, b1, b2, b3, b4, b5, b6⟩ := hD.2
  refine e_aload_n (p := 1) dX11_woman_0 rfl rfl ?_
  refine e_aload_n (p := 2) dX11_woman_1 rfl rfl ?_
  refine e_iload_n (p := 3) dX11_woman_2 rfl rfl ?_
  refine e_callV_int (p := 6) (k' := 1) (a := [.ref 0, .int (nI w)]) (rr := [.ref 0]) dX11_woman_3 rfl rfl rfl rfl (rc_of rfl rfl (by decide) ⟨rfl, by decide⟩) (Nat.le_of_ble_eq_true rfl) (Nat.le_of_ble_eq_true rfl) (by decide) (Ev.i (ix_ok (n := dN D 2) (by omega) (by omega)) (x_ofWoman ho hF hoF hC hW hm hS)) (Or.inl rfl) rfl ?_
  refine e_iload_n (p := 7) dX11_woman_6 rfl rfl ?_
  refine e_bipush (v := 6) (p := 9) dX11_woman_7 (by decide) rfl ?_
  refine e_callS_int (p := 12) (k' := 0) (a := [.int 1, .int 6]) (rr := [.int 0, .ref 0]) dX11_woman_9 rfl rfl rfl rfl rfl (rc_st rfl) (Nat.le_of_ble_eq_true rfl) (Nat.le_of_ble_eq_true rfl) (by decide) (Ev.i (ix_ok (n := 6) (w := 1) (by omega) (by omega)) (x_ofIndex)) (Or.inl rfl) rfl ?_
  refine e_callS_int (p := 15) (k' := 0) (a := [.int 0, .int 0]) (rr := [.ref 0]) dX11_woman_12 rfl rfl rfl rfl rfl (rc_st rfl) (Nat.le_of_ble_eq_true rfl) (Nat.le_of_ble_eq_true rfl) (by decide) (Ev.i (show eiS 0 0 = 0 by decide) (x_either)) (Or.inl rfl) rfl ?_
  refine e_callV_int (p := 18) (k' := 0) (a := [.ref 0, .int 0]) (rr := []) dX11_woman_15 rfl rfl rfl rfl (rc_of rfl rfl (by decide) ⟨rfl, by decide⟩) (Nat.le_of_ble_eq_true rfl) (Nat.le_of_ble_eq_true rfl) (by decide) (Ev.i (show rfS 0 = 0 by decide) (x_refused)) (Or.inl rfl) rfl ?_
  refine e_if_eq (t := 23) (p := 21) dX11_woman_18 (by decide) rfl rfl (fun hc18 => ?_) (fun hc18 => absurd (by decide) hc18)
  refine e_iload_n (p := 24) dX11_woman_23 rfl rfl ?_
  refine e_swIn (p := 70) dX11_woman_24 (by decide) rfl (by decide) rfl ?_
  refine e_aload_n (p := 71) dX11_woman_70 rfl rfl ?_
  refine e_getR (c := 10) (j := 2) (n := 13) (b := o) (p := 74) dX11_woman_71 rfl rfl (by decide) (by decide) rfl hoF rfl ?_
  refine e_getR (c := 4) (j := 7) (n := 18) (b := (o + 6)) (p := 77) dX11_woman_74 rfl (s_o ho) (l_o0 ho) (by decide) rfl (r_o7 hF ho) rfl ?_
  refine e_iload_n (p := 78) dX11_woman_77 rfl rfl ?_
  refine f_iald (n := 8) (i := w) (v := D 7 w) (p := 79) dX11_woman_78 (s_o6 ho) (l_o ho 6 (by decide)) (in_nJ (by omega) (by decide)) (nI_cl (by omega)) (c7 (oC_u hC ho (by decide)) (by omega)) rfl ?_
  exact e_iretE dX11_woman_79 rfl rfl (by decide) ⟨rfl, rfl⟩
set_option maxRecDepth 10000 in
theorem c_woman_ok2 {I : Nat → Nat → Int32} {J : Nat → Nat → Int64} {F : Nat → Nat → Option Nat} {nc ns : Nat} {o : Nat} {D : oD} {s : Nat → Int32} (ho : isO o) (hF : RFok F) (hoF : F 0 2 = some o) (hC : oC I o D) (hW : WF D) (hm : mo I 42 s) (hS : WFs D s) {w : Nat} (hw : w < dN D 2)  : Ev 2 mX11_woman 0 [.ref 0, .int (nI w), .int 2] [] ((SH, nc, ns), I, J, F) (some (.int (D 8 w))) ((SH, nc, ns), hp_u I 0 10 0, J, F) := by
  have hD := hW.c
  have hH := hW.h
  have hT := hW.t
  have bt := hT.2
  obtain ⟨b0, b1, b2, b3, b4, b5, b6⟩ := hD.2
  refine e_aload_n (p := 1) dX11_woman_0 rfl rfl ?_
  refine e_aload_n (p := 2) dX11_woman_1 rfl rfl ?_
  refine e_iload_n (p := 3) dX11_woman_2 rfl rfl ?_
  refine e_callV_int (p := 6) (k' := 1) (a := [.ref 0, .int (nI w)]) (rr := [.ref 0]) dX11_woman_3 rfl rfl rfl rfl (rc_of rfl rfl (by decide) ⟨rfl, by decide⟩) (Nat.le_of_ble_eq_true rfl) (Nat.le_of_ble_eq_true rfl) (by decide) (Ev.i (ix_ok (n := dN D 2) (by omega) (by omega)) (x_ofWoman ho hF hoF hC hW hm hS)) (Or.inl rfl) rfl ?_
  refine e_iload_n (p := 7) dX11_woman_6 rfl rfl ?_
  refine e_bipush (v := 6) (p := 9) dX11_woman_7 (by decide) rfl ?_
  refine e_callS_int (p := 12) (k' := 0) (a := [.int 2, .int 6]) (rr := [.int 0, .ref 0]) dX11_woman_9 rfl rfl rfl rfl rfl (rc_st rfl) (Nat.le_of_ble_eq_true rfl) (Nat.le_of_ble_eq_true rfl) (by decide) (Ev.i (ix_ok (n := 6) (w := 2) (by omega) (by omega)) (x_ofIndex)) (Or.inl rfl) rfl ?_
  refine e_callS_int (p := 15) (k' := 0) (a := [.int 0, .int 0]) (rr := [.ref 0]) dX11_woman_12 rfl rfl rfl rfl rfl (rc_st rfl) (Nat.le_of_ble_eq_true rfl) (Nat.le_of_ble_eq_true rfl) (by decide) (Ev.i (show eiS 0 0 = 0 by decide) (x_either)) (Or.inl rfl) rfl ?_
  refine e_callV_int (p := 18) (k' := 0) (a := [.ref 0, .int 0]) (rr := []) dX11_woman_15 rfl rfl rfl rfl (rc_of rfl rfl (by decide) ⟨rfl, by decide⟩) (Nat.le_of_ble_eq_true rfl) (Nat.le_of_ble_eq_true rfl) (by decide) (Ev.i (show rfS 0 = 0 by decide) (x_refused)) (Or.inl rfl) rfl ?_
  refine e_if_eq (t := 23) (p := 21) dX11_woman_18 (by decide) rfl rfl (fun hc18 => ?_) (fun hc18 => absurd (by decide) hc18)
  refine e_iload_n (p := 24) dX11_woman_23 rfl rfl ?_
  refine e_swIn (p := 80) dX11_woman_24 (by decide) rfl (by decide) rfl ?_
  refine e_aload_n (p := 81) dX11_woman_80 rfl rfl ?_
  refine e_getR (c := 10) (j := 2) (n := 13) (b := o) (p := 84) dX11_woman_81 rfl rfl (by decide) (by decide) rfl hoF rfl ?_
  refine e_getR (c := 4) (j := 8) (n := 18) (b := (o + 7)) (p := 87) dX11_woman_84 rfl (s_o ho) (l_o0 ho) (by decide) rfl (r_o8 hF ho) rfl ?_
  refine e_iload_n (p := 88) dX11_woman_87 rfl rfl ?_
  refine f_iald (n := 8) (i := w) (v := D 8 w) (p := 89) dX11_woman_88 (s_o7 ho) (l_o ho 7 (by decide)) (in_nJ (by omega) (by decide)) (nI_cl (by omega)) (c8 (oC_u hC ho (by decide)) (by omega)) rfl ?_
  exact e_iretE dX11_woman_89 rfl rfl (by decide) ⟨rfl, rfl⟩
set_option maxRecDepth 10000 in
theorem c_woman_ok3 {I : Nat → Nat → Int32} {J : Nat → Nat → Int64} {F : Nat → Nat → Option Nat} {nc ns : Nat} {o : Nat} {D : oD} {s : Nat → Int32} (ho : isO o) (hF : RFok F) (hoF : F 0 2 = some o) (hC : oC I o D) (hW : WF D) (hm : mo I 42 s) (hS : WFs D s) {w : Nat} (hw : w < dN D 2)  : Ev 2 mX11_woman 0 [.ref 0, .int (nI w), .int 3] [] ((SH, nc, ns), I, J, F) (some (.int (D 9 w))) ((SH, nc, ns), hp_u I 0 10 0, J, F) := by
  have hD := hW.c
  have hH := hW.h
  have hT := hW.t
  have bt := hT.2
  obtain ⟨b0, b1, b2, b3, b4, b5, b6⟩ := hD.2
  refine e_aload_n (p := 1) dX11_woman_0 rfl rfl ?_
  refine e_aload_n (p := 2) dX11_woman_1 rfl rfl ?_
  refine e_iload_n (p := 3) dX11_woman_2 rfl rfl ?_
  refine e_callV_int (p := 6) (k' := 1) (a := [.ref 0, .int (nI w)]) (rr := [.ref 0]) dX11_woman_3 rfl rfl rfl rfl (rc_of rfl rfl (by decide) ⟨rfl, by decide⟩) (Nat.le_of_ble_eq_true rfl) (Nat.le_of_ble_eq_true rfl) (by decide) (Ev.i (ix_ok (n := dN D 2) (by omega) (by omega)) (x_ofWoman ho hF hoF hC hW hm hS)) (Or.inl rfl) rfl ?_
  refine e_iload_n (p := 7) dX11_woman_6 rfl rfl ?_
  refine e_bipush (v := 6) (p := 9) dX11_woman_7 (by decide) rfl ?_
  refine e_callS_int (p := 12) (k' := 0) (a := [.int 3, .int 6]) (rr := [.int 0, .ref 0]) dX11_woman_9 rfl rfl rfl rfl rfl (rc_st rfl) (Nat.le_of_ble_eq_true rfl) (Nat.le_of_ble_eq_true rfl) (by decide) (Ev.i (ix_ok (n := 6) (w := 3) (by omega) (by omega)) (x_ofIndex)) (Or.inl rfl) rfl ?_
  refine e_callS_int (p := 15) (k' := 0) (a := [.int 0, .int 0]) (rr := [.ref 0]) dX11_woman_12 rfl rfl rfl rfl rfl (rc_st rfl) (Nat.le_of_ble_eq_true rfl) (Nat.le_of_ble_eq_true rfl) (by decide) (Ev.i (show eiS 0 0 = 0 by decide) (x_either)) (Or.inl rfl) rfl ?_
  refine e_callV_int (p := 18) (k' := 0) (a := [.ref 0, .int 0]) (rr := []) dX11_woman_15 rfl rfl rfl rfl (rc_of rfl rfl (by decide) ⟨rfl, by decide⟩) (Nat.le_of_ble_eq_true rfl) (Nat.le_of_ble_eq_true rfl) (by decide) (Ev.i (show rfS 0 = 0 by decide) (x_refused)) (Or.inl rfl) rfl ?_
  refine e_if_eq (t := 23) (p := 21) dX11_woman_18 (by decide) rfl rfl (fun hc18 => ?_) (fun hc18 => absurd (by decide) hc18)
  refine e_iload_n (p := 24) dX11_woman_23 rfl rfl ?_
  refine e_swIn (p := 90) dX11_woman_24 (by decide) rfl (by decide) rfl ?_
  refine e_aload_n (p := 91) dX11_woman_90 rfl rfl ?_
  refine e_getR (c := 10) (j := 2) (n := 13) (b := o) (p := 94) dX11_woman_91 rfl rfl (by decide) (by decide) rfl hoF rfl ?_
  refine e_getR (c := 4) (j := 9) (n := 18) (b := (o + 8)) (p := 97) dX11_woman_94 rfl (s_o ho) (l_o0 ho) (by decide) rfl (r_o9 hF ho) rfl ?_
  refine e_iload_n (p := 98) dX11_woman_97 rfl rfl ?_
  refine f_iald (n := 8) (i := w) (v := D 9 w) (p := 99) dX11_woman_98 (s_o8 ho) (l_o ho 8 (by decide)) (in_nJ (by omega) (by decide)) (nI_cl (by omega)) (c9 (oC_u hC ho (by decide)) (by omega)) rfl ?_
  exact e_iretE dX11_woman_99 rfl rfl (by decide) ⟨rfl, rfl⟩
set_option maxRecDepth 10000 in
theorem c_woman_ok4 {I : Nat → Nat → Int32} {J : Nat → Nat → Int64} {F : Nat → Nat → Option Nat} {nc ns : Nat} {o : Nat} {D : oD} {s : Nat → Int32} (ho : isO o) (hF : RFok F) (hoF : F 0 2 = some o) (hC : oC I o D) (hW : WF D) (hm : mo I 42 s) (hS : WFs D s) {w : Nat} (hw : w < dN D 2)  : Ev 2 mX11_woman 0 [.ref 0, .int (nI w), .int 4] [] ((SH, nc, ns), I, J, F) (some (.int (rivalsS D (nI w)))) ((SH, nc, ns), hp_u I 0 10 0, J, F) := by
  have hD := hW.c
  have hH := hW.h
  have hT := hW.t
  have bt := hT.2
  obtain ⟨b0, b1, b2, b3, b4, b5, b6⟩ := hD.2
  refine e_aload_n (p := 1) dX11_woman_0 rfl rfl ?_
  refine e_aload_n (p := 2) dX11_woman_1 rfl rfl ?_
  refine e_iload_n (p := 3) dX11_woman_2 rfl rfl ?_
  refine e_callV_int (p := 6) (k' := 1) (a := [.ref 0, .int (nI w)]) (rr := [.ref 0]) dX11_woman_3 rfl rfl rfl rfl (rc_of rfl rfl (by decide) ⟨rfl, by decide⟩) (Nat.le_of_ble_eq_true rfl) (Nat.le_of_ble_eq_true rfl) (by decide) (Ev.i (ix_ok (n := dN D 2) (by omega) (by omega)) (x_ofWoman ho hF hoF hC hW hm hS)) (Or.inl rfl) rfl ?_
  refine e_iload_n (p := 7) dX11_woman_6 rfl rfl ?_
  refine e_bipush (v := 6) (p := 9) dX11_woman_7 (by decide) rfl ?_
  refine e_callS_int (p := 12) (k' := 0) (a := [.int 4, .int 6]) (rr := [.int 0, .ref 0]) dX11_woman_9 rfl rfl rfl rfl rfl (rc_st rfl) (Nat.le_of_ble_eq_true rfl) (Nat.le_of_ble_eq_true rfl) (by decide) (Ev.i (ix_ok (n := 6) (w := 4) (by omega) (by omega)) (x_ofIndex)) (Or.inl rfl) rfl ?_
  refine e_callS_int (p := 15) (k' := 0) (a := [.int 0, .int 0]) (rr := [.ref 0]) dX11_woman_12 rfl rfl rfl rfl rfl (rc_st rfl) (Nat.le_of_ble_eq_true rfl) (Nat.le_of_ble_eq_true rfl) (by decide) (Ev.i (show eiS 0 0 = 0 by decide) (x_either)) (Or.inl rfl) rfl ?_
  refine e_callV_int (p := 18) (k' := 0) (a := [.ref 0, .int 0]) (rr := []) dX11_woman_15 rfl rfl rfl rfl (rc_of rfl rfl (by decide) ⟨rfl, by decide⟩) (Nat.le_of_ble_eq_true rfl) (Nat.le_of_ble_eq_true rfl) (by decide) (Ev.i (show rfS 0 = 0 by decide) (x_refused)) (Or.inl rfl) rfl ?_
  refine e_if_eq (t := 23) (p := 21) dX11_woman_18 (by decide) rfl rfl (fun hc18 => ?_) (fun hc18 => absurd (by decide) hc18)
  refine e_iload_n (p := 24) dX11_woman_23 rfl rfl ?_
  refine e_swIn (p := 100) dX11_woman_24 (by decide) rfl (by decide) rfl ?_
  refine e_aload_n (p := 101) dX11_woman_100 rfl rfl ?_
  refine e_getR (c := 10) (j := 2) (n := 13) (b := o) (p := 104) dX11_woman_101 rfl rfl (by decide) (by decide) rfl hoF rfl ?_
  refine e_iload_n (p := 105) dX11_woman_104 rfl rfl ?_
  refine e_callV_int (p := 108) (k' := 0) (a := [.ref o, .int (nI w)]) (rr := []) dX11_woman_105 rfl rfl rfl rfl (rc_of rfl (s_o ho) (l_o0 ho) ⟨rfl, by decide⟩) (Nat.le_of_ble_eq_true rfl) (Nat.le_of_ble_eq_true rfl) (by decide) (x_rivalsOf ho hF (oC_u hC ho (by decide)) hW.c ) (Or.inl rfl) rfl ?_
  exact e_iretE dX11_woman_108 rfl rfl (by decide) ⟨rfl, rfl⟩
set_option maxRecDepth 10000 in
theorem c_woman_ok5 {I : Nat → Nat → Int32} {J : Nat → Nat → Int64} {F : Nat → Nat → Option Nat} {nc ns : Nat} {o : Nat} {D : oD} {s : Nat → Int32} (ho : isO o) (hF : RFok F) (hoF : F 0 2 = some o) (hC : oC I o D) (hW : WF D) (hm : mo I 42 s) (hS : WFs D s) {w : Nat} (hw : w < dN D 2)  : Ev 2 mX11_woman 0 [.ref 0, .int (nI w), .int 5] [] ((SH, nc, ns), I, J, F) (some (.int (triB s (nI w)))) ((SH, nc, ns), hp_u I 0 10 0, J, F) := by
  have hD := hW.c
  have hH := hW.h
  have hT := hW.t
  have bt := hT.2
  obtain ⟨b0, b1, b2, b3, b4, b5, b6⟩ := hD.2
  refine e_aload_n (p := 1) dX11_woman_0 rfl rfl ?_
  refine e_aload_n (p := 2) dX11_woman_1 rfl rfl ?_
  refine e_iload_n (p := 3) dX11_woman_2 rfl rfl ?_
  refine e_callV_int (p := 6) (k' := 1) (a := [.ref 0, .int (nI w)]) (rr := [.ref 0]) dX11_woman_3 rfl rfl rfl rfl (rc_of rfl rfl (by decide) ⟨rfl, by decide⟩) (Nat.le_of_ble_eq_true rfl) (Nat.le_of_ble_eq_true rfl) (by decide) (Ev.i (ix_ok (n := dN D 2) (by omega) (by omega)) (x_ofWoman ho hF hoF hC hW hm hS)) (Or.inl rfl) rfl ?_
  refine e_iload_n (p := 7) dX11_woman_6 rfl rfl ?_
  refine e_bipush (v := 6) (p := 9) dX11_woman_7 (by decide) rfl ?_
  refine e_callS_int (p := 12) (k' := 0) (a := [.int 5, .int 6]) (rr := [.int 0, .ref 0]) dX11_woman_9 rfl rfl rfl rfl rfl (rc_st rfl) (Nat.le_of_ble_eq_true rfl) (Nat.le_of_ble_eq_true rfl) (by decide) (Ev.i (ix_ok (n := 6) (w := 5) (by omega) (by omega)) (x_ofIndex)) (Or.inl rfl) rfl ?_
  refine e_callS_int (p := 15) (k' := 0) (a := [.int 0, .int 0]) (rr := [.ref 0]) dX11_woman_12 rfl rfl rfl rfl rfl (rc_st rfl) (Nat.le_of_ble_eq_true rfl) (Nat.le_of_ble_eq_true rfl) (by decide) (Ev.i (show eiS 0 0 = 0 by decide) (x_either)) (Or.inl rfl) rfl ?_
  refine e_callV_int (p := 18) (k' := 0) (a := [.ref 0, .int 0]) (rr := []) dX11_woman_15 rfl rfl rfl rfl (rc_of rfl rfl (by decide) ⟨rfl, by decide⟩) (Nat.le_of_ble_eq_true rfl) (Nat.le_of_ble_eq_true rfl) (by decide) (Ev.i (show rfS 0 = 0 by decide) (x_refused)) (Or.inl rfl) rfl ?_
  refine e_if_eq (t := 23) (p := 21) dX11_woman_18 (by decide) rfl rfl (fun hc18 => ?_) (fun hc18 => absurd (by decide) hc18)
  refine e_iload_n (p := 24) dX11_woman_23 rfl rfl ?_
  refine e_swOut (p := 109) dX11_woman_24 (by decide) (by decide) rfl ?_
  refine e_aload_n (p := 110) dX11_woman_109 rfl rfl ?_
  refine e_getR (c := 10) (j := 3) (n := 13) (b := 42) (p := 113) dX11_woman_110 rfl rfl (by decide) (by decide) rfl (r_0_3 hF) rfl ?_
  refine e_iload_n (p := 114) dX11_woman_113 rfl rfl ?_
  refine e_callV_int (p := 117) (k' := 0) (a := [.ref 42, .int (nI w)]) (rr := []) dX11_woman_114 rfl rfl rfl rfl (rc_of rfl rfl (by decide) ⟨rfl, by decide⟩) (Nat.le_of_ble_eq_true rfl) (Nat.le_of_ble_eq_true rfl) (by decide) (x_hasTried (t := 42) ⟨rfl, by decide⟩ (mo_u hm (by decide))) (Or.inl rfl) rfl ?_
  refine e_if_eq (t := 124) (p := 120) dX11_woman_117 (by decide) rfl rfl (fun hc117 => ?_) (fun hc117 => ?_)
  · skip
    refine e_iconst (v := 0) (p := 125) dX11_woman_124 (by decide) rfl ?_
    exact e_iretE dX11_woman_125 rfl rfl (by decide) ⟨by rcases tri01 (s := s) (w := nI w) with e | e <;> simp_all, rfl⟩
  · skip
    refine e_iconst (v := 1) (p := 121) dX11_woman_120 (by decide) rfl ?_
    refine e_goto (p := 125) dX11_woman_121 (by decide) rfl ?_
    exact e_iretE dX11_woman_125 rfl rfl (by decide) ⟨by rcases tri01 (s := s) (w := nI w) with e | e <;> simp_all, rfl⟩
set_option maxRecDepth 10000 in
theorem c_age_no {I : Nat → Nat → Int32} {J : Nat → Nat → Int64} {F : Nat → Nat → Option Nat} {nc ns : Nat} {o : Nat} {D : oD} {s : Nat → Int32} (ho : isO o) (hF : RFok F) (hoF : F 0 2 = some o) (hC : oC I o D) (hW : WF D) (hm : mo I 42 s) (hS : WFs D s) {v l : Int32} (ht : ¬ (eiS (ixS v (dN D 2)) (nuS l 0 30)) = 0) : Ev 3 mX11_age 0 [.ref 0, .int v, .int l] [] ((SH, nc, ns), I, J, F) (some (.int (-1000))) ((SH, nc, ns), hp_u I 0 10 (eiS (ixS v (dN D 2)) (nuS l 0 30)), J, F) := by
  have hD := hW.c
  have hH := hW.h
  have hT := hW.t
  have bt := hT.2
  obtain ⟨b0, b1, b2, b3, b4, b5, b6⟩ := hD.2
  refine e_aload_n (p := 1) dX11_age_0 rfl rfl ?_
  refine e_aload_n (p := 2) dX11_age_1 rfl rfl ?_
  refine e_iload_n (p := 3) dX11_age_2 rfl rfl ?_
  refine e_callV_int (p := 6) (k' := 1) (a := [.ref 0, .int v]) (rr := [.ref 0]) dX11_age_3 rfl rfl rfl rfl (rc_of rfl rfl (by decide) ⟨rfl, by decide⟩) (Nat.le_of_ble_eq_true rfl) (Nat.le_of_ble_eq_true rfl) (by decide) (x_ofWoman ho hF hoF hC hW hm hS) (Or.inl rfl) rfl ?_
  refine e_aload_n (p := 7) dX11_age_6 rfl rfl ?_
  refine e_iload_n (p := 8) dX11_age_7 rfl rfl ?_
  refine e_callV_int (p := 11) (k' := 1) (a := [.ref 0, .int l]) (rr := [.int (ixS v (dN D 2)), .ref 0]) dX11_age_8 rfl rfl rfl rfl (rc_of rfl rfl (by decide) ⟨rfl, by decide⟩) (Nat.le_of_ble_eq_true rfl) (Nat.le_of_ble_eq_true rfl) (by decide) x_ofLanding (Or.inl rfl) rfl ?_
  refine e_callS_int (p := 14) (k' := 0) (a := [.int (ixS v (dN D 2)), .int (nuS l 0 30)]) (rr := [.ref 0]) dX11_age_11 rfl rfl rfl rfl rfl (rc_st rfl) (Nat.le_of_ble_eq_true rfl) (Nat.le_of_ble_eq_true rfl) (by decide) x_either (Or.inl rfl) rfl ?_
  refine e_callV_int (p := 17) (k' := 0) (a := [.ref 0, .int (eiS (ixS v (dN D 2)) (nuS l 0 30))]) (rr := []) dX11_age_14 rfl rfl rfl rfl (rc_of rfl rfl (by decide) ⟨rfl, by decide⟩) (Nat.le_of_ble_eq_true rfl) (Nat.le_of_ble_eq_true rfl) (by decide) x_refused (Or.inl rfl) rfl ?_
  refine e_if_eq (t := 24) (p := 20) dX11_age_17 (by decide) rfl rfl (fun hc17 => absurd hc17 (rf_ne ht)) (fun hc17 => ?_)
  refine e_sipush (v := -1000) (p := 23) dX11_age_20 (by decide) rfl ?_
  exact e_iretE dX11_age_23 rfl rfl (by decide) ⟨rfl, rfl⟩
set_option maxRecDepth 10000 in
theorem c_age_ok {I : Nat → Nat → Int32} {J : Nat → Nat → Int64} {F : Nat → Nat → Option Nat} {nc ns : Nat} {o : Nat} {D : oD} {s : Nat → Int32} (ho : isO o) (hF : RFok F) (hoF : F 0 2 = some o) (hC : oC I o D) (hW : WF D) (hm : mo I 42 s) (hS : WFs D s) {w : Nat} (hw : w < dN D 2) {l : Nat} (hl : l ≤ 30)  : Ev 3 mX11_age 0 [.ref 0, .int (nI w), .int (nI l)] [] ((SH, nc, ns), I, J, F) (some (.int (nI l * D 0 0 - D 9 w))) ((SH, nc, ns), hp_u I 0 10 0, J, F) := by
  have hD := hW.c
  have hH := hW.h
  have hT := hW.t
  have bt := hT.2
  obtain ⟨b0, b1, b2, b3, b4, b5, b6⟩ := hD.2
  refine e_aload_n (p := 1) dX11_age_0 rfl rfl ?_
  refine e_aload_n (p := 2) dX11_age_1 rfl rfl ?_
  refine e_iload_n (p := 3) dX11_age_2 rfl rfl ?_
  refine e_callV_int (p := 6) (k' := 1) (a := [.ref 0, .int (nI w)]) (rr := [.ref 0]) dX11_age_3 rfl rfl rfl rfl (rc_of rfl rfl (by decide) ⟨rfl, by decide⟩) (Nat.le_of_ble_eq_true rfl) (Nat.le_of_ble_eq_true rfl) (by decide) (Ev.i (ix_ok (n := dN D 2) (by omega) (by omega)) (x_ofWoman ho hF hoF hC hW hm hS)) (Or.inl rfl) rfl ?_
  refine e_aload_n (p := 7) dX11_age_6 rfl rfl ?_
  refine e_iload_n (p := 8) dX11_age_7 rfl rfl ?_
  refine e_callV_int (p := 11) (k' := 1) (a := [.ref 0, .int (nI l)]) (rr := [.int 0, .ref 0]) dX11_age_8 rfl rfl rfl rfl (rc_of rfl rfl (by decide) ⟨rfl, by decide⟩) (Nat.le_of_ble_eq_true rfl) (Nat.le_of_ble_eq_true rfl) (by decide) (Ev.i (nu_ok (a := 0) (b := 30) (n := l) (by omega) (by omega) (by omega)) (x_ofLanding)) (Or.inl rfl) rfl ?_
  refine e_callS_int (p := 14) (k' := 0) (a := [.int 0, .int 0]) (rr := [.ref 0]) dX11_age_11 rfl rfl rfl rfl rfl (rc_st rfl) (Nat.le_of_ble_eq_true rfl) (Nat.le_of_ble_eq_true rfl) (by decide) (Ev.i (show eiS 0 0 = 0 by decide) (x_either)) (Or.inl rfl) rfl ?_
  refine e_callV_int (p := 17) (k' := 0) (a := [.ref 0, .int 0]) (rr := []) dX11_age_14 rfl rfl rfl rfl (rc_of rfl rfl (by decide) ⟨rfl, by decide⟩) (Nat.le_of_ble_eq_true rfl) (Nat.le_of_ble_eq_true rfl) (by decide) (Ev.i (show rfS 0 = 0 by decide) (x_refused)) (Or.inl rfl) rfl ?_
  refine e_if_eq (t := 24) (p := 20) dX11_age_17 (by decide) rfl rfl (fun hc17 => ?_) (fun hc17 => absurd (by decide) hc17)
  refine e_iload_n (p := 25) dX11_age_24 rfl rfl ?_
  refine e_aload_n (p := 26) dX11_age_25 rfl rfl ?_
  refine e_getR (c := 10) (j := 2) (n := 13) (b := o) (p := 29) dX11_age_26 rfl rfl (by decide) (by decide) rfl hoF rfl ?_
  refine f_getI (c := 4) (j := 0) (n := 18) (v := D 0 0) (p := 32) dX11_age_29 rfl (s_o ho) (l_o0 ho) (by decide) (Or.inl rfl) (oC_u hC ho (by decide)).1 rfl ?_
  refine e_imul (p := 33) dX11_age_32 rfl ?_
  refine e_aload_n (p := 34) dX11_age_33 rfl rfl ?_
  refine e_getR (c := 10) (j := 2) (n := 13) (b := o) (p := 37) dX11_age_34 rfl rfl (by decide) (by decide) rfl hoF rfl ?_
  refine e_getR (c := 4) (j := 9) (n := 18) (b := (o + 8)) (p := 40) dX11_age_37 rfl (s_o ho) (l_o0 ho) (by decide) rfl (r_o9 hF ho) rfl ?_
  refine e_iload_n (p := 41) dX11_age_40 rfl rfl ?_
  refine f_iald (n := 8) (i := w) (v := D 9 w) (p := 42) dX11_age_41 (s_o8 ho) (l_o ho 8 (by decide)) (in_nJ (by omega) (by decide)) (nI_cl (by omega)) (c9 (oC_u hC ho (by decide)) (by omega)) rfl ?_
  refine e_isub (p := 43) dX11_age_42 rfl ?_
  exact e_iretE dX11_age_43 rfl rfl (by decide) ⟨rfl, rfl⟩
set_option maxRecDepth 10000 in
theorem c_love_no {I : Nat → Nat → Int32} {J : Nat → Nat → Int64} {F : Nat → Nat → Option Nat} {nc ns : Nat} {o : Nat} {D : oD} {s : Nat → Int32} (ho : isO o) (hF : RFok F) (hoF : F 0 2 = some o) (hC : oC I o D) (hW : WF D) (hm : mo I 42 s) (hS : WFs D s) {v l : Int32} (ht : ¬ (eiS (ixS v (dN D 2)) (nuS l 0 30)) = 0) : Ev 4 mX11_love 0 [.ref 0, .int v, .int l] [] ((SH, nc, ns), I, J, F) (some (.int (-1))) ((SH, nc, ns), hp_u I 0 10 (eiS (ixS v (dN D 2)) (nuS l 0 30)), J, F) := by
  have hD := hW.c
  have hH := hW.h
  have hT := hW.t
  have bt := hT.2
  obtain ⟨b0, b1, b2, b3, b4, b5, b6⟩ := hD.2
  refine e_aload_n (p := 1) dX11_love_0 rfl rfl ?_
  refine e_aload_n (p := 2) dX11_love_1 rfl rfl ?_
  refine e_iload_n (p := 3) dX11_love_2 rfl rfl ?_
  refine e_callV_int (p := 6) (k' := 1) (a := [.ref 0, .int v]) (rr := [.ref 0]) dX11_love_3 rfl rfl rfl rfl (rc_of rfl rfl (by decide) ⟨rfl, by decide⟩) (Nat.le_of_ble_eq_true rfl) (Nat.le_of_ble_eq_true rfl) (by decide) (x_ofWoman ho hF hoF hC hW hm hS) (Or.inl rfl) rfl ?_
  refine e_aload_n (p := 7) dX11_love_6 rfl rfl ?_
  refine e_iload_n (p := 8) dX11_love_7 rfl rfl ?_
  refine e_callV_int (p := 11) (k' := 1) (a := [.ref 0, .int l]) (rr := [.int (ixS v (dN D 2)), .ref 0]) dX11_love_8 rfl rfl rfl rfl (rc_of rfl rfl (by decide) ⟨rfl, by decide⟩) (Nat.le_of_ble_eq_true rfl) (Nat.le_of_ble_eq_true rfl) (by decide) x_ofLanding (Or.inl rfl) rfl ?_
  refine e_callS_int (p := 14) (k' := 0) (a := [.int (ixS v (dN D 2)), .int (nuS l 0 30)]) (rr := [.ref 0]) dX11_love_11 rfl rfl rfl rfl rfl (rc_st rfl) (Nat.le_of_ble_eq_true rfl) (Nat.le_of_ble_eq_true rfl) (by decide) x_either (Or.inl rfl) rfl ?_
  refine e_callV_int (p := 17) (k' := 0) (a := [.ref 0, .int (eiS (ixS v (dN D 2)) (nuS l 0 30))]) (rr := []) dX11_love_14 rfl rfl rfl rfl (rc_of rfl rfl (by decide) ⟨rfl, by decide⟩) (Nat.le_of_ble_eq_true rfl) (Nat.le_of_ble_eq_true rfl) (by decide) x_refused (Or.inl rfl) rfl ?_
  refine e_if_eq (t := 22) (p := 20) dX11_love_17 (by decide) rfl rfl (fun hc17 => absurd hc17 (rf_ne ht)) (fun hc17 => ?_)
  refine e_iconst (v := -1) (p := 21) dX11_love_20 (by decide) rfl ?_
  exact e_iretE dX11_love_21 rfl rfl (by decide) ⟨rfl, rfl⟩
set_option maxRecDepth 10000 in
theorem c_love_ok {I : Nat → Nat → Int32} {J : Nat → Nat → Int64} {F : Nat → Nat → Option Nat} {nc ns : Nat} {o : Nat} {D : oD} {s : Nat → Int32} (ho : isO o) (hF : RFok F) (hoF : F 0 2 = some o) (hC : oC I o D) (hW : WF D) (hm : mo I 42 s) (hS : WFs D s) {w : Nat} (hw : w < dN D 2) {l : Nat} (hl : l ≤ 30)  : Ev 4 mX11_love 0 [.ref 0, .int (nI w), .int (nI l)] [] ((SH, nc, ns), I, J, F) (some (.int (loveS D w (nI l * D 0 0)))) ((SH, nc, ns), hp_u I 0 10 0, J, F) := by
  have hD := hW.c
  have hH := hW.h
  have hT := hW.t
  have bt := hT.2
  obtain ⟨b0, b1, b2, b3, b4, b5, b6⟩ := hD.2
  refine e_aload_n (p := 1) dX11_love_0 rfl rfl ?_
  refine e_aload_n (p := 2) dX11_love_1 rfl rfl ?_
  refine e_iload_n (p := 3) dX11_love_2 rfl rfl ?_
  refine e_callV_int (p := 6) (k' := 1) (a := [.ref 0, .int (nI w)]) (rr := [.ref 0]) dX11_love_3 rfl rfl rfl rfl (rc_of rfl rfl (by decide) ⟨rfl, by decide⟩) (Nat.le_of_ble_eq_true rfl) (Nat.le_of_ble_eq_true rfl) (by decide) (Ev.i (ix_ok (n := dN D 2) (by omega) (by omega)) (x_ofWoman ho hF hoF hC hW hm hS)) (Or.inl rfl) rfl ?_
  refine e_aload_n (p := 7) dX11_love_6 rfl rfl ?_
  refine e_iload_n (p := 8) dX11_love_7 rfl rfl ?_
  refine e_callV_int (p := 11) (k' := 1) (a := [.ref 0, .int (nI l)]) (rr := [.int 0, .ref 0]) dX11_love_8 rfl rfl rfl rfl (rc_of rfl rfl (by decide) ⟨rfl, by decide⟩) (Nat.le_of_ble_eq_true rfl) (Nat.le_of_ble_eq_true rfl) (by decide) (Ev.i (nu_ok (a := 0) (b := 30) (n := l) (by omega) (by omega) (by omega)) (x_ofLanding)) (Or.inl rfl) rfl ?_
  refine e_callS_int (p := 14) (k' := 0) (a := [.int 0, .int 0]) (rr := [.ref 0]) dX11_love_11 rfl rfl rfl rfl rfl (rc_st rfl) (Nat.le_of_ble_eq_true rfl) (Nat.le_of_ble_eq_true rfl) (by decide) (Ev.i (show eiS 0 0 = 0 by decide) (x_either)) (Or.inl rfl) rfl ?_
  refine e_callV_int (p := 17) (k' := 0) (a := [.ref 0, .int 0]) (rr := []) dX11_love_14 rfl rfl rfl rfl (rc_of rfl rfl (by decide) ⟨rfl, by decide⟩) (Nat.le_of_ble_eq_true rfl) (Nat.le_of_ble_eq_true rfl) (by decide) (Ev.i (show rfS 0 = 0 by decide) (x_refused)) (Or.inl rfl) rfl ?_
  refine e_if_eq (t := 22) (p := 20) dX11_love_17 (by decide) rfl rfl (fun hc17 => ?_) (fun hc17 => absurd (by decide) hc17)
  refine e_aload_n (p := 23) dX11_love_22 rfl rfl ?_
  refine e_getR (c := 10) (j := 2) (n := 13) (b := o) (p := 26) dX11_love_23 rfl rfl (by decide) (by decide) rfl hoF rfl ?_
  refine e_iload_n (p := 27) dX11_love_26 rfl rfl ?_
  refine e_iload_n (p := 28) dX11_love_27 rfl rfl ?_
  refine e_callV_int (p := 31) (k' := 3) (a := [.ref o, .int (nI w), .int (nI l)]) (rr := []) dX11_love_28 rfl rfl rfl rfl (rc_of rfl (s_o ho) (l_o0 ho) ⟨rfl, by decide⟩) (Nat.le_of_ble_eq_true rfl) (Nat.le_of_ble_eq_true rfl) (by decide) (x_loveAt ho hF (oC_u hC ho (by decide)) hW.c hW.h (by omega)) (Or.inl rfl) rfl ?_
  exact e_iretE dX11_love_31 rfl rfl (by decide) ⟨rfl, rfl⟩
set_option maxRecDepth 10000 in
theorem c_alone_no {I : Nat → Nat → Int32} {J : Nat → Nat → Int64} {F : Nat → Nat → Option Nat} {nc ns : Nat} {o : Nat} {D : oD} {s : Nat → Int32} (ho : isO o) (hF : RFok F) (hoF : F 0 2 = some o) (hC : oC I o D) (hW : WF D) (hm : mo I 42 s) (hS : WFs D s) {v l : Int32} (ht : ¬ (eiS (ixS v (dN D 2)) (nuS l 0 30)) = 0) : Ev 4 mX11_alone 0 [.ref 0, .int v, .int l] [] ((SH, nc, ns), I, J, F) (some (.int (-1))) ((SH, nc, ns), hp_u I 0 10 (eiS (ixS v (dN D 2)) (nuS l 0 30)), J, F) := by
  have hD := hW.c
  have hH := hW.h
  have hT := hW.t
  have bt := hT.2
  obtain ⟨b0, b1, b2, b3, b4, b5, b6⟩ := hD.2
  refine e_aload_n (p := 1) dX11_alone_0 rfl rfl ?_
  refine e_aload_n (p := 2) dX11_alone_1 rfl rfl ?_
  refine e_iload_n (p := 3) dX11_alone_2 rfl rfl ?_
  refine e_callV_int (p := 6) (k' := 1) (a := [.ref 0, .int v]) (rr := [.ref 0]) dX11_alone_3 rfl rfl rfl rfl (rc_of rfl rfl (by decide) ⟨rfl, by decide⟩) (Nat.le_of_ble_eq_true rfl) (Nat.le_of_ble_eq_true rfl) (by decide) (x_ofWoman ho hF hoF hC hW hm hS) (Or.inl rfl) rfl ?_
  refine e_aload_n (p := 7) dX11_alone_6 rfl rfl ?_
  refine e_iload_n (p := 8) dX11_alone_7 rfl rfl ?_
  refine e_callV_int (p := 11) (k' := 1) (a := [.ref 0, .int l]) (rr := [.int (ixS v (dN D 2)), .ref 0]) dX11_alone_8 rfl rfl rfl rfl (rc_of rfl rfl (by decide) ⟨rfl, by decide⟩) (Nat.le_of_ble_eq_true rfl) (Nat.le_of_ble_eq_true rfl) (by decide) x_ofLanding (Or.inl rfl) rfl ?_
  refine e_callS_int (p := 14) (k' := 0) (a := [.int (ixS v (dN D 2)), .int (nuS l 0 30)]) (rr := [.ref 0]) dX11_alone_11 rfl rfl rfl rfl rfl (rc_st rfl) (Nat.le_of_ble_eq_true rfl) (Nat.le_of_ble_eq_true rfl) (by decide) x_either (Or.inl rfl) rfl ?_
  refine e_callV_int (p := 17) (k' := 0) (a := [.ref 0, .int (eiS (ixS v (dN D 2)) (nuS l 0 30))]) (rr := []) dX11_alone_14 rfl rfl rfl rfl (rc_of rfl rfl (by decide) ⟨rfl, by decide⟩) (Nat.le_of_ble_eq_true rfl) (Nat.le_of_ble_eq_true rfl) (by decide) x_refused (Or.inl rfl) rfl ?_
  refine e_if_eq (t := 22) (p := 20) dX11_alone_17 (by decide) rfl rfl (fun hc17 => absurd hc17 (rf_ne ht)) (fun hc17 => ?_)
  refine e_iconst (v := -1) (p := 21) dX11_alone_20 (by decide) rfl ?_
  exact e_iretE dX11_alone_21 rfl rfl (by decide) ⟨rfl, rfl⟩
set_option maxRecDepth 10000 in
theorem c_alone_ok {I : Nat → Nat → Int32} {J : Nat → Nat → Int64} {F : Nat → Nat → Option Nat} {nc ns : Nat} {o : Nat} {D : oD} {s : Nat → Int32} (ho : isO o) (hF : RFok F) (hoF : F 0 2 = some o) (hC : oC I o D) (hW : WF D) (hm : mo I 42 s) (hS : WFs D s) {w : Nat} (hw : w < dN D 2) {l : Nat} (hl : l ≤ 30)  : Ev 4 mX11_alone 0 [.ref 0, .int (nI w), .int (nI l)] [] ((SH, nc, ns), I, J, F) (some (.int (heartS D w (nI l * D 0 0)))) ((SH, nc, ns), hp_u I 0 10 0, J, F) := by
  have hD := hW.c
  have hH := hW.h
  have hT := hW.t
  have bt := hT.2
  obtain ⟨b0, b1, b2, b3, b4, b5, b6⟩ := hD.2
  refine e_aload_n (p := 1) dX11_alone_0 rfl rfl ?_
  refine e_aload_n (p := 2) dX11_alone_1 rfl rfl ?_
  refine e_iload_n (p := 3) dX11_alone_2 rfl rfl ?_
  refine e_callV_int (p := 6) (k' := 1) (a := [.ref 0, .int (nI w)]) (rr := [.ref 0]) dX11_alone_3 rfl rfl rfl rfl (rc_of rfl rfl (by decide) ⟨rfl, by decide⟩) (Nat.le_of_ble_eq_true rfl) (Nat.le_of_ble_eq_true rfl) (by decide) (Ev.i (ix_ok (n := dN D 2) (by omega) (by omega)) (x_ofWoman ho hF hoF hC hW hm hS)) (Or.inl rfl) rfl ?_
  refine e_aload_n (p := 7) dX11_alone_6 rfl rfl ?_
  refine e_iload_n (p := 8) dX11_alone_7 rfl rfl ?_
  refine e_callV_int (p := 11) (k' := 1) (a := [.ref 0, .int (nI l)]) (rr := [.int 0, .ref 0]) dX11_alone_8 rfl rfl rfl rfl (rc_of rfl rfl (by decide) ⟨rfl, by decide⟩) (Nat.le_of_ble_eq_true rfl) (Nat.le_of_ble_eq_true rfl) (by decide) (Ev.i (nu_ok (a := 0) (b := 30) (n := l) (by omega) (by omega) (by omega)) (x_ofLanding)) (Or.inl rfl) rfl ?_
  refine e_callS_int (p := 14) (k' := 0) (a := [.int 0, .int 0]) (rr := [.ref 0]) dX11_alone_11 rfl rfl rfl rfl rfl (rc_st rfl) (Nat.le_of_ble_eq_true rfl) (Nat.le_of_ble_eq_true rfl) (by decide) (Ev.i (show eiS 0 0 = 0 by decide) (x_either)) (Or.inl rfl) rfl ?_
  refine e_callV_int (p := 17) (k' := 0) (a := [.ref 0, .int 0]) (rr := []) dX11_alone_14 rfl rfl rfl rfl (rc_of rfl rfl (by decide) ⟨rfl, by decide⟩) (Nat.le_of_ble_eq_true rfl) (Nat.le_of_ble_eq_true rfl) (by decide) (Ev.i (show rfS 0 = 0 by decide) (x_refused)) (Or.inl rfl) rfl ?_
  refine e_if_eq (t := 22) (p := 20) dX11_alone_17 (by decide) rfl rfl (fun hc17 => ?_) (fun hc17 => absurd (by decide) hc17)
  refine e_aload_n (p := 23) dX11_alone_22 rfl rfl ?_
  refine e_getR (c := 10) (j := 2) (n := 13) (b := o) (p := 26) dX11_alone_23 rfl rfl (by decide) (by decide) rfl hoF rfl ?_
  refine e_iload_n (p := 27) dX11_alone_26 rfl rfl ?_
  refine e_iload_n (p := 28) dX11_alone_27 rfl rfl ?_
  refine e_aload_n (p := 29) dX11_alone_28 rfl rfl ?_
  refine e_getR (c := 10) (j := 2) (n := 13) (b := o) (p := 32) dX11_alone_29 rfl rfl (by decide) (by decide) rfl hoF rfl ?_
  refine f_getI (c := 4) (j := 0) (n := 18) (v := D 0 0) (p := 35) dX11_alone_32 rfl (s_o ho) (l_o0 ho) (by decide) (Or.inl rfl) (oC_u hC ho (by decide)).1 rfl ?_
  refine e_imul (p := 36) dX11_alone_35 rfl ?_
  refine e_callV_int (p := 39) (k' := 1) (a := [.ref o, .int (nI w), .int ((nI l) * (D 0 0))]) (rr := []) dX11_alone_36 rfl rfl rfl rfl (rc_of rfl (s_o ho) (l_o0 ho) ⟨rfl, by decide⟩) (Nat.le_of_ble_eq_true rfl) (Nat.le_of_ble_eq_true rfl) (by decide) (x_unrivalledIn ho hF (oC_u hC ho (by decide)) hW.c hW.h (by omega)) (Or.inl rfl) rfl ?_
  exact e_iretE dX11_alone_39 rfl rfl (by decide) ⟨rfl, rfl⟩
set_option maxRecDepth 10000 in
theorem x_ofAge_L {I : Nat → Nat → Int32} {J : Nat → Nat → Int64} {F : Nat → Nat → Option Nat} {nc ns : Nat} {o : Nat} {D : oD} {s : Nat → Int32} (ho : isO o) (hF : RFok F) (hoF : F 0 2 = some o) (hC : oC I o D) (hW : WF D) (hm : mo I 42 s) (hS : WFs D s) {w : Nat} (hw : w < dN D 2) : ∀ (m j : Nat) (acc : Int32), j + m = 31 → Ev 2 mX11_ofAge 18 [.ref 0, .int (nI w), .int acc, .int (nI j)] [] ((SH, nc, ns), I, J, F) (some (.int (gN (ofAgeF D w) j m acc))) ((SH, nc, ns), I, J, F)
  | 0, j, acc, hj => by
    have hD := hW.c
    have hH := hW.h
    have hT := hW.t
    have bt := hT.2
    obtain ⟨b0, b1, b2, b3, b4, b5, b6⟩ := hD.2
    refine e_iload_n (p := 19) dX11_ofAge_18 rfl rfl ?_
    refine e_bipush (v := 30) (p := 21) dX11_ofAge_19 (by decide) rfl ?_
    refine e_icmp_gt (t := 56) (p := 24) dX11_ofAge_21 (by decide) rfl rfl (fun hc21 => ?_) (fun hc21 => absurd (nI_lt (a := 30) (b := j) (by omega) (by omega)) hc21)
    refine e_iload_n (p := 57) dX11_ofAge_56 rfl rfl ?_
    exact e_iretE dX11_ofAge_57 rfl rfl (by decide) ⟨rfl, rfl⟩
  | m + 1, j, acc, hj => by
    have hD := hW.c
    have hH := hW.h
    have hT := hW.t
    have bt := hT.2
    obtain ⟨b0, b1, b2, b3, b4, b5, b6⟩ := hD.2
    refine e_iload_n (p := 19) dX11_ofAge_18 rfl rfl ?_
    refine e_bipush (v := 30) (p := 21) dX11_ofAge_19 (by decide) rfl ?_
    refine e_icmp_gt (t := 56) (p := 24) dX11_ofAge_21 (by decide) rfl rfl (fun hc21 => absurd hc21 (nI_nlt (a := 30) (b := j) (by omega) (by omega))) (fun hc21 => ?_)
    refine e_aload_n (p := 25) dX11_ofAge_24 rfl rfl ?_
    refine e_getR (c := 10) (j := 2) (n := 13) (b := o) (p := 28) dX11_ofAge_25 rfl rfl (by decide) (by decide) rfl hoF rfl ?_
    refine e_iload_n (p := 29) dX11_ofAge_28 rfl rfl ?_
    refine e_iload_n (p := 30) dX11_ofAge_29 rfl rfl ?_
    refine e_aload_n (p := 31) dX11_ofAge_30 rfl rfl ?_
    refine e_getR (c := 10) (j := 2) (n := 13) (b := o) (p := 34) dX11_ofAge_31 rfl rfl (by decide) (by decide) rfl hoF rfl ?_
    refine f_getI (c := 4) (j := 0) (n := 18) (v := D 0 0) (p := 37) dX11_ofAge_34 rfl (s_o ho) (l_o0 ho) (by decide) (Or.inl rfl) hC.1 rfl ?_
    refine e_imul (p := 38) dX11_ofAge_37 rfl ?_
    refine e_callV_int (p := 41) (k' := 0) (a := [.ref o, .int (nI w), .int ((nI j) * (D 0 0))]) (rr := []) dX11_ofAge_38 rfl rfl rfl rfl (rc_of rfl (s_o ho) (l_o0 ho) ⟨rfl, by decide⟩) (Nat.le_of_ble_eq_true rfl) (Nat.le_of_ble_eq_true rfl) (by decide) (x_isOfAge ho hF hC hW.c (by omega)) (Or.inl rfl) rfl ?_
    refine e_if_eq (t := 50) (p := 44) dX11_ofAge_41 (by decide) rfl rfl (fun hc41 => ?_) (fun hc41 => ?_)
    · skip
      refine e_iinc (ls1 := [.ref 0, .int (nI w), .int acc, .int ((nI j) + 1)]) (p := 53) dX11_ofAge_50 rfl rfl rfl ?_
      refine e_goto (p := 18) dX11_ofAge_53 (by decide) rfl ?_
      rw [nI_1]
      exact Ev.res (by simp only [gN_s, ofAgeF, hc41, bit, Int32.or_zero, Int32.add_zero, ↓reduceIte]) (x_ofAge_L ho hF hoF hC hW hm hS hw m (j + 1) acc  (by omega))
    · skip
      refine e_iload_n (p := 45) dX11_ofAge_44 rfl rfl ?_
      refine e_iconst (v := 1) (p := 46) dX11_ofAge_45 (by decide) rfl ?_
      refine e_iload_n (p := 47) dX11_ofAge_46 rfl rfl ?_
      refine e_ishl (p := 48) dX11_ofAge_47 rfl ?_
      refine e_ior (p := 49) dX11_ofAge_48 rfl ?_
      refine e_istore_n (ls1 := [.ref 0, .int (nI w), .int (acc ||| (1 <<< ((nI j) &&& 31))), .int (nI j)]) (p := 50) dX11_ofAge_49 rfl rfl ?_
      refine e_iinc (ls1 := [.ref 0, .int (nI w), .int (acc ||| (1 <<< ((nI j) &&& 31))), .int ((nI j) + 1)]) (p := 53) dX11_ofAge_50 rfl rfl rfl ?_
      refine e_goto (p := 18) dX11_ofAge_53 (by decide) rfl ?_
      rw [nI_1]
      exact Ev.res (by simp only [gN_s, ofAgeF, hc41, bit, Int32.or_zero, Int32.add_zero, ↓reduceIte]) (x_ofAge_L ho hF hoF hC hW hm hS hw m (j + 1) (acc ||| (1 <<< ((nI j) &&& 31)))  (by omega))
set_option maxRecDepth 10000 in
theorem x_present_L {I : Nat → Nat → Int32} {J : Nat → Nat → Int64} {F : Nat → Nat → Option Nat} {nc ns : Nat} {o : Nat} {D : oD} {s : Nat → Int32} (ho : isO o) (hF : RFok F) (hoF : F 0 2 = some o) (hC : oC I o D) (hW : WF D) (hm : mo I 42 s) (hS : WFs D s) {l : Int32} : ∀ (m j : Nat) (acc : Int32), j + m = dN D 2 → Ev 5 mX11_present 25 [.ref 0, .int l, .int acc, .int (nI j)] [] ((SH, nc, ns), I, J, F) (some (.int (gN (presF D l) j m acc))) ((SH, nc, ns), I, J, F)
  | 0, j, acc, hj => by
    have hD := hW.c
    have hH := hW.h
    have hT := hW.t
    have bt := hT.2
    obtain ⟨b0, b1, b2, b3, b4, b5, b6⟩ := hD.2
    refine e_iload_n (p := 26) dX11_present_25 rfl rfl ?_
    refine e_aload_n (p := 27) dX11_present_26 rfl rfl ?_
    refine e_getR (c := 10) (j := 2) (n := 13) (b := o) (p := 30) dX11_present_27 rfl rfl (by decide) (by decide) rfl hoF rfl ?_
    refine e_getR (c := 4) (j := 2) (n := 18) (b := (o + 1)) (p := 33) dX11_present_30 rfl (s_o ho) (l_o0 ho) (by decide) rfl (r_o2 hF ho) rfl ?_
    refine e_iconst (v := 2) (p := 34) dX11_present_33 (by decide) rfl ?_
    refine f_iald (n := 7) (i := 2) (v := nI (dN D 2)) (p := 35) dX11_present_34 (s_o1 ho) (l_o ho 1 (by decide)) (by decide) (by decide) (cN hC hD (by decide)) rfl ?_
    refine e_icmp_ge (t := 62) (p := 38) dX11_present_35 (by decide) rfl rfl (fun hc35 => ?_) (fun hc35 => absurd (nle (by omega) (by omega)) hc35)
    refine e_iload_n (p := 63) dX11_present_62 rfl rfl ?_
    exact e_iretE dX11_present_63 rfl rfl (by decide) ⟨rfl, rfl⟩
  | m + 1, j, acc, hj => by
    have hD := hW.c
    have hH := hW.h
    have hT := hW.t
    have bt := hT.2
    obtain ⟨b0, b1, b2, b3, b4, b5, b6⟩ := hD.2
    refine e_iload_n (p := 26) dX11_present_25 rfl rfl ?_
    refine e_aload_n (p := 27) dX11_present_26 rfl rfl ?_
    refine e_getR (c := 10) (j := 2) (n := 13) (b := o) (p := 30) dX11_present_27 rfl rfl (by decide) (by decide) rfl hoF rfl ?_
    refine e_getR (c := 4) (j := 2) (n := 18) (b := (o + 1)) (p := 33) dX11_present_30 rfl (s_o ho) (l_o0 ho) (by decide) rfl (r_o2 hF ho) rfl ?_
    refine e_iconst (v := 2) (p := 34) dX11_present_33 (by decide) rfl ?_
    refine f_iald (n := 7) (i := 2) (v := nI (dN D 2)) (p := 35) dX11_present_34 (s_o1 ho) (l_o ho 1 (by decide)) (by decide) (by decide) (cN hC hD (by decide)) rfl ?_
    refine e_icmp_ge (t := 62) (p := 38) dX11_present_35 (by decide) rfl rfl (fun hc35 => absurd hc35 (nge (by omega) (by omega))) (fun hc35 => ?_)
    refine e_aload_n (p := 39) dX11_present_38 rfl rfl ?_
    refine e_getR (c := 10) (j := 2) (n := 13) (b := o) (p := 42) dX11_present_39 rfl rfl (by decide) (by decide) rfl hoF rfl ?_
    refine e_iload_n (p := 43) dX11_present_42 rfl rfl ?_
    refine e_iload_n (p := 44) dX11_present_43 rfl rfl ?_
    refine e_callV_int (p := 47) (k' := 3) (a := [.ref o, .int (nI j), .int l]) (rr := []) dX11_present_44 rfl rfl rfl rfl (rc_of rfl (s_o ho) (l_o0 ho) ⟨rfl, by decide⟩) (Nat.le_of_ble_eq_true rfl) (Nat.le_of_ble_eq_true rfl) (by decide) (x_loveAt ho hF hC hW.c hW.h (by omega)) (Or.inl rfl) rfl ?_
    refine e_if_le (t := 56) (p := 50) dX11_present_47 (by decide) rfl rfl (fun hc47 => ?_) (fun hc47 => ?_)
    · skip
      refine e_iinc (ls1 := [.ref 0, .int l, .int acc, .int ((nI j) + 1)]) (p := 59) dX11_present_56 rfl rfl rfl ?_
      refine e_goto (p := 25) dX11_present_59 (by decide) rfl ?_
      rw [nI_1]
      exact Ev.res (by simp only [gN_s, presF, hc47, (Int32.not_lt.mpr hc47), bit, Int32.or_zero, Int32.add_zero, ↓reduceIte]) (x_present_L ho hF hoF hC hW hm hS m (j + 1) acc  (by omega))
    · skip
      refine e_iload_n (p := 51) dX11_present_50 rfl rfl ?_
      refine e_iconst (v := 1) (p := 52) dX11_present_51 (by decide) rfl ?_
      refine e_iload_n (p := 53) dX11_present_52 rfl rfl ?_
      refine e_ishl (p := 54) dX11_present_53 rfl ?_
      refine e_ior (p := 55) dX11_present_54 rfl ?_
      refine e_istore_n (ls1 := [.ref 0, .int l, .int (acc ||| (1 <<< ((nI j) &&& 31))), .int (nI j)]) (p := 56) dX11_present_55 rfl rfl ?_
      refine e_iinc (ls1 := [.ref 0, .int l, .int (acc ||| (1 <<< ((nI j) &&& 31))), .int ((nI j) + 1)]) (p := 59) dX11_present_56 rfl rfl rfl ?_
      refine e_goto (p := 25) dX11_present_59 (by decide) rfl ?_
      rw [nI_1]
      exact Ev.res (by simp only [gN_s, presF, hc47, (Int32.not_le.mp hc47), bit, Int32.or_zero, Int32.add_zero, ↓reduceIte]) (x_present_L ho hF hoF hC hW hm hS m (j + 1) (acc ||| (1 <<< ((nI j) &&& 31)))  (by omega))
set_option maxRecDepth 10000 in
theorem x_bestLanding_L {I : Nat → Nat → Int32} {J : Nat → Nat → Int64} {F : Nat → Nat → Option Nat} {nc ns : Nat} {o : Nat} {D : oD} {s : Nat → Int32} (ho : isO o) (hF : RFok F) (hoF : F 0 2 = some o) (hC : oC I o D) (hW : WF D) (hm : mo I 42 s) (hS : WFs D s) {w : Nat} (hw : w < dN D 2) : ∀ (m j : Nat) (best : Int32) (most : Int32) (z : Value), j + m = 31 → Ev 5 mX11_bestLanding 22 [.ref 0, .int (nI w), .int best, .int most, .int (nI j), z] [] ((SH, nc, ns), I, J, F) (some (.int (gN (bestF D w) j m (best, most)).1)) ((SH, nc, ns), I, J, F)
  | 0, j, best, most, z, hj => by
    have hD := hW.c
    have hH := hW.h
    have hT := hW.t
    have bt := hT.2
    obtain ⟨b0, b1, b2, b3, b4, b5, b6⟩ := hD.2
    refine e_iload (p := 24) dX11_bestLanding_22 rfl rfl ?_
    refine e_bipush (v := 30) (p := 26) dX11_bestLanding_24 (by decide) rfl ?_
    refine e_icmp_gt (t := 59) (p := 29) dX11_bestLanding_26 (by decide) rfl rfl (fun hc26 => ?_) (fun hc26 => absurd (nI_lt (a := 30) (b := j) (by omega) (by omega)) hc26)
    refine e_iload_n (p := 60) dX11_bestLanding_59 rfl rfl ?_
    exact e_iretE dX11_bestLanding_60 rfl rfl (by decide) ⟨rfl, rfl⟩
  | m + 1, j, best, most, z, hj => by
    have hD := hW.c
    have hH := hW.h
    have hT := hW.t
    have bt := hT.2
    obtain ⟨b0, b1, b2, b3, b4, b5, b6⟩ := hD.2
    refine e_iload (p := 24) dX11_bestLanding_22 rfl rfl ?_
    refine e_bipush (v := 30) (p := 26) dX11_bestLanding_24 (by decide) rfl ?_
    refine e_icmp_gt (t := 59) (p := 29) dX11_bestLanding_26 (by decide) rfl rfl (fun hc26 => absurd hc26 (nI_nlt (a := 30) (b := j) (by omega) (by omega))) (fun hc26 => ?_)
    refine e_aload_n (p := 30) dX11_bestLanding_29 rfl rfl ?_
    refine e_getR (c := 10) (j := 2) (n := 13) (b := o) (p := 33) dX11_bestLanding_30 rfl rfl (by decide) (by decide) rfl hoF rfl ?_
    refine e_iload_n (p := 34) dX11_bestLanding_33 rfl rfl ?_
    refine e_iload (p := 36) dX11_bestLanding_34 rfl rfl ?_
    refine e_callV_int (p := 39) (k' := 3) (a := [.ref o, .int (nI w), .int (nI j)]) (rr := []) dX11_bestLanding_36 rfl rfl rfl rfl (rc_of rfl (s_o ho) (l_o0 ho) ⟨rfl, by decide⟩) (Nat.le_of_ble_eq_true rfl) (Nat.le_of_ble_eq_true rfl) (by decide) (x_loveAt ho hF hC hW.c hW.h (by omega)) (Or.inl rfl) rfl ?_
    refine e_istore (ls1 := [.ref 0, .int (nI w), .int best, .int most, .int (nI j), .int (loveS D w ((nI j) * D 0 0))]) (p := 41) dX11_bestLanding_39 rfl rfl ?_
    refine e_iload (p := 43) dX11_bestLanding_41 rfl rfl ?_
    refine e_iload_n (p := 44) dX11_bestLanding_43 rfl rfl ?_
    refine e_icmp_le (t := 53) (p := 47) dX11_bestLanding_44 (by decide) rfl rfl (fun hc44 => ?_) (fun hc44 => ?_)
    · skip
      refine e_iinc (ls1 := [.ref 0, .int (nI w), .int best, .int most, .int ((nI j) + 1), .int (loveS D w ((nI j) * D 0 0))]) (p := 56) dX11_bestLanding_53 rfl rfl rfl ?_
      refine e_goto (p := 22) dX11_bestLanding_56 (by decide) rfl ?_
      rw [nI_1]
      exact Ev.res (by simp only [gN_s, bestF, hc44, (Int32.not_lt.mpr hc44), bit, Int32.or_zero, Int32.add_zero, ↓reduceIte]) (x_bestLanding_L ho hF hoF hC hW hm hS hw m (j + 1) best most (.int (loveS D w ((nI j) * D 0 0))) (by omega))
    · skip
      refine e_iload (p := 49) dX11_bestLanding_47 rfl rfl ?_
      refine e_istore_n (ls1 := [.ref 0, .int (nI w), .int best, .int (loveS D w ((nI j) * D 0 0)), .int (nI j), .int (loveS D w ((nI j) * D 0 0))]) (p := 50) dX11_bestLanding_49 rfl rfl ?_
      refine e_iload (p := 52) dX11_bestLanding_50 rfl rfl ?_
      refine e_istore_n (ls1 := [.ref 0, .int (nI w), .int (nI j), .int (loveS D w ((nI j) * D 0 0)), .int (nI j), .int (loveS D w ((nI j) * D 0 0))]) (p := 53) dX11_bestLanding_52 rfl rfl ?_
      refine e_iinc (ls1 := [.ref 0, .int (nI w), .int (nI j), .int (loveS D w ((nI j) * D 0 0)), .int ((nI j) + 1), .int (loveS D w ((nI j) * D 0 0))]) (p := 56) dX11_bestLanding_53 rfl rfl rfl ?_
      refine e_goto (p := 22) dX11_bestLanding_56 (by decide) rfl ?_
      rw [nI_1]
      exact Ev.res (by simp only [gN_s, bestF, hc44, (Int32.not_le.mp hc44), bit, Int32.or_zero, Int32.add_zero, ↓reduceIte]) (x_bestLanding_L ho hF hoF hC hW hm hS hw m (j + 1) (nI j) (loveS D w ((nI j) * D 0 0)) (.int (loveS D w ((nI j) * D 0 0))) (by omega))
def byC (D : oD) (l : Int32) (y : Nat) (a : Int32 × Int32) : Int32 × Int32 := if yS D (l * nI y) ≤ a.2 then a else (nI y, yS D (l * nI y))
def lostC (D : oD) (s : Nat → Int32) (k : Nat) (a : Int32) : Int32 := if soonS D s (D 12 k) = -2 then a ||| bit k else if soonS D s (D 12 k) ≤ D 13 k then a else a ||| bit k
def rstC (v : Int32) (j : Nat) (a : Int32) : Int32 := if resS v (nI j / 10) (nI j - nI j / 10 * 10) = 0 then a else a + 1
def rs1C (v : Int32) : Nat → Nat → Int32
  | _, 0 => -2
  | j, m + 1 => if resS v (nI j / 10) (nI j - nI j / 10 * 10) = 0 then rs1C v (j + 1) m else nI j
def judC (D : oD) : Nat → Nat → Int32
  | _, 0 => -2
  | j, m + 1 => if fitS D j = 0 then nI j else judC D (j + 1) m
set_option maxRecDepth 10000 in
theorem x_bestYears_L {I : Nat → Nat → Int32} {J : Nat → Nat → Int64} {F : Nat → Nat → Option Nat} {nc ns : Nat} {o : Nat} {D : oD} {s : Nat → Int32} (ho : isO o) (hF : RFok F) (hoF : F 0 2 = some o) (hC : oC I o D) (hW : WF D) (hm : mo I 42 s) (hS : WFs D s) {l : Int32} : ∀ (m j : Nat) (best : Int32) (most : Int32) (z : Value), j + m = 10 → Ev 4 mX11_bestYears 28 [.ref 0, .int l, .int best, .int most, .int (nI j), z] [] ((SH, nc, ns), I, J, F) (some (.int (gN (byC D l) j m (best, most)).1)) ((SH, nc, ns), I, J, F)
  | 0, j, best, most, z, hj => by
    have hD := hW.c
    have hH := hW.h
    have hT := hW.t
    have bt := hT.2
    obtain ⟨b0, b1, b2, b3, b4, b5, b6⟩ := hD.2
    refine e_iload (p := 30) dX11_bestYears_28 rfl rfl ?_
    refine e_bipush (v := 9) (p := 32) dX11_bestYears_30 (by decide) rfl ?_
    refine e_icmp_gt (t := 66) (p := 35) dX11_bestYears_32 (by decide) rfl rfl (fun hc32 => ?_) (fun hc32 => absurd (nI_lt (a := 9) (b := j) (by omega) (by omega)) hc32)
    refine e_iload_n (p := 67) dX11_bestYears_66 rfl rfl ?_
    exact e_iretE dX11_bestYears_67 rfl rfl (by decide) ⟨rfl, rfl⟩
  | m + 1, j, best, most, z, hj => by
    have hD := hW.c
    have hH := hW.h
    have hT := hW.t
    have bt := hT.2
    obtain ⟨b0, b1, b2, b3, b4, b5, b6⟩ := hD.2
    refine e_iload (p := 30) dX11_bestYears_28 rfl rfl ?_
    refine e_bipush (v := 9) (p := 32) dX11_bestYears_30 (by decide) rfl ?_
    refine e_icmp_gt (t := 66) (p := 35) dX11_bestYears_32 (by decide) rfl rfl (fun hc32 => absurd hc32 (nI_nlt (a := 9) (b := j) (by omega) (by omega))) (fun hc32 => ?_)
    refine e_aload_n (p := 36) dX11_bestYears_35 rfl rfl ?_
    refine e_getR (c := 10) (j := 2) (n := 13) (b := o) (p := 39) dX11_bestYears_36 rfl rfl (by decide) (by decide) rfl hoF rfl ?_
    refine e_iload_n (p := 40) dX11_bestYears_39 rfl rfl ?_
    refine e_iload (p := 42) dX11_bestYears_40 rfl rfl ?_
    refine e_imul (p := 43) dX11_bestYears_42 rfl ?_
    refine e_callV_int (p := 46) (k' := 3) (a := [.ref o, .int (l * (nI j))]) (rr := []) dX11_bestYears_43 rfl rfl rfl rfl (rc_of rfl (s_o ho) (l_o0 ho) ⟨rfl, by decide⟩) (Nat.le_of_ble_eq_true rfl) (Nat.le_of_ble_eq_true rfl) (by decide) (x_loveOfAllIn ho hF hC hW.c hW.h) (Or.inl rfl) rfl ?_
    refine e_istore (ls1 := [.ref 0, .int l, .int best, .int most, .int (nI j), .int (yS D (l * (nI j)))]) (p := 48) dX11_bestYears_46 rfl rfl ?_
    refine e_iload (p := 50) dX11_bestYears_48 rfl rfl ?_
    refine e_iload_n (p := 51) dX11_bestYears_50 rfl rfl ?_
    refine e_icmp_le (t := 60) (p := 54) dX11_bestYears_51 (by decide) rfl rfl (fun hc51 => ?_) (fun hc51 => ?_)
    · skip
      refine e_iinc (ls1 := [.ref 0, .int l, .int best, .int most, .int ((nI j) + 1), .int (yS D (l * (nI j)))]) (p := 63) dX11_bestYears_60 rfl rfl rfl ?_
      refine e_goto (p := 28) dX11_bestYears_63 (by decide) rfl ?_
      rw [nI_1]
      exact Ev.res (by simp only [gN_s, byC, hc51, (Int32.not_lt.mpr hc51), bit, Int32.or_zero, Int32.add_zero, ↓reduceIte]) (x_bestYears_L ho hF hoF hC hW hm hS m (j + 1) best most (.int (yS D (l * (nI j)))) (by omega))
    · skip
      refine e_iload (p := 56) dX11_bestYears_54 rfl rfl ?_
      refine e_istore_n (ls1 := [.ref 0, .int l, .int best, .int (yS D (l * (nI j))), .int (nI j), .int (yS D (l * (nI j)))]) (p := 57) dX11_bestYears_56 rfl rfl ?_
      refine e_iload (p := 59) dX11_bestYears_57 rfl rfl ?_
      refine e_istore_n (ls1 := [.ref 0, .int l, .int (nI j), .int (yS D (l * (nI j))), .int (nI j), .int (yS D (l * (nI j)))]) (p := 60) dX11_bestYears_59 rfl rfl ?_
      refine e_iinc (ls1 := [.ref 0, .int l, .int (nI j), .int (yS D (l * (nI j))), .int ((nI j) + 1), .int (yS D (l * (nI j)))]) (p := 63) dX11_bestYears_60 rfl rfl rfl ?_
      refine e_goto (p := 28) dX11_bestYears_63 (by decide) rfl ?_
      rw [nI_1]
      exact Ev.res (by simp only [gN_s, byC, hc51, (Int32.not_le.mp hc51), bit, Int32.or_zero, Int32.add_zero, ↓reduceIte]) (x_bestYears_L ho hF hoF hC hW hm hS m (j + 1) (nI j) (yS D (l * (nI j))) (.int (yS D (l * (nI j)))) (by omega))
set_option maxRecDepth 10000 in
theorem c_ofAge_no {I : Nat → Nat → Int32} {J : Nat → Nat → Int64} {F : Nat → Nat → Option Nat} {nc ns : Nat} {o : Nat} {D : oD} {s : Nat → Int32} (ho : isO o) (hF : RFok F) (hoF : F 0 2 = some o) (hC : oC I o D) (hW : WF D) (hm : mo I 42 s) (hS : WFs D s) {v : Int32} (ht : ¬ (ixS v (dN D 2)) = 0) : Ev 2 mX11_ofAge 0 [.ref 0, .int v, .null, .null] [] ((SH, nc, ns), I, J, F) (some (.int (-1))) ((SH, nc, ns), hp_u I 0 10 (ixS v (dN D 2)), J, F) := by
  have hD := hW.c
  have hH := hW.h
  have hT := hW.t
  have bt := hT.2
  obtain ⟨b0, b1, b2, b3, b4, b5, b6⟩ := hD.2
  refine e_aload_n (p := 1) dX11_ofAge_0 rfl rfl ?_
  refine e_aload_n (p := 2) dX11_ofAge_1 rfl rfl ?_
  refine e_iload_n (p := 3) dX11_ofAge_2 rfl rfl ?_
  refine e_callV_int (p := 6) (k' := 1) (a := [.ref 0, .int v]) (rr := [.ref 0]) dX11_ofAge_3 rfl rfl rfl rfl (rc_of rfl rfl (by decide) ⟨rfl, by decide⟩) (Nat.le_of_ble_eq_true rfl) (Nat.le_of_ble_eq_true rfl) (by decide) (x_ofWoman ho hF hoF hC hW hm hS) (Or.inl rfl) rfl ?_
  refine e_callV_int (p := 9) (k' := 0) (a := [.ref 0, .int (ixS v (dN D 2))]) (rr := []) dX11_ofAge_6 rfl rfl rfl rfl (rc_of rfl rfl (by decide) ⟨rfl, by decide⟩) (Nat.le_of_ble_eq_true rfl) (Nat.le_of_ble_eq_true rfl) (by decide) x_refused (Or.inl rfl) rfl ?_
  refine e_if_eq (t := 14) (p := 12) dX11_ofAge_9 (by decide) rfl rfl (fun hc9 => absurd hc9 (rf_ne ht)) (fun hc9 => ?_)
  refine e_iconst (v := -1) (p := 13) dX11_ofAge_12 (by decide) rfl ?_
  exact e_iretE dX11_ofAge_13 rfl rfl (by decide) ⟨rfl, rfl⟩
set_option maxRecDepth 10000 in
theorem c_ofAge_ok {I : Nat → Nat → Int32} {J : Nat → Nat → Int64} {F : Nat → Nat → Option Nat} {nc ns : Nat} {o : Nat} {D : oD} {s : Nat → Int32} (ho : isO o) (hF : RFok F) (hoF : F 0 2 = some o) (hC : oC I o D) (hW : WF D) (hm : mo I 42 s) (hS : WFs D s) {w : Nat} (hw : w < dN D 2)  : Ev 2 mX11_ofAge 0 [.ref 0, .int (nI w), .null, .null] [] ((SH, nc, ns), I, J, F) (some (.int (gN (ofAgeF D w) 0 31 0))) ((SH, nc, ns), hp_u I 0 10 0, J, F) := by
  have hD := hW.c
  have hH := hW.h
  have hT := hW.t
  have bt := hT.2
  obtain ⟨b0, b1, b2, b3, b4, b5, b6⟩ := hD.2
  refine e_aload_n (p := 1) dX11_ofAge_0 rfl rfl ?_
  refine e_aload_n (p := 2) dX11_ofAge_1 rfl rfl ?_
  refine e_iload_n (p := 3) dX11_ofAge_2 rfl rfl ?_
  refine e_callV_int (p := 6) (k' := 1) (a := [.ref 0, .int (nI w)]) (rr := [.ref 0]) dX11_ofAge_3 rfl rfl rfl rfl (rc_of rfl rfl (by decide) ⟨rfl, by decide⟩) (Nat.le_of_ble_eq_true rfl) (Nat.le_of_ble_eq_true rfl) (by decide) (Ev.i (ix_ok (n := dN D 2) (by omega) (by omega)) (x_ofWoman ho hF hoF hC hW hm hS)) (Or.inl rfl) rfl ?_
  refine e_callV_int (p := 9) (k' := 0) (a := [.ref 0, .int 0]) (rr := []) dX11_ofAge_6 rfl rfl rfl rfl (rc_of rfl rfl (by decide) ⟨rfl, by decide⟩) (Nat.le_of_ble_eq_true rfl) (Nat.le_of_ble_eq_true rfl) (by decide) (Ev.i (show rfS 0 = 0 by decide) (x_refused)) (Or.inl rfl) rfl ?_
  refine e_if_eq (t := 14) (p := 12) dX11_ofAge_9 (by decide) rfl rfl (fun hc9 => ?_) (fun hc9 => absurd (by decide) hc9)
  refine e_iconst (v := 0) (p := 15) dX11_ofAge_14 (by decide) rfl ?_
  refine e_istore_n (ls1 := [.ref 0, .int (nI w), .int 0, .null]) (p := 16) dX11_ofAge_15 rfl rfl ?_
  refine e_iconst (v := 0) (p := 17) dX11_ofAge_16 (by decide) rfl ?_
  refine e_istore_n (ls1 := [.ref 0, .int (nI w), .int 0, .int 0]) (p := 18) dX11_ofAge_17 rfl rfl ?_
  exact x_ofAge_L ho hF hoF (oC_u hC ho (by decide)) hW (mo_u hm (by decide)) hS hw _ 0 _ (by omega)
set_option maxRecDepth 10000 in
theorem c_present_no {I : Nat → Nat → Int32} {J : Nat → Nat → Int64} {F : Nat → Nat → Option Nat} {nc ns : Nat} {o : Nat} {D : oD} {s : Nat → Int32} (ho : isO o) (hF : RFok F) (hoF : F 0 2 = some o) (hC : oC I o D) (hW : WF D) (hm : mo I 42 s) (hS : WFs D s) {l : Int32} (ht : ¬ (eiS (toS D) (nuS l 0 30)) = 0) : Ev 5 mX11_present 0 [.ref 0, .int l, .null, .null] [] ((SH, nc, ns), I, J, F) (some (.int (-1))) ((SH, nc, ns), hp_u I 0 10 (eiS (toS D) (nuS l 0 30)), J, F) := by
  have hD := hW.c
  have hH := hW.h
  have hT := hW.t
  have bt := hT.2
  obtain ⟨b0, b1, b2, b3, b4, b5, b6⟩ := hD.2
  refine e_aload_n (p := 1) dX11_present_0 rfl rfl ?_
  refine e_aload_n (p := 2) dX11_present_1 rfl rfl ?_
  refine e_callV_int (p := 5) (k' := 1) (a := [.ref 0]) (rr := [.ref 0]) dX11_present_2 rfl rfl rfl rfl (rc_of rfl rfl (by decide) ⟨rfl, by decide⟩) (Nat.le_of_ble_eq_true rfl) (Nat.le_of_ble_eq_true rfl) (by decide) (x_ofOath ho hF hoF hC hW hm hS) (Or.inl rfl) rfl ?_
  refine e_aload_n (p := 6) dX11_present_5 rfl rfl ?_
  refine e_iload_n (p := 7) dX11_present_6 rfl rfl ?_
  refine e_callV_int (p := 10) (k' := 1) (a := [.ref 0, .int l]) (rr := [.int (toS D), .ref 0]) dX11_present_7 rfl rfl rfl rfl (rc_of rfl rfl (by decide) ⟨rfl, by decide⟩) (Nat.le_of_ble_eq_true rfl) (Nat.le_of_ble_eq_true rfl) (by decide) x_ofLanding (Or.inl rfl) rfl ?_
  refine e_callS_int (p := 13) (k' := 0) (a := [.int (toS D), .int (nuS l 0 30)]) (rr := [.ref 0]) dX11_present_10 rfl rfl rfl rfl rfl (rc_st rfl) (Nat.le_of_ble_eq_true rfl) (Nat.le_of_ble_eq_true rfl) (by decide) x_either (Or.inl rfl) rfl ?_
  refine e_callV_int (p := 16) (k' := 0) (a := [.ref 0, .int (eiS (toS D) (nuS l 0 30))]) (rr := []) dX11_present_13 rfl rfl rfl rfl (rc_of rfl rfl (by decide) ⟨rfl, by decide⟩) (Nat.le_of_ble_eq_true rfl) (Nat.le_of_ble_eq_true rfl) (by decide) x_refused (Or.inl rfl) rfl ?_
  refine e_if_eq (t := 21) (p := 19) dX11_present_16 (by decide) rfl rfl (fun hc16 => absurd hc16 (rf_ne ht)) (fun hc16 => ?_)
  refine e_iconst (v := -1) (p := 20) dX11_present_19 (by decide) rfl ?_
  exact e_iretE dX11_present_20 rfl rfl (by decide) ⟨rfl, rfl⟩
set_option maxRecDepth 10000 in
theorem c_present_ok {I : Nat → Nat → Int32} {J : Nat → Nat → Int64} {F : Nat → Nat → Option Nat} {nc ns : Nat} {o : Nat} {D : oD} {s : Nat → Int32} (ho : isO o) (hF : RFok F) (hoF : F 0 2 = some o) (hC : oC I o D) (hW : WF D) (hm : mo I 42 s) (hS : WFs D s) (ht1 : tol D = 1) {l : Nat} (hl : l ≤ 30)  : Ev 5 mX11_present 0 [.ref 0, .int (nI l), .null, .null] [] ((SH, nc, ns), I, J, F) (some (.int (gN (presF D (nI l)) 0 (dN D 2) 0))) ((SH, nc, ns), hp_u I 0 10 0, J, F) := by
  have hD := hW.c
  have hH := hW.h
  have hT := hW.t
  have bt := hT.2
  obtain ⟨b0, b1, b2, b3, b4, b5, b6⟩ := hD.2
  refine e_aload_n (p := 1) dX11_present_0 rfl rfl ?_
  refine e_aload_n (p := 2) dX11_present_1 rfl rfl ?_
  refine e_callV_int (p := 5) (k' := 1) (a := [.ref 0]) (rr := [.ref 0]) dX11_present_2 rfl rfl rfl rfl (rc_of rfl rfl (by decide) ⟨rfl, by decide⟩) (Nat.le_of_ble_eq_true rfl) (Nat.le_of_ble_eq_true rfl) (by decide) (Ev.i (to_1 ht1) (x_ofOath ho hF hoF hC hW hm hS)) (Or.inl rfl) rfl ?_
  refine e_aload_n (p := 6) dX11_present_5 rfl rfl ?_
  refine e_iload_n (p := 7) dX11_present_6 rfl rfl ?_
  refine e_callV_int (p := 10) (k' := 1) (a := [.ref 0, .int (nI l)]) (rr := [.int 0, .ref 0]) dX11_present_7 rfl rfl rfl rfl (rc_of rfl rfl (by decide) ⟨rfl, by decide⟩) (Nat.le_of_ble_eq_true rfl) (Nat.le_of_ble_eq_true rfl) (by decide) (Ev.i (nu_ok (a := 0) (b := 30) (n := l) (by omega) (by omega) (by omega)) (x_ofLanding)) (Or.inl rfl) rfl ?_
  refine e_callS_int (p := 13) (k' := 0) (a := [.int 0, .int 0]) (rr := [.ref 0]) dX11_present_10 rfl rfl rfl rfl rfl (rc_st rfl) (Nat.le_of_ble_eq_true rfl) (Nat.le_of_ble_eq_true rfl) (by decide) (Ev.i (show eiS 0 0 = 0 by decide) (x_either)) (Or.inl rfl) rfl ?_
  refine e_callV_int (p := 16) (k' := 0) (a := [.ref 0, .int 0]) (rr := []) dX11_present_13 rfl rfl rfl rfl (rc_of rfl rfl (by decide) ⟨rfl, by decide⟩) (Nat.le_of_ble_eq_true rfl) (Nat.le_of_ble_eq_true rfl) (by decide) (Ev.i (show rfS 0 = 0 by decide) (x_refused)) (Or.inl rfl) rfl ?_
  refine e_if_eq (t := 21) (p := 19) dX11_present_16 (by decide) rfl rfl (fun hc16 => ?_) (fun hc16 => absurd (by decide) hc16)
  refine e_iconst (v := 0) (p := 22) dX11_present_21 (by decide) rfl ?_
  refine e_istore_n (ls1 := [.ref 0, .int (nI l), .int 0, .null]) (p := 23) dX11_present_22 rfl rfl ?_
  refine e_iconst (v := 0) (p := 24) dX11_present_23 (by decide) rfl ?_
  refine e_istore_n (ls1 := [.ref 0, .int (nI l), .int 0, .int 0]) (p := 25) dX11_present_24 rfl rfl ?_
  exact x_present_L ho hF hoF (oC_u hC ho (by decide)) hW (mo_u hm (by decide)) hS _ 0 _ (by omega)
set_option maxRecDepth 10000 in
theorem c_bestLanding_no {I : Nat → Nat → Int32} {J : Nat → Nat → Int64} {F : Nat → Nat → Option Nat} {nc ns : Nat} {o : Nat} {D : oD} {s : Nat → Int32} (ho : isO o) (hF : RFok F) (hoF : F 0 2 = some o) (hC : oC I o D) (hW : WF D) (hm : mo I 42 s) (hS : WFs D s) {v : Int32} (ht : ¬ (ixS v (dN D 2)) = 0) : Ev 5 mX11_bestLanding 0 [.ref 0, .int v, .null, .null, .null, .null] [] ((SH, nc, ns), I, J, F) (some (.int (-1))) ((SH, nc, ns), hp_u I 0 10 (ixS v (dN D 2)), J, F) := by
  have hD := hW.c
  have hH := hW.h
  have hT := hW.t
  have bt := hT.2
  obtain ⟨b0, b1, b2, b3, b4, b5, b6⟩ := hD.2
  refine e_aload_n (p := 1) dX11_bestLanding_0 rfl rfl ?_
  refine e_aload_n (p := 2) dX11_bestLanding_1 rfl rfl ?_
  refine e_iload_n (p := 3) dX11_bestLanding_2 rfl rfl ?_
  refine e_callV_int (p := 6) (k' := 1) (a := [.ref 0, .int v]) (rr := [.ref 0]) dX11_bestLanding_3 rfl rfl rfl rfl (rc_of rfl rfl (by decide) ⟨rfl, by decide⟩) (Nat.le_of_ble_eq_true rfl) (Nat.le_of_ble_eq_true rfl) (by decide) (x_ofWoman ho hF hoF hC hW hm hS) (Or.inl rfl) rfl ?_
  refine e_callV_int (p := 9) (k' := 0) (a := [.ref 0, .int (ixS v (dN D 2))]) (rr := []) dX11_bestLanding_6 rfl rfl rfl rfl (rc_of rfl rfl (by decide) ⟨rfl, by decide⟩) (Nat.le_of_ble_eq_true rfl) (Nat.le_of_ble_eq_true rfl) (by decide) x_refused (Or.inl rfl) rfl ?_
  refine e_if_eq (t := 14) (p := 12) dX11_bestLanding_9 (by decide) rfl rfl (fun hc9 => absurd hc9 (rf_ne ht)) (fun hc9 => ?_)
  refine e_iconst (v := -1) (p := 13) dX11_bestLanding_12 (by decide) rfl ?_
  exact e_iretE dX11_bestLanding_13 rfl rfl (by decide) ⟨rfl, rfl⟩
set_option maxRecDepth 10000 in
theorem c_bestLanding_ok {I : Nat → Nat → Int32} {J : Nat → Nat → Int64} {F : Nat → Nat → Option Nat} {nc ns : Nat} {o : Nat} {D : oD} {s : Nat → Int32} (ho : isO o) (hF : RFok F) (hoF : F 0 2 = some o) (hC : oC I o D) (hW : WF D) (hm : mo I 42 s) (hS : WFs D s) {w : Nat} (hw : w < dN D 2)  : Ev 5 mX11_bestLanding 0 [.ref 0, .int (nI w), .null, .null, .null, .null] [] ((SH, nc, ns), I, J, F) (some (.int ((gN (bestF D w) 0 31 (-2, 0)).1))) ((SH, nc, ns), hp_u I 0 10 0, J, F) := by
  have hD := hW.c
  have hH := hW.h
  have hT := hW.t
  have bt := hT.2
  obtain ⟨b0, b1, b2, b3, b4, b5, b6⟩ := hD.2
  refine e_aload_n (p := 1) dX11_bestLanding_0 rfl rfl ?_
  refine e_aload_n (p := 2) dX11_bestLanding_1 rfl rfl ?_
  refine e_iload_n (p := 3) dX11_bestLanding_2 rfl rfl ?_
  refine e_callV_int (p := 6) (k' := 1) (a := [.ref 0, .int (nI w)]) (rr := [.ref 0]) dX11_bestLanding_3 rfl rfl rfl rfl (rc_of rfl rfl (by decide) ⟨rfl, by decide⟩) (Nat.le_of_ble_eq_true rfl) (Nat.le_of_ble_eq_true rfl) (by decide) (Ev.i (ix_ok (n := dN D 2) (by omega) (by omega)) (x_ofWoman ho hF hoF hC hW hm hS)) (Or.inl rfl) rfl ?_
  refine e_callV_int (p := 9) (k' := 0) (a := [.ref 0, .int 0]) (rr := []) dX11_bestLanding_6 rfl rfl rfl rfl (rc_of rfl rfl (by decide) ⟨rfl, by decide⟩) (Nat.le_of_ble_eq_true rfl) (Nat.le_of_ble_eq_true rfl) (by decide) (Ev.i (show rfS 0 = 0 by decide) (x_refused)) (Or.inl rfl) rfl ?_
  refine e_if_eq (t := 14) (p := 12) dX11_bestLanding_9 (by decide) rfl rfl (fun hc9 => ?_) (fun hc9 => absurd (by decide) hc9)
  refine e_bipush (v := -2) (p := 16) dX11_bestLanding_14 (by decide) rfl ?_
  refine e_istore_n (ls1 := [.ref 0, .int (nI w), .int (-2), .null, .null, .null]) (p := 17) dX11_bestLanding_16 rfl rfl ?_
  refine e_iconst (v := 0) (p := 18) dX11_bestLanding_17 (by decide) rfl ?_
  refine e_istore_n (ls1 := [.ref 0, .int (nI w), .int (-2), .int 0, .null, .null]) (p := 19) dX11_bestLanding_18 rfl rfl ?_
  refine e_iconst (v := 0) (p := 20) dX11_bestLanding_19 (by decide) rfl ?_
  refine e_istore (ls1 := [.ref 0, .int (nI w), .int (-2), .int 0, .int 0, .null]) (p := 22) dX11_bestLanding_20 rfl rfl ?_
  exact x_bestLanding_L ho hF hoF (oC_u hC ho (by decide)) hW (mo_u hm (by decide)) hS hw _ 0 _ _ _ (by omega)
set_option maxRecDepth 10000 in
theorem c_belle_no {I : Nat → Nat → Int32} {J : Nat → Nat → Int64} {F : Nat → Nat → Option Nat} {nc ns : Nat} {o : Nat} {D : oD} {s : Nat → Int32} (ho : isO o) (hF : RFok F) (hoF : F 0 2 = some o) (hC : oC I o D) (hW : WF D) (hm : mo I 42 s) (hS : WFs D s) {v l : Int32} (ht : ¬ (eiS (ixS v (dN D 0)) (nuS l 0 30)) = 0) : Ev 4 mX11_belle 0 [.ref 0, .int v, .int l] [] ((SH, nc, ns), I, J, F) (some (.int (-1))) ((SH, nc, ns), hp_u I 0 10 (eiS (ixS v (dN D 0)) (nuS l 0 30)), J, F) := by
  have hD := hW.c
  have hH := hW.h
  have hT := hW.t
  have bt := hT.2
  obtain ⟨b0, b1, b2, b3, b4, b5, b6⟩ := hD.2
  refine e_aload_n (p := 1) dX11_belle_0 rfl rfl ?_
  refine e_aload_n (p := 2) dX11_belle_1 rfl rfl ?_
  refine e_iload_n (p := 3) dX11_belle_2 rfl rfl ?_
  refine e_callV_int (p := 6) (k' := 1) (a := [.ref 0, .int v]) (rr := [.ref 0]) dX11_belle_3 rfl rfl rfl rfl (rc_of rfl rfl (by decide) ⟨rfl, by decide⟩) (Nat.le_of_ble_eq_true rfl) (Nat.le_of_ble_eq_true rfl) (by decide) (x_ofHarbour ho hF hoF hC hW hm hS) (Or.inl rfl) rfl ?_
  refine e_aload_n (p := 7) dX11_belle_6 rfl rfl ?_
  refine e_iload_n (p := 8) dX11_belle_7 rfl rfl ?_
  refine e_callV_int (p := 11) (k' := 1) (a := [.ref 0, .int l]) (rr := [.int (ixS v (dN D 0)), .ref 0]) dX11_belle_8 rfl rfl rfl rfl (rc_of rfl rfl (by decide) ⟨rfl, by decide⟩) (Nat.le_of_ble_eq_true rfl) (Nat.le_of_ble_eq_true rfl) (by decide) x_ofLanding (Or.inl rfl) rfl ?_
  refine e_callS_int (p := 14) (k' := 0) (a := [.int (ixS v (dN D 0)), .int (nuS l 0 30)]) (rr := [.ref 0]) dX11_belle_11 rfl rfl rfl rfl rfl (rc_st rfl) (Nat.le_of_ble_eq_true rfl) (Nat.le_of_ble_eq_true rfl) (by decide) x_either (Or.inl rfl) rfl ?_
  refine e_callV_int (p := 17) (k' := 0) (a := [.ref 0, .int (eiS (ixS v (dN D 0)) (nuS l 0 30))]) (rr := []) dX11_belle_14 rfl rfl rfl rfl (rc_of rfl rfl (by decide) ⟨rfl, by decide⟩) (Nat.le_of_ble_eq_true rfl) (Nat.le_of_ble_eq_true rfl) (by decide) x_refused (Or.inl rfl) rfl ?_
  refine e_if_eq (t := 22) (p := 20) dX11_belle_17 (by decide) rfl rfl (fun hc17 => absurd hc17 (rf_ne ht)) (fun hc17 => ?_)
  refine e_iconst (v := -1) (p := 21) dX11_belle_20 (by decide) rfl ?_
  exact e_iretE dX11_belle_21 rfl rfl (by decide) ⟨rfl, rfl⟩
set_option maxRecDepth 10000 in
theorem c_belle_ok {I : Nat → Nat → Int32} {J : Nat → Nat → Int64} {F : Nat → Nat → Option Nat} {nc ns : Nat} {o : Nat} {D : oD} {s : Nat → Int32} (ho : isO o) (hF : RFok F) (hoF : F 0 2 = some o) (hC : oC I o D) (hW : WF D) (hm : mo I 42 s) (hS : WFs D s) {h : Nat} (hh : h < dN D 0) {l : Nat} (hl : l ≤ 30)  : Ev 4 mX11_belle 0 [.ref 0, .int (nI h), .int (nI l)] [] ((SH, nc, ns), I, J, F) (some (.int (dearS D (bit h) 0 (nI l)))) ((SH, nc, ns), hp_u I 0 10 0, J, F) := by
  have hD := hW.c
  have hH := hW.h
  have hT := hW.t
  have bt := hT.2
  obtain ⟨b0, b1, b2, b3, b4, b5, b6⟩ := hD.2
  refine e_aload_n (p := 1) dX11_belle_0 rfl rfl ?_
  refine e_aload_n (p := 2) dX11_belle_1 rfl rfl ?_
  refine e_iload_n (p := 3) dX11_belle_2 rfl rfl ?_
  refine e_callV_int (p := 6) (k' := 1) (a := [.ref 0, .int (nI h)]) (rr := [.ref 0]) dX11_belle_3 rfl rfl rfl rfl (rc_of rfl rfl (by decide) ⟨rfl, by decide⟩) (Nat.le_of_ble_eq_true rfl) (Nat.le_of_ble_eq_true rfl) (by decide) (Ev.i (ix_ok (n := dN D 0) (by omega) (by omega)) (x_ofHarbour ho hF hoF hC hW hm hS)) (Or.inl rfl) rfl ?_
  refine e_aload_n (p := 7) dX11_belle_6 rfl rfl ?_
  refine e_iload_n (p := 8) dX11_belle_7 rfl rfl ?_
  refine e_callV_int (p := 11) (k' := 1) (a := [.ref 0, .int (nI l)]) (rr := [.int 0, .ref 0]) dX11_belle_8 rfl rfl rfl rfl (rc_of rfl rfl (by decide) ⟨rfl, by decide⟩) (Nat.le_of_ble_eq_true rfl) (Nat.le_of_ble_eq_true rfl) (by decide) (Ev.i (nu_ok (a := 0) (b := 30) (n := l) (by omega) (by omega) (by omega)) (x_ofLanding)) (Or.inl rfl) rfl ?_
  refine e_callS_int (p := 14) (k' := 0) (a := [.int 0, .int 0]) (rr := [.ref 0]) dX11_belle_11 rfl rfl rfl rfl rfl (rc_st rfl) (Nat.le_of_ble_eq_true rfl) (Nat.le_of_ble_eq_true rfl) (by decide) (Ev.i (show eiS 0 0 = 0 by decide) (x_either)) (Or.inl rfl) rfl ?_
  refine e_callV_int (p := 17) (k' := 0) (a := [.ref 0, .int 0]) (rr := []) dX11_belle_14 rfl rfl rfl rfl (rc_of rfl rfl (by decide) ⟨rfl, by decide⟩) (Nat.le_of_ble_eq_true rfl) (Nat.le_of_ble_eq_true rfl) (by decide) (Ev.i (show rfS 0 = 0 by decide) (x_refused)) (Or.inl rfl) rfl ?_
  refine e_if_eq (t := 22) (p := 20) dX11_belle_17 (by decide) rfl rfl (fun hc17 => ?_) (fun hc17 => absurd (by decide) hc17)
  refine e_aload_n (p := 23) dX11_belle_22 rfl rfl ?_
  refine e_getR (c := 10) (j := 2) (n := 13) (b := o) (p := 26) dX11_belle_23 rfl rfl (by decide) (by decide) rfl hoF rfl ?_
  refine e_iconst (v := 1) (p := 27) dX11_belle_26 (by decide) rfl ?_
  refine e_iload_n (p := 28) dX11_belle_27 rfl rfl ?_
  refine e_ishl (p := 29) dX11_belle_28 rfl ?_
  refine e_iconst (v := 0) (p := 30) dX11_belle_29 (by decide) rfl ?_
  refine e_iload_n (p := 31) dX11_belle_30 rfl rfl ?_
  refine e_callV_int (p := 34) (k' := 3) (a := [.ref o, .int (1 <<< ((nI h) &&& 31)), .int 0, .int (nI l)]) (rr := []) dX11_belle_31 rfl rfl rfl rfl (rc_of rfl (s_o ho) (l_o0 ho) ⟨rfl, by decide⟩) (Nat.le_of_ble_eq_true rfl) (Nat.le_of_ble_eq_true rfl) (by decide) (x_dearest ho hF (oC_u hC ho (by decide)) hW.c hW.h) (Or.inl rfl) rfl ?_
  exact e_iretE dX11_belle_34 rfl rfl (by decide) ⟨rfl, rfl⟩
set_option maxRecDepth 10000 in
theorem c_sevens_no {I : Nat → Nat → Int32} {J : Nat → Nat → Int64} {F : Nat → Nat → Option Nat} {nc ns : Nat} {o : Nat} {D : oD} {s : Nat → Int32} (ho : isO o) (hF : RFok F) (hoF : F 0 2 = some o) (hC : oC I o D) (hW : WF D) (hm : mo I 42 s) (hS : WFs D s) {v u : Int32} (ht : ¬ (eiS (ixS v (dN D 0)) (ixS u (dN D 0))) = 0) : Ev 3 mX11_sevens 0 [.ref 0, .int v, .int u] [] ((SH, nc, ns), I, J, F) (some (.int (-1))) ((SH, nc, ns), hp_u I 0 10 (eiS (ixS v (dN D 0)) (ixS u (dN D 0))), J, F) := by
  have hD := hW.c
  have hH := hW.h
  have hT := hW.t
  have bt := hT.2
  obtain ⟨b0, b1, b2, b3, b4, b5, b6⟩ := hD.2
  refine e_aload_n (p := 1) dX11_sevens_0 rfl rfl ?_
  refine e_aload_n (p := 2) dX11_sevens_1 rfl rfl ?_
  refine e_iload_n (p := 3) dX11_sevens_2 rfl rfl ?_
  refine e_callV_int (p := 6) (k' := 1) (a := [.ref 0, .int v]) (rr := [.ref 0]) dX11_sevens_3 rfl rfl rfl rfl (rc_of rfl rfl (by decide) ⟨rfl, by decide⟩) (Nat.le_of_ble_eq_true rfl) (Nat.le_of_ble_eq_true rfl) (by decide) (x_ofHarbour ho hF hoF hC hW hm hS) (Or.inl rfl) rfl ?_
  refine e_aload_n (p := 7) dX11_sevens_6 rfl rfl ?_
  refine e_iload_n (p := 8) dX11_sevens_7 rfl rfl ?_
  refine e_callV_int (p := 11) (k' := 1) (a := [.ref 0, .int u]) (rr := [.int (ixS v (dN D 0)), .ref 0]) dX11_sevens_8 rfl rfl rfl rfl (rc_of rfl rfl (by decide) ⟨rfl, by decide⟩) (Nat.le_of_ble_eq_true rfl) (Nat.le_of_ble_eq_true rfl) (by decide) (x_ofHarbour ho hF hoF hC hW hm hS) (Or.inl rfl) rfl ?_
  refine e_callS_int (p := 14) (k' := 0) (a := [.int (ixS v (dN D 0)), .int (ixS u (dN D 0))]) (rr := [.ref 0]) dX11_sevens_11 rfl rfl rfl rfl rfl (rc_st rfl) (Nat.le_of_ble_eq_true rfl) (Nat.le_of_ble_eq_true rfl) (by decide) x_either (Or.inl rfl) rfl ?_
  refine e_callV_int (p := 17) (k' := 0) (a := [.ref 0, .int (eiS (ixS v (dN D 0)) (ixS u (dN D 0)))]) (rr := []) dX11_sevens_14 rfl rfl rfl rfl (rc_of rfl rfl (by decide) ⟨rfl, by decide⟩) (Nat.le_of_ble_eq_true rfl) (Nat.le_of_ble_eq_true rfl) (by decide) x_refused (Or.inl rfl) rfl ?_
  refine e_if_eq (t := 22) (p := 20) dX11_sevens_17 (by decide) rfl rfl (fun hc17 => absurd hc17 (rf_ne ht)) (fun hc17 => ?_)
  refine e_iconst (v := -1) (p := 21) dX11_sevens_20 (by decide) rfl ?_
  exact e_iretE dX11_sevens_21 rfl rfl (by decide) ⟨rfl, rfl⟩
set_option maxRecDepth 10000 in
theorem c_sevens_ok {I : Nat → Nat → Int32} {J : Nat → Nat → Int64} {F : Nat → Nat → Option Nat} {nc ns : Nat} {o : Nat} {D : oD} {s : Nat → Int32} (ho : isO o) (hF : RFok F) (hoF : F 0 2 = some o) (hC : oC I o D) (hW : WF D) (hm : mo I 42 s) (hS : WFs D s) {h : Nat} (hh : h < dN D 0) {g : Nat} (hg : g < dN D 0)  : Ev 3 mX11_sevens 0 [.ref 0, .int (nI h), .int (nI g)] [] ((SH, nc, ns), I, J, F) (some (.int (apartS D h (nI g)))) ((SH, nc, ns), hp_u I 0 10 0, J, F) := by
  have hD := hW.c
  have hH := hW.h
  have hT := hW.t
  have bt := hT.2
  obtain ⟨b0, b1, b2, b3, b4, b5, b6⟩ := hD.2
  refine e_aload_n (p := 1) dX11_sevens_0 rfl rfl ?_
  refine e_aload_n (p := 2) dX11_sevens_1 rfl rfl ?_
  refine e_iload_n (p := 3) dX11_sevens_2 rfl rfl ?_
  refine e_callV_int (p := 6) (k' := 1) (a := [.ref 0, .int (nI h)]) (rr := [.ref 0]) dX11_sevens_3 rfl rfl rfl rfl (rc_of rfl rfl (by decide) ⟨rfl, by decide⟩) (Nat.le_of_ble_eq_true rfl) (Nat.le_of_ble_eq_true rfl) (by decide) (Ev.i (ix_ok (n := dN D 0) (by omega) (by omega)) (x_ofHarbour ho hF hoF hC hW hm hS)) (Or.inl rfl) rfl ?_
  refine e_aload_n (p := 7) dX11_sevens_6 rfl rfl ?_
  refine e_iload_n (p := 8) dX11_sevens_7 rfl rfl ?_
  refine e_callV_int (p := 11) (k' := 1) (a := [.ref 0, .int (nI g)]) (rr := [.int 0, .ref 0]) dX11_sevens_8 rfl rfl rfl rfl (rc_of rfl rfl (by decide) ⟨rfl, by decide⟩) (Nat.le_of_ble_eq_true rfl) (Nat.le_of_ble_eq_true rfl) (by decide) (Ev.i (ix_ok (n := dN D 0) (by omega) (by omega)) (x_ofHarbour ho hF hoF hC hW hm hS)) (Or.inl rfl) rfl ?_
  refine e_callS_int (p := 14) (k' := 0) (a := [.int 0, .int 0]) (rr := [.ref 0]) dX11_sevens_11 rfl rfl rfl rfl rfl (rc_st rfl) (Nat.le_of_ble_eq_true rfl) (Nat.le_of_ble_eq_true rfl) (by decide) (Ev.i (show eiS 0 0 = 0 by decide) (x_either)) (Or.inl rfl) rfl ?_
  refine e_callV_int (p := 17) (k' := 0) (a := [.ref 0, .int 0]) (rr := []) dX11_sevens_14 rfl rfl rfl rfl (rc_of rfl rfl (by decide) ⟨rfl, by decide⟩) (Nat.le_of_ble_eq_true rfl) (Nat.le_of_ble_eq_true rfl) (by decide) (Ev.i (show rfS 0 = 0 by decide) (x_refused)) (Or.inl rfl) rfl ?_
  refine e_if_eq (t := 22) (p := 20) dX11_sevens_17 (by decide) rfl rfl (fun hc17 => ?_) (fun hc17 => absurd (by decide) hc17)
  refine e_aload_n (p := 23) dX11_sevens_22 rfl rfl ?_
  refine e_getR (c := 10) (j := 2) (n := 13) (b := o) (p := 26) dX11_sevens_23 rfl rfl (by decide) (by decide) rfl hoF rfl ?_
  refine e_iload_n (p := 27) dX11_sevens_26 rfl rfl ?_
  refine e_iload_n (p := 28) dX11_sevens_27 rfl rfl ?_
  refine e_callV_int (p := 31) (k' := 2) (a := [.ref o, .int (nI h), .int (nI g)]) (rr := []) dX11_sevens_28 rfl rfl rfl rfl (rc_of rfl (s_o ho) (l_o0 ho) ⟨rfl, by decide⟩) (Nat.le_of_ble_eq_true rfl) (Nat.le_of_ble_eq_true rfl) (by decide) (x_apart ho hF (oC_u hC ho (by decide)) hW.c rfl) (Or.inl rfl) rfl ?_
  exact e_iretE dX11_sevens_31 rfl rfl (by decide) ⟨rfl, rfl⟩
set_option maxRecDepth 10000 in
theorem c_byYears_no {I : Nat → Nat → Int32} {J : Nat → Nat → Int64} {F : Nat → Nat → Option Nat} {nc ns : Nat} {o : Nat} {D : oD} {s : Nat → Int32} (ho : isO o) (hF : RFok F) (hoF : F 0 2 = some o) (hC : oC I o D) (hW : WF D) (hm : mo I 42 s) (hS : WFs D s) {v l y : Int32} (ht : ¬ (eiS (ixS v (dN D 2)) (eiS (nuS l 0 30) (nuS y 5 9))) = 0) : Ev 3 mX11_byYears 0 [.ref 0, .int v, .int l, .int y] [] ((SH, nc, ns), I, J, F) (some (.int (-1))) ((SH, nc, ns), hp_u I 0 10 (eiS (ixS v (dN D 2)) (eiS (nuS l 0 30) (nuS y 5 9))), J, F) := by
  have hD := hW.c
  have hH := hW.h
  have hT := hW.t
  have bt := hT.2
  obtain ⟨b0, b1, b2, b3, b4, b5, b6⟩ := hD.2
  refine e_aload_n (p := 1) dX11_byYears_0 rfl rfl ?_
  refine e_aload_n (p := 2) dX11_byYears_1 rfl rfl ?_
  refine e_iload_n (p := 3) dX11_byYears_2 rfl rfl ?_
  refine e_callV_int (p := 6) (k' := 1) (a := [.ref 0, .int v]) (rr := [.ref 0]) dX11_byYears_3 rfl rfl rfl rfl (rc_of rfl rfl (by decide) ⟨rfl, by decide⟩) (Nat.le_of_ble_eq_true rfl) (Nat.le_of_ble_eq_true rfl) (by decide) (x_ofWoman ho hF hoF hC hW hm hS) (Or.inl rfl) rfl ?_
  refine e_aload_n (p := 7) dX11_byYears_6 rfl rfl ?_
  refine e_iload_n (p := 8) dX11_byYears_7 rfl rfl ?_
  refine e_callV_int (p := 11) (k' := 1) (a := [.ref 0, .int l]) (rr := [.int (ixS v (dN D 2)), .ref 0]) dX11_byYears_8 rfl rfl rfl rfl (rc_of rfl rfl (by decide) ⟨rfl, by decide⟩) (Nat.le_of_ble_eq_true rfl) (Nat.le_of_ble_eq_true rfl) (by decide) x_ofLanding (Or.inl rfl) rfl ?_
  refine e_iload_n (p := 12) dX11_byYears_11 rfl rfl ?_
  refine e_iconst (v := 5) (p := 13) dX11_byYears_12 (by decide) rfl ?_
  refine e_bipush (v := 9) (p := 15) dX11_byYears_13 (by decide) rfl ?_
  refine e_callS_int (p := 18) (k' := 0) (a := [.int y, .int 5, .int 9]) (rr := [.int (nuS l 0 30), .int (ixS v (dN D 2)), .ref 0]) dX11_byYears_15 rfl rfl rfl rfl rfl (rc_st rfl) (Nat.le_of_ble_eq_true rfl) (Nat.le_of_ble_eq_true rfl) (by decide) x_ofNumber (Or.inl rfl) rfl ?_
  refine e_callS_int (p := 21) (k' := 0) (a := [.int (nuS l 0 30), .int (nuS y 5 9)]) (rr := [.int (ixS v (dN D 2)), .ref 0]) dX11_byYears_18 rfl rfl rfl rfl rfl (rc_st rfl) (Nat.le_of_ble_eq_true rfl) (Nat.le_of_ble_eq_true rfl) (by decide) x_either (Or.inl rfl) rfl ?_
  refine e_callS_int (p := 24) (k' := 0) (a := [.int (ixS v (dN D 2)), .int (eiS (nuS l 0 30) (nuS y 5 9))]) (rr := [.ref 0]) dX11_byYears_21 rfl rfl rfl rfl rfl (rc_st rfl) (Nat.le_of_ble_eq_true rfl) (Nat.le_of_ble_eq_true rfl) (by decide) x_either (Or.inl rfl) rfl ?_
  refine e_callV_int (p := 27) (k' := 0) (a := [.ref 0, .int (eiS (ixS v (dN D 2)) (eiS (nuS l 0 30) (nuS y 5 9)))]) (rr := []) dX11_byYears_24 rfl rfl rfl rfl (rc_of rfl rfl (by decide) ⟨rfl, by decide⟩) (Nat.le_of_ble_eq_true rfl) (Nat.le_of_ble_eq_true rfl) (by decide) x_refused (Or.inl rfl) rfl ?_
  refine e_if_eq (t := 32) (p := 30) dX11_byYears_27 (by decide) rfl rfl (fun hc27 => absurd hc27 (rf_ne ht)) (fun hc27 => ?_)
  refine e_iconst (v := -1) (p := 31) dX11_byYears_30 (by decide) rfl ?_
  exact e_iretE dX11_byYears_31 rfl rfl (by decide) ⟨rfl, rfl⟩
set_option maxRecDepth 10000 in
theorem c_byYears_ok {I : Nat → Nat → Int32} {J : Nat → Nat → Int64} {F : Nat → Nat → Option Nat} {nc ns : Nat} {o : Nat} {D : oD} {s : Nat → Int32} (ho : isO o) (hF : RFok F) (hoF : F 0 2 = some o) (hC : oC I o D) (hW : WF D) (hm : mo I 42 s) (hS : WFs D s) {w : Nat} (hw : w < dN D 2) {l : Nat} (hl : l ≤ 30) {y : Nat} (hy : 5 ≤ y) (hy9 : y ≤ 9)  : Ev 3 mX11_byYears 0 [.ref 0, .int (nI w), .int (nI l), .int (nI y)] [] ((SH, nc, ns), I, J, F) (some (.int (loveS D w (nI l * nI y)))) ((SH, nc, ns), hp_u I 0 10 0, J, F) := by
  have hD := hW.c
  have hH := hW.h
  have hT := hW.t
  have bt := hT.2
  obtain ⟨b0, b1, b2, b3, b4, b5, b6⟩ := hD.2
  refine e_aload_n (p := 1) dX11_byYears_0 rfl rfl ?_
  refine e_aload_n (p := 2) dX11_byYears_1 rfl rfl ?_
  refine e_iload_n (p := 3) dX11_byYears_2 rfl rfl ?_
  refine e_callV_int (p := 6) (k' := 1) (a := [.ref 0, .int (nI w)]) (rr := [.ref 0]) dX11_byYears_3 rfl rfl rfl rfl (rc_of rfl rfl (by decide) ⟨rfl, by decide⟩) (Nat.le_of_ble_eq_true rfl) (Nat.le_of_ble_eq_true rfl) (by decide) (Ev.i (ix_ok (n := dN D 2) (by omega) (by omega)) (x_ofWoman ho hF hoF hC hW hm hS)) (Or.inl rfl) rfl ?_
  refine e_aload_n (p := 7) dX11_byYears_6 rfl rfl ?_
  refine e_iload_n (p := 8) dX11_byYears_7 rfl rfl ?_
  refine e_callV_int (p := 11) (k' := 1) (a := [.ref 0, .int (nI l)]) (rr := [.int 0, .ref 0]) dX11_byYears_8 rfl rfl rfl rfl (rc_of rfl rfl (by decide) ⟨rfl, by decide⟩) (Nat.le_of_ble_eq_true rfl) (Nat.le_of_ble_eq_true rfl) (by decide) (Ev.i (nu_ok (a := 0) (b := 30) (n := l) (by omega) (by omega) (by omega)) (x_ofLanding)) (Or.inl rfl) rfl ?_
  refine e_iload_n (p := 12) dX11_byYears_11 rfl rfl ?_
  refine e_iconst (v := 5) (p := 13) dX11_byYears_12 (by decide) rfl ?_
  refine e_bipush (v := 9) (p := 15) dX11_byYears_13 (by decide) rfl ?_
  refine e_callS_int (p := 18) (k' := 0) (a := [.int (nI y), .int 5, .int 9]) (rr := [.int 0, .int 0, .ref 0]) dX11_byYears_15 rfl rfl rfl rfl rfl (rc_st rfl) (Nat.le_of_ble_eq_true rfl) (Nat.le_of_ble_eq_true rfl) (by decide) (Ev.i (nu_ok (a := 5) (b := 9) (n := y) (by omega) (by omega) (by omega)) (x_ofNumber)) (Or.inl rfl) rfl ?_
  refine e_callS_int (p := 21) (k' := 0) (a := [.int 0, .int 0]) (rr := [.int 0, .ref 0]) dX11_byYears_18 rfl rfl rfl rfl rfl (rc_st rfl) (Nat.le_of_ble_eq_true rfl) (Nat.le_of_ble_eq_true rfl) (by decide) (Ev.i (show eiS 0 0 = 0 by decide) (x_either)) (Or.inl rfl) rfl ?_
  refine e_callS_int (p := 24) (k' := 0) (a := [.int 0, .int 0]) (rr := [.ref 0]) dX11_byYears_21 rfl rfl rfl rfl rfl (rc_st rfl) (Nat.le_of_ble_eq_true rfl) (Nat.le_of_ble_eq_true rfl) (by decide) (Ev.i (show eiS 0 0 = 0 by decide) (x_either)) (Or.inl rfl) rfl ?_
  refine e_callV_int (p := 27) (k' := 0) (a := [.ref 0, .int 0]) (rr := []) dX11_byYears_24 rfl rfl rfl rfl (rc_of rfl rfl (by decide) ⟨rfl, by decide⟩) (Nat.le_of_ble_eq_true rfl) (Nat.le_of_ble_eq_true rfl) (by decide) (Ev.i (show rfS 0 = 0 by decide) (x_refused)) (Or.inl rfl) rfl ?_
  refine e_if_eq (t := 32) (p := 30) dX11_byYears_27 (by decide) rfl rfl (fun hc27 => ?_) (fun hc27 => absurd (by decide) hc27)
  refine e_aload_n (p := 33) dX11_byYears_32 rfl rfl ?_
  refine e_getR (c := 10) (j := 2) (n := 13) (b := o) (p := 36) dX11_byYears_33 rfl rfl (by decide) (by decide) rfl hoF rfl ?_
  refine e_iload_n (p := 37) dX11_byYears_36 rfl rfl ?_
  refine e_iload_n (p := 38) dX11_byYears_37 rfl rfl ?_
  refine e_iload_n (p := 39) dX11_byYears_38 rfl rfl ?_
  refine e_imul (p := 40) dX11_byYears_39 rfl ?_
  refine e_callV_int (p := 43) (k' := 2) (a := [.ref o, .int (nI w), .int ((nI l) * (nI y))]) (rr := []) dX11_byYears_40 rfl rfl rfl rfl (rc_of rfl (s_o ho) (l_o0 ho) ⟨rfl, by decide⟩) (Nat.le_of_ble_eq_true rfl) (Nat.le_of_ble_eq_true rfl) (by decide) (x_loveIn ho hF (oC_u hC ho (by decide)) hW.c hW.h (by omega)) (Or.inl rfl) rfl ?_
  exact e_iretE dX11_byYears_43 rfl rfl (by decide) ⟨rfl, rfl⟩
set_option maxRecDepth 10000 in
theorem c_bestYears_no {I : Nat → Nat → Int32} {J : Nat → Nat → Int64} {F : Nat → Nat → Option Nat} {nc ns : Nat} {o : Nat} {D : oD} {s : Nat → Int32} (ho : isO o) (hF : RFok F) (hoF : F 0 2 = some o) (hC : oC I o D) (hW : WF D) (hm : mo I 42 s) (hS : WFs D s) {l : Int32} (ht : ¬ (eiS (toS D) (nuS l 0 30)) = 0) : Ev 4 mX11_bestYears 0 [.ref 0, .int l, .null, .null, .null, .null] [] ((SH, nc, ns), I, J, F) (some (.int (-1))) ((SH, nc, ns), hp_u I 0 10 (eiS (toS D) (nuS l 0 30)), J, F) := by
  have hD := hW.c
  have hH := hW.h
  have hT := hW.t
  have bt := hT.2
  obtain ⟨b0, b1, b2, b3, b4, b5, b6⟩ := hD.2
  refine e_aload_n (p := 1) dX11_bestYears_0 rfl rfl ?_
  refine e_aload_n (p := 2) dX11_bestYears_1 rfl rfl ?_
  refine e_callV_int (p := 5) (k' := 1) (a := [.ref 0]) (rr := [.ref 0]) dX11_bestYears_2 rfl rfl rfl rfl (rc_of rfl rfl (by decide) ⟨rfl, by decide⟩) (Nat.le_of_ble_eq_true rfl) (Nat.le_of_ble_eq_true rfl) (by decide) (x_ofOath ho hF hoF hC hW hm hS) (Or.inl rfl) rfl ?_
  refine e_aload_n (p := 6) dX11_bestYears_5 rfl rfl ?_
  refine e_iload_n (p := 7) dX11_bestYears_6 rfl rfl ?_
  refine e_callV_int (p := 10) (k' := 1) (a := [.ref 0, .int l]) (rr := [.int (toS D), .ref 0]) dX11_bestYears_7 rfl rfl rfl rfl (rc_of rfl rfl (by decide) ⟨rfl, by decide⟩) (Nat.le_of_ble_eq_true rfl) (Nat.le_of_ble_eq_true rfl) (by decide) x_ofLanding (Or.inl rfl) rfl ?_
  refine e_callS_int (p := 13) (k' := 0) (a := [.int (toS D), .int (nuS l 0 30)]) (rr := [.ref 0]) dX11_bestYears_10 rfl rfl rfl rfl rfl (rc_st rfl) (Nat.le_of_ble_eq_true rfl) (Nat.le_of_ble_eq_true rfl) (by decide) x_either (Or.inl rfl) rfl ?_
  refine e_callV_int (p := 16) (k' := 0) (a := [.ref 0, .int (eiS (toS D) (nuS l 0 30))]) (rr := []) dX11_bestYears_13 rfl rfl rfl rfl (rc_of rfl rfl (by decide) ⟨rfl, by decide⟩) (Nat.le_of_ble_eq_true rfl) (Nat.le_of_ble_eq_true rfl) (by decide) x_refused (Or.inl rfl) rfl ?_
  refine e_if_eq (t := 21) (p := 19) dX11_bestYears_16 (by decide) rfl rfl (fun hc16 => absurd hc16 (rf_ne ht)) (fun hc16 => ?_)
  refine e_iconst (v := -1) (p := 20) dX11_bestYears_19 (by decide) rfl ?_
  exact e_iretE dX11_bestYears_20 rfl rfl (by decide) ⟨rfl, rfl⟩
set_option maxRecDepth 10000 in
theorem c_bestYears_ok {I : Nat → Nat → Int32} {J : Nat → Nat → Int64} {F : Nat → Nat → Option Nat} {nc ns : Nat} {o : Nat} {D : oD} {s : Nat → Int32} (ho : isO o) (hF : RFok F) (hoF : F 0 2 = some o) (hC : oC I o D) (hW : WF D) (hm : mo I 42 s) (hS : WFs D s) (ht1 : tol D = 1) {l : Nat} (hl : l ≤ 30)  : Ev 4 mX11_bestYears 0 [.ref 0, .int (nI l), .null, .null, .null, .null] [] ((SH, nc, ns), I, J, F) (some (.int ((gN (byC D (nI l)) 5 5 (5, -1)).1))) ((SH, nc, ns), hp_u I 0 10 0, J, F) := by
  have hD := hW.c
  have hH := hW.h
  have hT := hW.t
  have bt := hT.2
  obtain ⟨b0, b1, b2, b3, b4, b5, b6⟩ := hD.2
  refine e_aload_n (p := 1) dX11_bestYears_0 rfl rfl ?_
  refine e_aload_n (p := 2) dX11_bestYears_1 rfl rfl ?_
  refine e_callV_int (p := 5) (k' := 1) (a := [.ref 0]) (rr := [.ref 0]) dX11_bestYears_2 rfl rfl rfl rfl (rc_of rfl rfl (by decide) ⟨rfl, by decide⟩) (Nat.le_of_ble_eq_true rfl) (Nat.le_of_ble_eq_true rfl) (by decide) (Ev.i (to_1 ht1) (x_ofOath ho hF hoF hC hW hm hS)) (Or.inl rfl) rfl ?_
  refine e_aload_n (p := 6) dX11_bestYears_5 rfl rfl ?_
  refine e_iload_n (p := 7) dX11_bestYears_6 rfl rfl ?_
  refine e_callV_int (p := 10) (k' := 1) (a := [.ref 0, .int (nI l)]) (rr := [.int 0, .ref 0]) dX11_bestYears_7 rfl rfl rfl rfl (rc_of rfl rfl (by decide) ⟨rfl, by decide⟩) (Nat.le_of_ble_eq_true rfl) (Nat.le_of_ble_eq_true rfl) (by decide) (Ev.i (nu_ok (a := 0) (b := 30) (n := l) (by omega) (by omega) (by omega)) (x_ofLanding)) (Or.inl rfl) rfl ?_
  refine e_callS_int (p := 13) (k' := 0) (a := [.int 0, .int 0]) (rr := [.ref 0]) dX11_bestYears_10 rfl rfl rfl rfl rfl (rc_st rfl) (Nat.le_of_ble_eq_true rfl) (Nat.le_of_ble_eq_true rfl) (by decide) (Ev.i (show eiS 0 0 = 0 by decide) (x_either)) (Or.inl rfl) rfl ?_
  refine e_callV_int (p := 16) (k' := 0) (a := [.ref 0, .int 0]) (rr := []) dX11_bestYears_13 rfl rfl rfl rfl (rc_of rfl rfl (by decide) ⟨rfl, by decide⟩) (Nat.le_of_ble_eq_true rfl) (Nat.le_of_ble_eq_true rfl) (by decide) (Ev.i (show rfS 0 = 0 by decide) (x_refused)) (Or.inl rfl) rfl ?_
  refine e_if_eq (t := 21) (p := 19) dX11_bestYears_16 (by decide) rfl rfl (fun hc16 => ?_) (fun hc16 => absurd (by decide) hc16)
  refine e_iconst (v := 5) (p := 22) dX11_bestYears_21 (by decide) rfl ?_
  refine e_istore_n (ls1 := [.ref 0, .int (nI l), .int 5, .null, .null, .null]) (p := 23) dX11_bestYears_22 rfl rfl ?_
  refine e_iconst (v := -1) (p := 24) dX11_bestYears_23 (by decide) rfl ?_
  refine e_istore_n (ls1 := [.ref 0, .int (nI l), .int 5, .int (-1), .null, .null]) (p := 25) dX11_bestYears_24 rfl rfl ?_
  refine e_iconst (v := 5) (p := 26) dX11_bestYears_25 (by decide) rfl ?_
  refine e_istore (ls1 := [.ref 0, .int (nI l), .int 5, .int (-1), .int 5, .null]) (p := 28) dX11_bestYears_26 rfl rfl ?_
  exact x_bestYears_L ho hF hoF (oC_u hC ho (by decide)) hW (mo_u hm (by decide)) hS _ 5 _ _ _ (by omega)
theorem fB0 {s : Nat → Int32} (h : freeB s = 0) : s 2 ≤ 0 := by
  unfold freeB at h
  by_cases c : s 2 ≤ 0
  · exact c
  · rw [if_neg c] at h
    exact absurd h (by decide)
theorem fB1 {s : Nat → Int32} (h : ¬ freeB s = 0) : ¬ s 2 ≤ 0 := fun z => h (if_pos z)
set_option maxRecDepth 10000 in
theorem x_soonestIn {I : Nat → Nat → Int32} {J : Nat → Nat → Int64} {F : Nat → Nat → Option Nat} {nc ns : Nat} {o : Nat} {D : oD} {s : Nat → Int32} (ho : isO o) (hF : RFok F) (hoF : F 0 2 = some o) (hC : oC I o D) (hW : WF D) (hm : mo I 42 s) (hS : WFs D s) {h : Int32} (h0 : 0 < dN D 0) : Ev 3 mX11_soonestIn 0 [.ref 0, .int h, .null] [] ((SH, nc, ns), I, J, F) (some (.int (soonS D s h))) ((SH, nc, ns), I, J, F) := by
  have hD := hW.c
  have hH := hW.h
  have hT := hW.t
  have bt := hT.2
  obtain ⟨b0, b1, b2, b3, b4, b5, b6⟩ := hD.2
  have hat := hS.at_ h0
  refine e_aload_n (p := 1) dX11_soonestIn_0 rfl rfl ?_
  refine e_getR (c := 10) (j := 2) (n := 13) (b := o) (p := 4) dX11_soonestIn_1 rfl rfl (by decide) (by decide) rfl hoF rfl ?_
  refine e_aload_n (p := 5) dX11_soonestIn_4 rfl rfl ?_
  refine e_getR (c := 10) (j := 3) (n := 13) (b := 42) (p := 8) dX11_soonestIn_5 rfl rfl (by decide) (by decide) rfl (r_0_3 hF) rfl ?_
  refine f_getI (c := 3) (j := 1) (n := 6) (v := s 1) (p := 11) dX11_soonestIn_8 rfl rfl (by decide) (by decide) (Or.inl rfl) hm.2.1 rfl ?_
  refine e_iload_n (p := 12) dX11_soonestIn_11 rfl rfl ?_
  refine e_callV_int (p := 15) (k' := 2) (a := [.ref o, .int (s 1), .int h]) (rr := []) dX11_soonestIn_12 rfl rfl rfl rfl (rc_of rfl (s_o ho) (l_o0 ho) ⟨rfl, by decide⟩) (Nat.le_of_ble_eq_true rfl) (Nat.le_of_ble_eq_true rfl) (by decide) (x_apart ho hF hC hW.c hat.1) (Or.inl rfl) rfl ?_
  refine e_istore_n (ls1 := [.ref 0, .int h, .int (apartS D (s 1).toNatClampNeg h)]) (p := 16) dX11_soonestIn_15 rfl rfl ?_
  refine e_aload_n (p := 17) dX11_soonestIn_16 rfl rfl ?_
  refine e_getR (c := 10) (j := 3) (n := 13) (b := 42) (p := 20) dX11_soonestIn_17 rfl rfl (by decide) (by decide) rfl (r_0_3 hF) rfl ?_
  refine e_callV_int (p := 23) (k' := 0) (a := [.ref 42]) (rr := []) dX11_soonestIn_20 rfl rfl rfl rfl (rc_of rfl rfl (by decide) ⟨rfl, by decide⟩) (Nat.le_of_ble_eq_true rfl) (Nat.le_of_ble_eq_true rfl) (by decide) (x_isFreed (t := 42) ⟨rfl, by decide⟩ hm hW hS) (Or.inl rfl) rfl ?_
  refine e_if_ne (t := 32) (p := 26) dX11_soonestIn_23 (by decide) rfl rfl (fun hc23 => ?_) (fun hc23 => ?_)
  · skip
    refine e_bipush (v := -2) (p := 34) dX11_soonestIn_32 (by decide) rfl ?_
    exact e_iretE dX11_soonestIn_34 rfl rfl (by decide) ⟨by simp only [soonS, (fB1 hc23), ↓reduceIte], rfl⟩
  · skip
    refine e_iload_n (p := 27) dX11_soonestIn_26 rfl rfl ?_
    refine e_bipush (v := -2) (p := 29) dX11_soonestIn_27 (by decide) rfl ?_
    refine e_icmp_ne (t := 35) (p := 32) dX11_soonestIn_29 (by decide) rfl rfl (fun hc29 => ?_) (fun hc29 => ?_)
    · skip
      refine e_aload_n (p := 36) dX11_soonestIn_35 rfl rfl ?_
      refine e_getR (c := 10) (j := 3) (n := 13) (b := 42) (p := 39) dX11_soonestIn_36 rfl rfl (by decide) (by decide) rfl (r_0_3 hF) rfl ?_
      refine f_getI (c := 3) (j := 0) (n := 6) (v := s 0) (p := 42) dX11_soonestIn_39 rfl rfl (by decide) (by decide) (Or.inl rfl) hm.1 rfl ?_
      refine e_iconst (v := 1) (p := 43) dX11_soonestIn_42 (by decide) rfl ?_
      refine e_iload_n (p := 44) dX11_soonestIn_43 rfl rfl ?_
      refine e_max (p := 47) dX11_soonestIn_44 rfl (Nat.le_of_ble_eq_true rfl) rfl ?_
      refine e_iadd (p := 48) dX11_soonestIn_47 rfl ?_
      exact e_iretE dX11_soonestIn_48 rfl rfl (by decide) ⟨by simp only [soonS, (fB0 hc23), hc29, ↓reduceIte], rfl⟩
    · skip
      refine e_bipush (v := -2) (p := 34) dX11_soonestIn_32 (by decide) rfl ?_
      exact e_iretE dX11_soonestIn_34 rfl rfl (by decide) ⟨by simp only [soonS, (fB0 hc23), hc29, ↓reduceIte], rfl⟩
set_option maxRecDepth 10000 in
theorem c_soonest_no {I : Nat → Nat → Int32} {J : Nat → Nat → Int64} {F : Nat → Nat → Option Nat} {nc ns : Nat} {o : Nat} {D : oD} {s : Nat → Int32} (ho : isO o) (hF : RFok F) (hoF : F 0 2 = some o) (hC : oC I o D) (hW : WF D) (hm : mo I 42 s) (hS : WFs D s) {v : Int32} (ht : ¬ (ixS v (dN D 0)) = 0) : Ev 4 mX11_soonest 0 [.ref 0, .int v] [] ((SH, nc, ns), I, J, F) (some (.int (-1))) ((SH, nc, ns), hp_u I 0 10 (ixS v (dN D 0)), J, F) := by
  have hD := hW.c
  have hH := hW.h
  have hT := hW.t
  have bt := hT.2
  obtain ⟨b0, b1, b2, b3, b4, b5, b6⟩ := hD.2
  refine e_aload_n (p := 1) dX11_soonest_0 rfl rfl ?_
  refine e_aload_n (p := 2) dX11_soonest_1 rfl rfl ?_
  refine e_iload_n (p := 3) dX11_soonest_2 rfl rfl ?_
  refine e_callV_int (p := 6) (k' := 1) (a := [.ref 0, .int v]) (rr := [.ref 0]) dX11_soonest_3 rfl rfl rfl rfl (rc_of rfl rfl (by decide) ⟨rfl, by decide⟩) (Nat.le_of_ble_eq_true rfl) (Nat.le_of_ble_eq_true rfl) (by decide) (x_ofHarbour ho hF hoF hC hW hm hS) (Or.inl rfl) rfl ?_
  refine e_callV_int (p := 9) (k' := 0) (a := [.ref 0, .int (ixS v (dN D 0))]) (rr := []) dX11_soonest_6 rfl rfl rfl rfl (rc_of rfl rfl (by decide) ⟨rfl, by decide⟩) (Nat.le_of_ble_eq_true rfl) (Nat.le_of_ble_eq_true rfl) (by decide) x_refused (Or.inl rfl) rfl ?_
  refine e_if_eq (t := 14) (p := 12) dX11_soonest_9 (by decide) rfl rfl (fun hc9 => absurd hc9 (rf_ne ht)) (fun hc9 => ?_)
  refine e_iconst (v := -1) (p := 13) dX11_soonest_12 (by decide) rfl ?_
  exact e_iretE dX11_soonest_13 rfl rfl (by decide) ⟨rfl, rfl⟩
set_option maxRecDepth 10000 in
theorem c_soonest_ok {I : Nat → Nat → Int32} {J : Nat → Nat → Int64} {F : Nat → Nat → Option Nat} {nc ns : Nat} {o : Nat} {D : oD} {s : Nat → Int32} (ho : isO o) (hF : RFok F) (hoF : F 0 2 = some o) (hC : oC I o D) (hW : WF D) (hm : mo I 42 s) (hS : WFs D s) {h : Nat} (hh : h < dN D 0)  : Ev 4 mX11_soonest 0 [.ref 0, .int (nI h)] [] ((SH, nc, ns), I, J, F) (some (.int (soonS D s (nI h)))) ((SH, nc, ns), hp_u I 0 10 0, J, F) := by
  have hD := hW.c
  have hH := hW.h
  have hT := hW.t
  have bt := hT.2
  obtain ⟨b0, b1, b2, b3, b4, b5, b6⟩ := hD.2
  refine e_aload_n (p := 1) dX11_soonest_0 rfl rfl ?_
  refine e_aload_n (p := 2) dX11_soonest_1 rfl rfl ?_
  refine e_iload_n (p := 3) dX11_soonest_2 rfl rfl ?_
  refine e_callV_int (p := 6) (k' := 1) (a := [.ref 0, .int (nI h)]) (rr := [.ref 0]) dX11_soonest_3 rfl rfl rfl rfl (rc_of rfl rfl (by decide) ⟨rfl, by decide⟩) (Nat.le_of_ble_eq_true rfl) (Nat.le_of_ble_eq_true rfl) (by decide) (Ev.i (ix_ok (n := dN D 0) (by omega) (by omega)) (x_ofHarbour ho hF hoF hC hW hm hS)) (Or.inl rfl) rfl ?_
  refine e_callV_int (p := 9) (k' := 0) (a := [.ref 0, .int 0]) (rr := []) dX11_soonest_6 rfl rfl rfl rfl (rc_of rfl rfl (by decide) ⟨rfl, by decide⟩) (Nat.le_of_ble_eq_true rfl) (Nat.le_of_ble_eq_true rfl) (by decide) (Ev.i (show rfS 0 = 0 by decide) (x_refused)) (Or.inl rfl) rfl ?_
  refine e_if_eq (t := 14) (p := 12) dX11_soonest_9 (by decide) rfl rfl (fun hc9 => ?_) (fun hc9 => absurd (by decide) hc9)
  refine e_aload_n (p := 15) dX11_soonest_14 rfl rfl ?_
  refine e_iload_n (p := 16) dX11_soonest_15 rfl rfl ?_
  refine e_callV_int (p := 19) (k' := 3) (a := [.ref 0, .int (nI h)]) (rr := []) dX11_soonest_16 rfl rfl rfl rfl (rc_of rfl rfl (by decide) ⟨rfl, by decide⟩) (Nat.le_of_ble_eq_true rfl) (Nat.le_of_ble_eq_true rfl) (by decide) (x_soonestIn ho hF hoF (oC_u hC ho (by decide)) hW (mo_u hm (by decide)) hS (by omega)) (Or.inl rfl) rfl ?_
  exact e_iretE dX11_soonest_19 rfl rfl (by decide) ⟨rfl, rfl⟩
theorem tol_h {D : oD} (hW : WF D) (h : tol D = 1) : 0 < dN D 0 := by
  rcases hW.u with ⟨e, -⟩ | ⟨-, h0, -⟩
  · unfold tol at h
    rw [e] at h
    exact absurd h (by decide)
  · exact h0
set_option maxRecDepth 10000 in
theorem x_lost_L {I : Nat → Nat → Int32} {J : Nat → Nat → Int64} {F : Nat → Nat → Option Nat} {nc ns : Nat} {o : Nat} {D : oD} {s : Nat → Int32} (ho : isO o) (hF : RFok F) (hoF : F 0 2 = some o) (hC : oC I o D) (hW : WF D) (hm : mo I 42 s) (hS : WFs D s) (h0 : 0 < dN D 0) : ∀ (m j : Nat) (acc : Int32) (z : Value), j + m = dN D 4 → Ev 4 mX11_lost 17 [.ref 0, .int acc, .int (nI j), z] [] ((SH, nc, ns), I, J, F) (some (.int ((gN (lostC D s) j m acc) &&& (s 5 ^^^ -1)))) ((SH, nc, ns), I, J, F)
  | 0, j, acc, z, hj => by
    have hD := hW.c
    have hH := hW.h
    have hT := hW.t
    have bt := hT.2
    obtain ⟨b0, b1, b2, b3, b4, b5, b6⟩ := hD.2
    refine e_iload_n (p := 18) dX11_lost_17 rfl rfl ?_
    refine e_aload_n (p := 19) dX11_lost_18 rfl rfl ?_
    refine e_getR (c := 10) (j := 2) (n := 13) (b := o) (p := 22) dX11_lost_19 rfl rfl (by decide) (by decide) rfl hoF rfl ?_
    refine e_getR (c := 4) (j := 2) (n := 18) (b := (o + 1)) (p := 25) dX11_lost_22 rfl (s_o ho) (l_o0 ho) (by decide) rfl (r_o2 hF ho) rfl ?_
    refine e_iconst (v := 4) (p := 26) dX11_lost_25 (by decide) rfl ?_
    refine f_iald (n := 7) (i := 4) (v := nI (dN D 4)) (p := 27) dX11_lost_26 (s_o1 ho) (l_o ho 1 (by decide)) (by decide) (by decide) (cN hC hD (by decide)) rfl ?_
    refine e_icmp_ge (t := 75) (p := 30) dX11_lost_27 (by decide) rfl rfl (fun hc27 => ?_) (fun hc27 => absurd (nle (by omega) (by omega)) hc27)
    refine e_iload_n (p := 76) dX11_lost_75 rfl rfl ?_
    refine e_aload_n (p := 77) dX11_lost_76 rfl rfl ?_
    refine e_getR (c := 10) (j := 3) (n := 13) (b := 42) (p := 80) dX11_lost_77 rfl rfl (by decide) (by decide) rfl (r_0_3 hF) rfl ?_
    refine f_getI (c := 3) (j := 3) (n := 6) (v := s 5) (p := 83) dX11_lost_80 rfl rfl (by decide) (by decide) (Or.inl rfl) hm.2.2.2.1 rfl ?_
    refine e_iconst (v := -1) (p := 84) dX11_lost_83 (by decide) rfl ?_
    refine e_ixor (p := 85) dX11_lost_84 rfl ?_
    refine e_iand (p := 86) dX11_lost_85 rfl ?_
    exact e_iretE dX11_lost_86 rfl rfl (by decide) ⟨rfl, rfl⟩
  | m + 1, j, acc, z, hj => by
    have hD := hW.c
    have hH := hW.h
    have hT := hW.t
    have bt := hT.2
    obtain ⟨b0, b1, b2, b3, b4, b5, b6⟩ := hD.2
    refine e_iload_n (p := 18) dX11_lost_17 rfl rfl ?_
    refine e_aload_n (p := 19) dX11_lost_18 rfl rfl ?_
    refine e_getR (c := 10) (j := 2) (n := 13) (b := o) (p := 22) dX11_lost_19 rfl rfl (by decide) (by decide) rfl hoF rfl ?_
    refine e_getR (c := 4) (j := 2) (n := 18) (b := (o + 1)) (p := 25) dX11_lost_22 rfl (s_o ho) (l_o0 ho) (by decide) rfl (r_o2 hF ho) rfl ?_
    refine e_iconst (v := 4) (p := 26) dX11_lost_25 (by decide) rfl ?_
    refine f_iald (n := 7) (i := 4) (v := nI (dN D 4)) (p := 27) dX11_lost_26 (s_o1 ho) (l_o ho 1 (by decide)) (by decide) (by decide) (cN hC hD (by decide)) rfl ?_
    refine e_icmp_ge (t := 75) (p := 30) dX11_lost_27 (by decide) rfl rfl (fun hc27 => absurd hc27 (nge (by omega) (by omega))) (fun hc27 => ?_)
    refine e_aload_n (p := 31) dX11_lost_30 rfl rfl ?_
    refine e_aload_n (p := 32) dX11_lost_31 rfl rfl ?_
    refine e_getR (c := 10) (j := 2) (n := 13) (b := o) (p := 35) dX11_lost_32 rfl rfl (by decide) (by decide) rfl hoF rfl ?_
    refine e_getR (c := 4) (j := 12) (n := 18) (b := (o + 11)) (p := 38) dX11_lost_35 rfl (s_o ho) (l_o0 ho) (by decide) rfl (r_o12 hF ho) rfl ?_
    refine e_iload_n (p := 39) dX11_lost_38 rfl rfl ?_
    refine f_iald (n := 6) (i := j) (v := D 12 j) (p := 40) dX11_lost_39 (s_o11 ho) (l_o ho 11 (by decide)) (in_nJ (by omega) (by decide)) (nI_cl (by omega)) (c12 hC (by omega)) rfl ?_
    refine e_callV_int (p := 43) (k' := 3) (a := [.ref 0, .int (D 12 j)]) (rr := []) dX11_lost_40 rfl rfl rfl rfl (rc_of rfl rfl (by decide) ⟨rfl, by decide⟩) (Nat.le_of_ble_eq_true rfl) (Nat.le_of_ble_eq_true rfl) (by decide) (x_soonestIn ho hF hoF hC hW hm hS (by omega)) (Or.inl rfl) rfl ?_
    refine e_istore_n (ls1 := [.ref 0, .int acc, .int (nI j), .int (soonS D s (D 12 j))]) (p := 44) dX11_lost_43 rfl rfl ?_
    refine e_iload_n (p := 45) dX11_lost_44 rfl rfl ?_
    refine e_bipush (v := -2) (p := 47) dX11_lost_45 (by decide) rfl ?_
    refine e_icmp_eq (t := 63) (p := 50) dX11_lost_47 (by decide) rfl rfl (fun hc47 => ?_) (fun hc47 => ?_)
    · skip
      refine e_iload_n (p := 64) dX11_lost_63 rfl rfl ?_
      refine e_iconst (v := 1) (p := 65) dX11_lost_64 (by decide) rfl ?_
      refine e_iload_n (p := 66) dX11_lost_65 rfl rfl ?_
      refine e_ishl (p := 67) dX11_lost_66 rfl ?_
      refine e_ior (p := 68) dX11_lost_67 rfl ?_
      refine e_istore_n (ls1 := [.ref 0, .int (acc ||| (1 <<< ((nI j) &&& 31))), .int (nI j), .int (soonS D s (D 12 j))]) (p := 69) dX11_lost_68 rfl rfl ?_
      refine e_iinc (ls1 := [.ref 0, .int (acc ||| (1 <<< ((nI j) &&& 31))), .int ((nI j) + 1), .int (soonS D s (D 12 j))]) (p := 72) dX11_lost_69 rfl rfl rfl ?_
      refine e_goto (p := 17) dX11_lost_72 (by decide) rfl ?_
      rw [nI_1]
      exact Ev.res (by simp only [gN_s, lostC, hc47, bit, Int32.or_zero, Int32.add_zero, ↓reduceIte]) (x_lost_L ho hF hoF hC hW hm hS h0 m (j + 1) (acc ||| (1 <<< ((nI j) &&& 31))) (.int (soonS D s (D 12 j))) (by omega))
    · skip
      refine e_iload_n (p := 51) dX11_lost_50 rfl rfl ?_
      refine e_aload_n (p := 52) dX11_lost_51 rfl rfl ?_
      refine e_getR (c := 10) (j := 2) (n := 13) (b := o) (p := 55) dX11_lost_52 rfl rfl (by decide) (by decide) rfl hoF rfl ?_
      refine e_getR (c := 4) (j := 13) (n := 18) (b := (o + 12)) (p := 58) dX11_lost_55 rfl (s_o ho) (l_o0 ho) (by decide) rfl (r_o13 hF ho) rfl ?_
      refine e_iload_n (p := 59) dX11_lost_58 rfl rfl ?_
      refine f_iald (n := 6) (i := j) (v := D 13 j) (p := 60) dX11_lost_59 (s_o12 ho) (l_o ho 12 (by decide)) (in_nJ (by omega) (by decide)) (nI_cl (by omega)) (c13 hC (by omega)) rfl ?_
      refine e_icmp_le (t := 69) (p := 63) dX11_lost_60 (by decide) rfl rfl (fun hc60 => ?_) (fun hc60 => ?_)
      · skip
        refine e_iinc (ls1 := [.ref 0, .int acc, .int ((nI j) + 1), .int (soonS D s (D 12 j))]) (p := 72) dX11_lost_69 rfl rfl rfl ?_
        refine e_goto (p := 17) dX11_lost_72 (by decide) rfl ?_
        rw [nI_1]
        exact Ev.res (by simp only [gN_s, lostC, hc47, hc60, (Int32.not_lt.mpr hc60), bit, Int32.or_zero, Int32.add_zero, ↓reduceIte]) (x_lost_L ho hF hoF hC hW hm hS h0 m (j + 1) acc (.int (soonS D s (D 12 j))) (by omega))
      · skip
        refine e_iload_n (p := 64) dX11_lost_63 rfl rfl ?_
        refine e_iconst (v := 1) (p := 65) dX11_lost_64 (by decide) rfl ?_
        refine e_iload_n (p := 66) dX11_lost_65 rfl rfl ?_
        refine e_ishl (p := 67) dX11_lost_66 rfl ?_
        refine e_ior (p := 68) dX11_lost_67 rfl ?_
        refine e_istore_n (ls1 := [.ref 0, .int (acc ||| (1 <<< ((nI j) &&& 31))), .int (nI j), .int (soonS D s (D 12 j))]) (p := 69) dX11_lost_68 rfl rfl ?_
        refine e_iinc (ls1 := [.ref 0, .int (acc ||| (1 <<< ((nI j) &&& 31))), .int ((nI j) + 1), .int (soonS D s (D 12 j))]) (p := 72) dX11_lost_69 rfl rfl rfl ?_
        refine e_goto (p := 17) dX11_lost_72 (by decide) rfl ?_
        rw [nI_1]
        exact Ev.res (by simp only [gN_s, lostC, hc47, hc60, (Int32.not_le.mp hc60), bit, Int32.or_zero, Int32.add_zero, ↓reduceIte]) (x_lost_L ho hF hoF hC hW hm hS h0 m (j + 1) (acc ||| (1 <<< ((nI j) &&& 31))) (.int (soonS D s (D 12 j))) (by omega))
set_option maxRecDepth 10000 in
theorem c_lost_no {I : Nat → Nat → Int32} {J : Nat → Nat → Int64} {F : Nat → Nat → Option Nat} {nc ns : Nat} {o : Nat} {D : oD} {s : Nat → Int32} (ho : isO o) (hF : RFok F) (hoF : F 0 2 = some o) (hC : oC I o D) (hW : WF D) (hm : mo I 42 s) (hS : WFs D s) (ht : ¬ (toS D) = 0) : Ev 4 mX11_lost 0 [.ref 0, .null, .null, .null] [] ((SH, nc, ns), I, J, F) (some (.int (-1))) ((SH, nc, ns), hp_u I 0 10 (toS D), J, F) := by
  have hD := hW.c
  have hH := hW.h
  have hT := hW.t
  have bt := hT.2
  obtain ⟨b0, b1, b2, b3, b4, b5, b6⟩ := hD.2
  refine e_aload_n (p := 1) dX11_lost_0 rfl rfl ?_
  refine e_aload_n (p := 2) dX11_lost_1 rfl rfl ?_
  refine e_callV_int (p := 5) (k' := 1) (a := [.ref 0]) (rr := [.ref 0]) dX11_lost_2 rfl rfl rfl rfl (rc_of rfl rfl (by decide) ⟨rfl, by decide⟩) (Nat.le_of_ble_eq_true rfl) (Nat.le_of_ble_eq_true rfl) (by decide) (x_ofOath ho hF hoF hC hW hm hS) (Or.inl rfl) rfl ?_
  refine e_callV_int (p := 8) (k' := 0) (a := [.ref 0, .int (toS D)]) (rr := []) dX11_lost_5 rfl rfl rfl rfl (rc_of rfl rfl (by decide) ⟨rfl, by decide⟩) (Nat.le_of_ble_eq_true rfl) (Nat.le_of_ble_eq_true rfl) (by decide) x_refused (Or.inl rfl) rfl ?_
  refine e_if_eq (t := 13) (p := 11) dX11_lost_8 (by decide) rfl rfl (fun hc8 => absurd hc8 (rf_ne ht)) (fun hc8 => ?_)
  refine e_iconst (v := -1) (p := 12) dX11_lost_11 (by decide) rfl ?_
  exact e_iretE dX11_lost_12 rfl rfl (by decide) ⟨rfl, rfl⟩
set_option maxRecDepth 10000 in
theorem c_lost_ok {I : Nat → Nat → Int32} {J : Nat → Nat → Int64} {F : Nat → Nat → Option Nat} {nc ns : Nat} {o : Nat} {D : oD} {s : Nat → Int32} (ho : isO o) (hF : RFok F) (hoF : F 0 2 = some o) (hC : oC I o D) (hW : WF D) (hm : mo I 42 s) (hS : WFs D s) (ht1 : tol D = 1)  : Ev 4 mX11_lost 0 [.ref 0, .null, .null, .null] [] ((SH, nc, ns), I, J, F) (some (.int (gN (lostC D s) 0 (dN D 4) 0 &&& (s 5 ^^^ -1)))) ((SH, nc, ns), hp_u I 0 10 0, J, F) := by
  have hD := hW.c
  have hH := hW.h
  have hT := hW.t
  have bt := hT.2
  obtain ⟨b0, b1, b2, b3, b4, b5, b6⟩ := hD.2
  refine e_aload_n (p := 1) dX11_lost_0 rfl rfl ?_
  refine e_aload_n (p := 2) dX11_lost_1 rfl rfl ?_
  refine e_callV_int (p := 5) (k' := 1) (a := [.ref 0]) (rr := [.ref 0]) dX11_lost_2 rfl rfl rfl rfl (rc_of rfl rfl (by decide) ⟨rfl, by decide⟩) (Nat.le_of_ble_eq_true rfl) (Nat.le_of_ble_eq_true rfl) (by decide) (Ev.i (to_1 ht1) (x_ofOath ho hF hoF hC hW hm hS)) (Or.inl rfl) rfl ?_
  refine e_callV_int (p := 8) (k' := 0) (a := [.ref 0, .int 0]) (rr := []) dX11_lost_5 rfl rfl rfl rfl (rc_of rfl rfl (by decide) ⟨rfl, by decide⟩) (Nat.le_of_ble_eq_true rfl) (Nat.le_of_ble_eq_true rfl) (by decide) (Ev.i (show rfS 0 = 0 by decide) (x_refused)) (Or.inl rfl) rfl ?_
  refine e_if_eq (t := 13) (p := 11) dX11_lost_8 (by decide) rfl rfl (fun hc8 => ?_) (fun hc8 => absurd (by decide) hc8)
  refine e_iconst (v := 0) (p := 14) dX11_lost_13 (by decide) rfl ?_
  refine e_istore_n (ls1 := [.ref 0, .int 0, .null, .null]) (p := 15) dX11_lost_14 rfl rfl ?_
  refine e_iconst (v := 0) (p := 16) dX11_lost_15 (by decide) rfl ?_
  refine e_istore_n (ls1 := [.ref 0, .int 0, .int 0, .null]) (p := 17) dX11_lost_16 rfl rfl ?_
  exact x_lost_L ho hF hoF (oC_u hC ho (by decide)) hW (mo_u hm (by decide)) hS (tol_h hW ht1) _ 0 _ _ (by omega)
set_option maxRecDepth 10000 in
theorem c_bells_no {I : Nat → Nat → Int32} {J : Nat → Nat → Int64} {F : Nat → Nat → Option Nat} {nc ns : Nat} {o : Nat} {D : oD} {s : Nat → Int32} (ho : isO o) (hF : RFok F) (hoF : F 0 2 = some o) (hC : oC I o D) (hW : WF D) (hm : mo I 42 s) (hS : WFs D s) (ht : ¬ (toS D) = 0) : Ev 3 mX11_bells 0 [.ref 0] [] ((SH, nc, ns), I, J, F) (some (.int (-1))) ((SH, nc, ns), hp_u I 0 10 (toS D), J, F) := by
  have hD := hW.c
  have hH := hW.h
  have hT := hW.t
  have bt := hT.2
  obtain ⟨b0, b1, b2, b3, b4, b5, b6⟩ := hD.2
  refine e_aload_n (p := 1) dX11_bells_0 rfl rfl ?_
  refine e_aload_n (p := 2) dX11_bells_1 rfl rfl ?_
  refine e_callV_int (p := 5) (k' := 1) (a := [.ref 0]) (rr := [.ref 0]) dX11_bells_2 rfl rfl rfl rfl (rc_of rfl rfl (by decide) ⟨rfl, by decide⟩) (Nat.le_of_ble_eq_true rfl) (Nat.le_of_ble_eq_true rfl) (by decide) (x_ofOath ho hF hoF hC hW hm hS) (Or.inl rfl) rfl ?_
  refine e_callV_int (p := 8) (k' := 0) (a := [.ref 0, .int (toS D)]) (rr := []) dX11_bells_5 rfl rfl rfl rfl (rc_of rfl rfl (by decide) ⟨rfl, by decide⟩) (Nat.le_of_ble_eq_true rfl) (Nat.le_of_ble_eq_true rfl) (by decide) x_refused (Or.inl rfl) rfl ?_
  refine e_if_eq (t := 13) (p := 11) dX11_bells_8 (by decide) rfl rfl (fun hc8 => absurd hc8 (rf_ne ht)) (fun hc8 => ?_)
  refine e_iconst (v := -1) (p := 12) dX11_bells_11 (by decide) rfl ?_
  exact e_iretE dX11_bells_12 rfl rfl (by decide) ⟨rfl, rfl⟩
set_option maxRecDepth 10000 in
theorem c_bells_ok {I : Nat → Nat → Int32} {J : Nat → Nat → Int64} {F : Nat → Nat → Option Nat} {nc ns : Nat} {o : Nat} {D : oD} {s : Nat → Int32} (ho : isO o) (hF : RFok F) (hoF : F 0 2 = some o) (hC : oC I o D) (hW : WF D) (hm : mo I 42 s) (hS : WFs D s) (ht1 : tol D = 1)  : Ev 3 mX11_bells 0 [.ref 0] [] ((SH, nc, ns), I, J, F) (some (.int (bellsS D))) ((SH, nc, ns), hp_u I 0 10 0, J, F) := by
  have hD := hW.c
  have hH := hW.h
  have hT := hW.t
  have bt := hT.2
  obtain ⟨b0, b1, b2, b3, b4, b5, b6⟩ := hD.2
  refine e_aload_n (p := 1) dX11_bells_0 rfl rfl ?_
  refine e_aload_n (p := 2) dX11_bells_1 rfl rfl ?_
  refine e_callV_int (p := 5) (k' := 1) (a := [.ref 0]) (rr := [.ref 0]) dX11_bells_2 rfl rfl rfl rfl (rc_of rfl rfl (by decide) ⟨rfl, by decide⟩) (Nat.le_of_ble_eq_true rfl) (Nat.le_of_ble_eq_true rfl) (by decide) (Ev.i (to_1 ht1) (x_ofOath ho hF hoF hC hW hm hS)) (Or.inl rfl) rfl ?_
  refine e_callV_int (p := 8) (k' := 0) (a := [.ref 0, .int 0]) (rr := []) dX11_bells_5 rfl rfl rfl rfl (rc_of rfl rfl (by decide) ⟨rfl, by decide⟩) (Nat.le_of_ble_eq_true rfl) (Nat.le_of_ble_eq_true rfl) (by decide) (Ev.i (show rfS 0 = 0 by decide) (x_refused)) (Or.inl rfl) rfl ?_
  refine e_if_eq (t := 13) (p := 11) dX11_bells_8 (by decide) rfl rfl (fun hc8 => ?_) (fun hc8 => absurd (by decide) hc8)
  refine e_aload_n (p := 14) dX11_bells_13 rfl rfl ?_
  refine e_getR (c := 10) (j := 2) (n := 13) (b := o) (p := 17) dX11_bells_14 rfl rfl (by decide) (by decide) rfl hoF rfl ?_
  refine e_callV_int (p := 20) (k' := 2) (a := [.ref o]) (rr := []) dX11_bells_17 rfl rfl rfl rfl (rc_of rfl (s_o ho) (l_o0 ho) ⟨rfl, by decide⟩) (Nat.le_of_ble_eq_true rfl) (Nat.le_of_ble_eq_true rfl) (by decide) (x_fewestBells ho hF (oC_u hC ho (by decide)) hW.c ) (Or.inl rfl) rfl ?_
  exact e_iretE dX11_bells_20 rfl rfl (by decide) ⟨rfl, rfl⟩
-- bids, rests
set_option maxRecDepth 10000 in
theorem x_ofFather {I : Nat → Nat → Int32} {J : Nat → Nat → Int64} {F : Nat → Nat → Option Nat} {nc ns : Nat} {v a b : Int32} : Ev 0 mX10_ofFather 0 [.int a, .int b] [] ((SH, nc, ns), I, J, F) (some (.int (bidS v a b 0))) ((SH, nc, ns), I, J, F) := by
  refine e_iload_n (p := 1) dX10_ofFather_0 rfl rfl ?_
  refine e_iload_n (p := 2) dX10_ofFather_1 rfl rfl ?_
  refine e_icmp_lt (t := 9) (p := 5) dX10_ofFather_2 (by decide) rfl rfl (fun hc2 => ?_) (fun hc2 => ?_)
  · skip
    refine e_iconst (v := 0) (p := 10) dX10_ofFather_9 (by decide) rfl ?_
    exact e_iretE dX10_ofFather_10 rfl rfl (by decide) ⟨by simp [bidS, hc2, (Int32.not_le.mpr hc2)], rfl⟩
  · skip
    refine e_iload_n (p := 6) dX10_ofFather_5 rfl rfl ?_
    refine e_goto (p := 10) dX10_ofFather_6 (by decide) rfl ?_
    exact e_iretE dX10_ofFather_10 rfl rfl (by decide) ⟨by simp [bidS, hc2, (Int32.not_lt.mp hc2)], rfl⟩
set_option maxRecDepth 10000 in
theorem x_ofCaptain {I : Nat → Nat → Int32} {J : Nat → Nat → Int64} {F : Nat → Nat → Option Nat} {nc ns : Nat} {v a b : Int32} : Ev 0 mX10_ofCaptain 0 [.int v, .int a, .int b] [] ((SH, nc, ns), I, J, F) (some (.int (bidS v a b 1))) ((SH, nc, ns), I, J, F) := by
  refine e_iload_n (p := 1) dX10_ofCaptain_0 rfl rfl ?_
  refine e_iload_n (p := 2) dX10_ofCaptain_1 rfl rfl ?_
  refine e_icmp_lt (t := 11) (p := 5) dX10_ofCaptain_2 (by decide) rfl rfl (fun hc2 => ?_) (fun hc2 => ?_)
  · skip
    refine e_iconst (v := 0) (p := 12) dX10_ofCaptain_11 (by decide) rfl ?_
    exact e_iretE dX10_ofCaptain_12 rfl rfl (by decide) ⟨by simp [bidS, hc2, (Int32.not_le.mpr hc2)], rfl⟩
  · skip
    refine e_iload_n (p := 6) dX10_ofCaptain_5 rfl rfl ?_
    refine e_iload_n (p := 7) dX10_ofCaptain_6 rfl rfl ?_
    refine e_isub (p := 8) dX10_ofCaptain_7 rfl ?_
    refine e_goto (p := 12) dX10_ofCaptain_8 (by decide) rfl ?_
    exact e_iretE dX10_ofCaptain_12 rfl rfl (by decide) ⟨by simp [bidS, hc2, (Int32.not_lt.mp hc2)], rfl⟩
theorem gN_0 {v a b : Int32} : ∀ m j, gN (resF v a b) j m 0 = 0
  | 0, _ => rfl
  | m + 1, j => by
    rw [gN]
    exact gN_0 m (j + 1)
set_option maxRecDepth 10000 in
theorem x_isRest_L {I : Nat → Nat → Int32} {J : Nat → Nat → Int64} {F : Nat → Nat → Option Nat} {nc ns : Nat} {v a b : Int32} : ∀ (m j : Nat) , j + m = 10 → Ev 1 mX10_isRest 2 [.int v, .int a, .int b, .int (nI j)] [] ((SH, nc, ns), I, J, F) (some (.int (gN (resF v a b) j m 1))) ((SH, nc, ns), I, J, F)
  | 0, j, hj => by
    refine e_iload_n (p := 3) dX10_isRest_2 rfl rfl ?_
    refine e_bipush (v := 9) (p := 5) dX10_isRest_3 (by decide) rfl ?_
    refine e_icmp_gt (t := 46) (p := 8) dX10_isRest_5 (by decide) rfl rfl (fun hc5 => ?_) (fun hc5 => absurd (nI_lt (a := 9) (b := j) (by omega) (by omega)) hc5)
    refine e_iconst (v := 1) (p := 47) dX10_isRest_46 (by decide) rfl ?_
    exact e_iretE dX10_isRest_47 rfl (by decide) (by decide) ⟨rfl, rfl⟩
  | m + 1, j, hj => by
    refine e_iload_n (p := 3) dX10_isRest_2 rfl rfl ?_
    refine e_bipush (v := 9) (p := 5) dX10_isRest_3 (by decide) rfl ?_
    refine e_icmp_gt (t := 46) (p := 8) dX10_isRest_5 (by decide) rfl rfl (fun hc5 => absurd hc5 (nI_nlt (a := 9) (b := j) (by omega) (by omega))) (fun hc5 => ?_)
    refine e_iload_n (p := 9) dX10_isRest_8 rfl rfl ?_
    refine e_iload_n (p := 10) dX10_isRest_9 rfl rfl ?_
    refine e_callS_int (p := 13) (k' := 0) (a := [.int (nI j), .int b]) (rr := []) dX10_isRest_10 rfl rfl rfl rfl rfl (rc_st rfl) (Nat.le_of_ble_eq_true rfl) (Nat.le_of_ble_eq_true rfl) (by decide) (x_ofFather (v := v)) (Or.inl rfl) rfl ?_
    refine e_iload_n (p := 14) dX10_isRest_13 rfl rfl ?_
    refine e_iload_n (p := 15) dX10_isRest_14 rfl rfl ?_
    refine e_callS_int (p := 18) (k' := 0) (a := [.int a, .int b]) (rr := [.int (bidS v (nI j) b 0)]) dX10_isRest_15 rfl rfl rfl rfl rfl (rc_st rfl) (Nat.le_of_ble_eq_true rfl) (Nat.le_of_ble_eq_true rfl) (by decide) (x_ofFather (v := v)) (Or.inl rfl) rfl ?_
    refine e_icmp_le (t := 23) (p := 21) dX10_isRest_18 (by decide) rfl rfl (fun hc18 => ?_) (fun hc18 => ?_)
    · skip
      refine e_iload_n (p := 24) dX10_isRest_23 rfl rfl ?_
      refine e_iload_n (p := 25) dX10_isRest_24 rfl rfl ?_
      refine e_iload_n (p := 26) dX10_isRest_25 rfl rfl ?_
      refine e_callS_int (p := 29) (k' := 0) (a := [.int v, .int a, .int (nI j)]) (rr := []) dX10_isRest_26 rfl rfl rfl rfl rfl (rc_st rfl) (Nat.le_of_ble_eq_true rfl) (Nat.le_of_ble_eq_true rfl) (by decide) x_ofCaptain (Or.inl rfl) rfl ?_
      refine e_iload_n (p := 30) dX10_isRest_29 rfl rfl ?_
      refine e_iload_n (p := 31) dX10_isRest_30 rfl rfl ?_
      refine e_iload_n (p := 32) dX10_isRest_31 rfl rfl ?_
      refine e_callS_int (p := 35) (k' := 0) (a := [.int v, .int a, .int b]) (rr := [.int (bidS v a (nI j) 1)]) dX10_isRest_32 rfl rfl rfl rfl rfl (rc_st rfl) (Nat.le_of_ble_eq_true rfl) (Nat.le_of_ble_eq_true rfl) (by decide) x_ofCaptain (Or.inl rfl) rfl ?_
      refine e_icmp_le (t := 40) (p := 38) dX10_isRest_35 (by decide) rfl rfl (fun hc35 => ?_) (fun hc35 => ?_)
      · skip
        refine e_iinc (ls1 := [.int v, .int a, .int b, .int ((nI j) + 1)]) (p := 43) dX10_isRest_40 rfl rfl rfl ?_
        refine e_goto (p := 2) dX10_isRest_43 (by decide) rfl ?_
        rw [nI_1]
        exact Ev.res (by rw [gN_s, resF]; simp only [hc18, hc35, (Int32.not_lt.mpr hc18), (Int32.not_lt.mpr hc35), (show ¬ (1 : Int32) = 0 by decide), ↓reduceIte]) (x_isRest_L m (j + 1) (by omega))
      · skip
        refine e_iconst (v := 0) (p := 39) dX10_isRest_38 (by decide) rfl ?_
        exact e_iretE dX10_isRest_39 rfl (by decide) (by decide) ⟨by rw [gN_s, resF]; simp only [hc18, hc35, (Int32.not_lt.mpr hc18), (Int32.not_le.mp hc35), (show ¬ (1 : Int32) = 0 by decide), ↓reduceIte]; rw [gN_0], rfl⟩
    · skip
      refine e_iconst (v := 0) (p := 22) dX10_isRest_21 (by decide) rfl ?_
      exact e_iretE dX10_isRest_22 rfl (by decide) (by decide) ⟨by rw [gN_s, resF]; simp only [hc18, (Int32.not_le.mp hc18), (show ¬ (1 : Int32) = 0 by decide), ↓reduceIte]; rw [gN_0], rfl⟩
set_option maxRecDepth 10000 in
theorem x_isRest {I : Nat → Nat → Int32} {J : Nat → Nat → Int64} {F : Nat → Nat → Option Nat} {nc ns : Nat} {v a b : Int32} : Ev 1 mX10_isRest 0 [.int v, .int a, .int b, .null] [] ((SH, nc, ns), I, J, F) (some (.int (resS v a b))) ((SH, nc, ns), I, J, F) := by
  refine e_iconst (v := 0) (p := 1) dX10_isRest_0 (by decide) rfl ?_
  refine e_istore_n (ls1 := [.int v, .int a, .int b, .int 0]) (p := 2) dX10_isRest_1 rfl rfl ?_
  exact x_isRest_L _ 0 (by omega)
set_option maxRecDepth 10000 in
theorem c_bid_no {I : Nat → Nat → Int32} {J : Nat → Nat → Int64} {F : Nat → Nat → Option Nat} {nc ns : Nat} {o : Nat} {D : oD} {s : Nat → Int32} (ho : isO o) (hF : RFok F) (hoF : F 0 2 = some o) (hC : oC I o D) (hW : WF D) (hm : mo I 42 s) (hS : WFs D s) {v a b c : Int32} (ht : ¬ (eiS (toS D) (eiS (nuS v 0 99) (eiS (nuS a 0 9) (nuS b 0 9)))) = 0) : Ev 2 mX11_bid 0 [.ref 0, .int v, .int a, .int b, .int c, .null] [] ((SH, nc, ns), I, J, F) (some (.int (-100))) ((SH, nc, ns), hp_u I 0 10 (eiS (toS D) (eiS (nuS v 0 99) (eiS (nuS a 0 9) (nuS b 0 9)))), J, F) := by
  have hD := hW.c
  have hH := hW.h
  have hT := hW.t
  have bt := hT.2
  obtain ⟨b0, b1, b2, b3, b4, b5, b6⟩ := hD.2
  refine e_iload_n (p := 1) dX11_bid_0 rfl rfl ?_
  refine e_iconst (v := 0) (p := 2) dX11_bid_1 (by decide) rfl ?_
  refine e_bipush (v := 99) (p := 4) dX11_bid_2 (by decide) rfl ?_
  refine e_callS_int (p := 7) (k' := 0) (a := [.int v, .int 0, .int 99]) (rr := []) dX11_bid_4 rfl rfl rfl rfl rfl (rc_st rfl) (Nat.le_of_ble_eq_true rfl) (Nat.le_of_ble_eq_true rfl) (by decide) x_ofNumber (Or.inl rfl) rfl ?_
  refine e_iload_n (p := 8) dX11_bid_7 rfl rfl ?_
  refine e_iconst (v := 0) (p := 9) dX11_bid_8 (by decide) rfl ?_
  refine e_bipush (v := 9) (p := 11) dX11_bid_9 (by decide) rfl ?_
  refine e_callS_int (p := 14) (k' := 0) (a := [.int a, .int 0, .int 9]) (rr := [.int (nuS v 0 99)]) dX11_bid_11 rfl rfl rfl rfl rfl (rc_st rfl) (Nat.le_of_ble_eq_true rfl) (Nat.le_of_ble_eq_true rfl) (by decide) x_ofNumber (Or.inl rfl) rfl ?_
  refine e_iload_n (p := 15) dX11_bid_14 rfl rfl ?_
  refine e_iconst (v := 0) (p := 16) dX11_bid_15 (by decide) rfl ?_
  refine e_bipush (v := 9) (p := 18) dX11_bid_16 (by decide) rfl ?_
  refine e_callS_int (p := 21) (k' := 0) (a := [.int b, .int 0, .int 9]) (rr := [.int (nuS a 0 9), .int (nuS v 0 99)]) dX11_bid_18 rfl rfl rfl rfl rfl (rc_st rfl) (Nat.le_of_ble_eq_true rfl) (Nat.le_of_ble_eq_true rfl) (by decide) x_ofNumber (Or.inl rfl) rfl ?_
  refine e_callS_int (p := 24) (k' := 0) (a := [.int (nuS a 0 9), .int (nuS b 0 9)]) (rr := [.int (nuS v 0 99)]) dX11_bid_21 rfl rfl rfl rfl rfl (rc_st rfl) (Nat.le_of_ble_eq_true rfl) (Nat.le_of_ble_eq_true rfl) (by decide) x_either (Or.inl rfl) rfl ?_
  refine e_callS_int (p := 27) (k' := 0) (a := [.int (nuS v 0 99), .int (eiS (nuS a 0 9) (nuS b 0 9))]) (rr := []) dX11_bid_24 rfl rfl rfl rfl rfl (rc_st rfl) (Nat.le_of_ble_eq_true rfl) (Nat.le_of_ble_eq_true rfl) (by decide) x_either (Or.inl rfl) rfl ?_
  refine e_istore (ls1 := [.ref 0, .int v, .int a, .int b, .int c, .int (eiS (nuS v 0 99) (eiS (nuS a 0 9) (nuS b 0 9)))]) (p := 29) dX11_bid_27 rfl rfl ?_
  refine e_aload_n (p := 30) dX11_bid_29 rfl rfl ?_
  refine e_aload_n (p := 31) dX11_bid_30 rfl rfl ?_
  refine e_callV_int (p := 34) (k' := 1) (a := [.ref 0]) (rr := [.ref 0]) dX11_bid_31 rfl rfl rfl rfl (rc_of rfl rfl (by decide) ⟨rfl, by decide⟩) (Nat.le_of_ble_eq_true rfl) (Nat.le_of_ble_eq_true rfl) (by decide) (x_ofOath ho hF hoF hC hW hm hS) (Or.inl rfl) rfl ?_
  refine e_iload (p := 36) dX11_bid_34 rfl rfl ?_
  refine e_callS_int (p := 39) (k' := 0) (a := [.int (toS D), .int (eiS (nuS v 0 99) (eiS (nuS a 0 9) (nuS b 0 9)))]) (rr := [.ref 0]) dX11_bid_36 rfl rfl rfl rfl rfl (rc_st rfl) (Nat.le_of_ble_eq_true rfl) (Nat.le_of_ble_eq_true rfl) (by decide) x_either (Or.inl rfl) rfl ?_
  refine e_callV_int (p := 42) (k' := 0) (a := [.ref 0, .int (eiS (toS D) (eiS (nuS v 0 99) (eiS (nuS a 0 9) (nuS b 0 9))))]) (rr := []) dX11_bid_39 rfl rfl rfl rfl (rc_of rfl rfl (by decide) ⟨rfl, by decide⟩) (Nat.le_of_ble_eq_true rfl) (Nat.le_of_ble_eq_true rfl) (by decide) x_refused (Or.inl rfl) rfl ?_
  refine e_if_eq (t := 48) (p := 45) dX11_bid_42 (by decide) rfl rfl (fun hc42 => absurd hc42 (rf_ne ht)) (fun hc42 => ?_)
  refine e_bipush (v := -100) (p := 47) dX11_bid_45 (by decide) rfl ?_
  exact e_iretE dX11_bid_47 rfl rfl (by decide) ⟨rfl, rfl⟩
set_option maxRecDepth 10000 in
theorem c_bid_ok {I : Nat → Nat → Int32} {J : Nat → Nat → Int64} {F : Nat → Nat → Option Nat} {nc ns : Nat} {o : Nat} {D : oD} {s : Nat → Int32} (ho : isO o) (hF : RFok F) (hoF : F 0 2 = some o) (hC : oC I o D) (hW : WF D) (hm : mo I 42 s) (hS : WFs D s) (ht1 : tol D = 1) {v a b : Nat} {c : Int32} (hv : v ≤ 99) (ha : a ≤ 9) (hb : b ≤ 9)  : Ev 2 mX11_bid 0 [.ref 0, .int (nI v), .int (nI a), .int (nI b), .int c, .null] [] ((SH, nc, ns), I, J, F) (some (.int (bidS (nI v) (nI a) (nI b) c))) ((SH, nc, ns), hp_u I 0 10 0, J, F) := by
  have hD := hW.c
  have hH := hW.h
  have hT := hW.t
  have bt := hT.2
  obtain ⟨b0, b1, b2, b3, b4, b5, b6⟩ := hD.2
  refine e_iload_n (p := 1) dX11_bid_0 rfl rfl ?_
  refine e_iconst (v := 0) (p := 2) dX11_bid_1 (by decide) rfl ?_
  refine e_bipush (v := 99) (p := 4) dX11_bid_2 (by decide) rfl ?_
  refine e_callS_int (p := 7) (k' := 0) (a := [.int (nI v), .int 0, .int 99]) (rr := []) dX11_bid_4 rfl rfl rfl rfl rfl (rc_st rfl) (Nat.le_of_ble_eq_true rfl) (Nat.le_of_ble_eq_true rfl) (by decide) (Ev.i (nu_ok (a := 0) (b := 99) (n := v) (by omega) (by omega) (by omega)) (x_ofNumber)) (Or.inl rfl) rfl ?_
  refine e_iload_n (p := 8) dX11_bid_7 rfl rfl ?_
  refine e_iconst (v := 0) (p := 9) dX11_bid_8 (by decide) rfl ?_
  refine e_bipush (v := 9) (p := 11) dX11_bid_9 (by decide) rfl ?_
  refine e_callS_int (p := 14) (k' := 0) (a := [.int (nI a), .int 0, .int 9]) (rr := [.int 0]) dX11_bid_11 rfl rfl rfl rfl rfl (rc_st rfl) (Nat.le_of_ble_eq_true rfl) (Nat.le_of_ble_eq_true rfl) (by decide) (Ev.i (nu_ok (a := 0) (b := 9) (n := a) (by omega) (by omega) (by omega)) (x_ofNumber)) (Or.inl rfl) rfl ?_
  refine e_iload_n (p := 15) dX11_bid_14 rfl rfl ?_
  refine e_iconst (v := 0) (p := 16) dX11_bid_15 (by decide) rfl ?_
  refine e_bipush (v := 9) (p := 18) dX11_bid_16 (by decide) rfl ?_
  refine e_callS_int (p := 21) (k' := 0) (a := [.int (nI b), .int 0, .int 9]) (rr := [.int 0, .int 0]) dX11_bid_18 rfl rfl rfl rfl rfl (rc_st rfl) (Nat.le_of_ble_eq_true rfl) (Nat.le_of_ble_eq_true rfl) (by decide) (Ev.i (nu_ok (a := 0) (b := 9) (n := b) (by omega) (by omega) (by omega)) (x_ofNumber)) (Or.inl rfl) rfl ?_
  refine e_callS_int (p := 24) (k' := 0) (a := [.int 0, .int 0]) (rr := [.int 0]) dX11_bid_21 rfl rfl rfl rfl rfl (rc_st rfl) (Nat.le_of_ble_eq_true rfl) (Nat.le_of_ble_eq_true rfl) (by decide) (Ev.i (show eiS 0 0 = 0 by decide) (x_either)) (Or.inl rfl) rfl ?_
  refine e_callS_int (p := 27) (k' := 0) (a := [.int 0, .int 0]) (rr := []) dX11_bid_24 rfl rfl rfl rfl rfl (rc_st rfl) (Nat.le_of_ble_eq_true rfl) (Nat.le_of_ble_eq_true rfl) (by decide) (Ev.i (show eiS 0 0 = 0 by decide) (x_either)) (Or.inl rfl) rfl ?_
  refine e_istore (ls1 := [.ref 0, .int (nI v), .int (nI a), .int (nI b), .int c, .int 0]) (p := 29) dX11_bid_27 rfl rfl ?_
  refine e_aload_n (p := 30) dX11_bid_29 rfl rfl ?_
  refine e_aload_n (p := 31) dX11_bid_30 rfl rfl ?_
  refine e_callV_int (p := 34) (k' := 1) (a := [.ref 0]) (rr := [.ref 0]) dX11_bid_31 rfl rfl rfl rfl (rc_of rfl rfl (by decide) ⟨rfl, by decide⟩) (Nat.le_of_ble_eq_true rfl) (Nat.le_of_ble_eq_true rfl) (by decide) (Ev.i (to_1 ht1) (x_ofOath ho hF hoF hC hW hm hS)) (Or.inl rfl) rfl ?_
  refine e_iload (p := 36) dX11_bid_34 rfl rfl ?_
  refine e_callS_int (p := 39) (k' := 0) (a := [.int 0, .int 0]) (rr := [.ref 0]) dX11_bid_36 rfl rfl rfl rfl rfl (rc_st rfl) (Nat.le_of_ble_eq_true rfl) (Nat.le_of_ble_eq_true rfl) (by decide) (Ev.i (show eiS 0 0 = 0 by decide) (x_either)) (Or.inl rfl) rfl ?_
  refine e_callV_int (p := 42) (k' := 0) (a := [.ref 0, .int 0]) (rr := []) dX11_bid_39 rfl rfl rfl rfl (rc_of rfl rfl (by decide) ⟨rfl, by decide⟩) (Nat.le_of_ble_eq_true rfl) (Nat.le_of_ble_eq_true rfl) (by decide) (Ev.i (show rfS 0 = 0 by decide) (x_refused)) (Or.inl rfl) rfl ?_
  refine e_if_eq (t := 48) (p := 45) dX11_bid_42 (by decide) rfl rfl (fun hc42 => ?_) (fun hc42 => absurd (by decide) hc42)
  refine e_iload (p := 50) dX11_bid_48 rfl rfl ?_
  refine e_if_eq (t := 62) (p := 53) dX11_bid_50 (by decide) rfl rfl (fun hc50 => ?_) (fun hc50 => ?_)
  · skip
    refine e_iload_n (p := 63) dX11_bid_62 rfl rfl ?_
    refine e_iload_n (p := 64) dX11_bid_63 rfl rfl ?_
    refine e_callS_int (p := 67) (k' := 0) (a := [.int (nI a), .int (nI b)]) (rr := []) dX11_bid_64 rfl rfl rfl rfl rfl (rc_st rfl) (Nat.le_of_ble_eq_true rfl) (Nat.le_of_ble_eq_true rfl) (by decide) (x_ofFather (v := (nI v))) (Or.inl rfl) rfl ?_
    exact e_iretE dX11_bid_67 rfl rfl (by decide) ⟨by subst hc50; rfl, rfl⟩
  · skip
    refine e_iload_n (p := 54) dX11_bid_53 rfl rfl ?_
    refine e_iload_n (p := 55) dX11_bid_54 rfl rfl ?_
    refine e_iload_n (p := 56) dX11_bid_55 rfl rfl ?_
    refine e_callS_int (p := 59) (k' := 0) (a := [.int (nI v), .int (nI a), .int (nI b)]) (rr := []) dX11_bid_56 rfl rfl rfl rfl rfl (rc_st rfl) (Nat.le_of_ble_eq_true rfl) (Nat.le_of_ble_eq_true rfl) (by decide) x_ofCaptain (Or.inl rfl) rfl ?_
    refine e_goto (p := 67) dX11_bid_59 (by decide) rfl ?_
    exact e_iretE dX11_bid_67 rfl rfl (by decide) ⟨by unfold bidS; simp only [hc50, (show ¬ (1 : Int32) = 0 by decide), ↓reduceIte], rfl⟩
set_option maxRecDepth 10000 in
theorem x_rests_L {I : Nat → Nat → Int32} {J : Nat → Nat → Int64} {F : Nat → Nat → Option Nat} {nc ns : Nat} {o : Nat} {D : oD} {s : Nat → Int32} (ho : isO o) (hF : RFok F) (hoF : F 0 2 = some o) (hC : oC I o D) (hW : WF D) (hm : mo I 42 s) (hS : WFs D s) {v : Int32} : ∀ (m j : Nat) (acc : Int32), j + m = 100 → Ev 2 mX11_rests 27 [.ref 0, .int v, .int acc, .int (nI j)] [] ((SH, nc, ns), I, J, F) (some (.int (gN (rstC v) j m acc))) ((SH, nc, ns), I, J, F)
  | 0, j, acc, hj => by
    have hD := hW.c
    have hH := hW.h
    have hT := hW.t
    have bt := hT.2
    obtain ⟨b0, b1, b2, b3, b4, b5, b6⟩ := hD.2
    refine e_iload_n (p := 28) dX11_rests_27 rfl rfl ?_
    refine e_bipush (v := 100) (p := 30) dX11_rests_28 (by decide) rfl ?_
    refine e_icmp_ge (t := 57) (p := 33) dX11_rests_30 (by decide) rfl rfl (fun hc30 => ?_) (fun hc30 => absurd (nI_le (a := 100) (b := j) (by omega) (by omega)) hc30)
    refine e_iload_n (p := 58) dX11_rests_57 rfl rfl ?_
    exact e_iretE dX11_rests_58 rfl rfl (by decide) ⟨rfl, rfl⟩
  | m + 1, j, acc, hj => by
    have hD := hW.c
    have hH := hW.h
    have hT := hW.t
    have bt := hT.2
    obtain ⟨b0, b1, b2, b3, b4, b5, b6⟩ := hD.2
    refine e_iload_n (p := 28) dX11_rests_27 rfl rfl ?_
    refine e_bipush (v := 100) (p := 30) dX11_rests_28 (by decide) rfl ?_
    refine e_icmp_ge (t := 57) (p := 33) dX11_rests_30 (by decide) rfl rfl (fun hc30 => absurd hc30 (nI_ge (a := j) (b := 100) (by omega) (by omega))) (fun hc30 => ?_)
    refine e_iload_n (p := 34) dX11_rests_33 rfl rfl ?_
    refine e_iload_n (p := 35) dX11_rests_34 rfl rfl ?_
    refine e_bipush (v := 10) (p := 37) dX11_rests_35 (by decide) rfl ?_
    refine e_idiv (p := 38) dX11_rests_37 (by decide) rfl ?_
    refine e_iload_n (p := 39) dX11_rests_38 rfl rfl ?_
    refine e_bipush (v := 10) (p := 41) dX11_rests_39 (by decide) rfl ?_
    refine e_irem (p := 42) dX11_rests_41 (by decide) rfl ?_
    refine e_callS_int (p := 45) (k' := 1) (a := [.int v, .int ((nI j) / 10), .int ((nI j) - (nI j) / 10 * 10)]) (rr := []) dX11_rests_42 rfl rfl rfl rfl rfl (rc_st rfl) (Nat.le_of_ble_eq_true rfl) (Nat.le_of_ble_eq_true rfl) (by decide) x_isRest (Or.inl rfl) rfl ?_
    refine e_if_eq (t := 51) (p := 48) dX11_rests_45 (by decide) rfl rfl (fun hc45 => ?_) (fun hc45 => ?_)
    · skip
      refine e_iinc (ls1 := [.ref 0, .int v, .int acc, .int ((nI j) + 1)]) (p := 54) dX11_rests_51 rfl rfl rfl ?_
      refine e_goto (p := 27) dX11_rests_54 (by decide) rfl ?_
      rw [nI_1]
      exact Ev.res (by simp only [gN_s, rstC, hc45, bit, Int32.or_zero, Int32.add_zero, ↓reduceIte]) (x_rests_L ho hF hoF hC hW hm hS m (j + 1) acc  (by omega))
    · skip
      refine e_iinc (ls1 := [.ref 0, .int v, .int (acc + 1), .int (nI j)]) (p := 51) dX11_rests_48 rfl rfl rfl ?_
      refine e_iinc (ls1 := [.ref 0, .int v, .int (acc + 1), .int ((nI j) + 1)]) (p := 54) dX11_rests_51 rfl rfl rfl ?_
      refine e_goto (p := 27) dX11_rests_54 (by decide) rfl ?_
      rw [nI_1]
      exact Ev.res (by simp only [gN_s, rstC, hc45, bit, Int32.or_zero, Int32.add_zero, ↓reduceIte]) (x_rests_L ho hF hoF hC hW hm hS m (j + 1) (acc + 1)  (by omega))
set_option maxRecDepth 10000 in
theorem c_rests_no {I : Nat → Nat → Int32} {J : Nat → Nat → Int64} {F : Nat → Nat → Option Nat} {nc ns : Nat} {o : Nat} {D : oD} {s : Nat → Int32} (ho : isO o) (hF : RFok F) (hoF : F 0 2 = some o) (hC : oC I o D) (hW : WF D) (hm : mo I 42 s) (hS : WFs D s) {v : Int32} (ht : ¬ (eiS (toS D) (nuS v 0 99)) = 0) : Ev 2 mX11_rests 0 [.ref 0, .int v, .null, .null] [] ((SH, nc, ns), I, J, F) (some (.int (-1))) ((SH, nc, ns), hp_u I 0 10 (eiS (toS D) (nuS v 0 99)), J, F) := by
  have hD := hW.c
  have hH := hW.h
  have hT := hW.t
  have bt := hT.2
  obtain ⟨b0, b1, b2, b3, b4, b5, b6⟩ := hD.2
  refine e_aload_n (p := 1) dX11_rests_0 rfl rfl ?_
  refine e_aload_n (p := 2) dX11_rests_1 rfl rfl ?_
  refine e_callV_int (p := 5) (k' := 1) (a := [.ref 0]) (rr := [.ref 0]) dX11_rests_2 rfl rfl rfl rfl (rc_of rfl rfl (by decide) ⟨rfl, by decide⟩) (Nat.le_of_ble_eq_true rfl) (Nat.le_of_ble_eq_true rfl) (by decide) (x_ofOath ho hF hoF hC hW hm hS) (Or.inl rfl) rfl ?_
  refine e_iload_n (p := 6) dX11_rests_5 rfl rfl ?_
  refine e_iconst (v := 0) (p := 7) dX11_rests_6 (by decide) rfl ?_
  refine e_bipush (v := 99) (p := 9) dX11_rests_7 (by decide) rfl ?_
  refine e_callS_int (p := 12) (k' := 0) (a := [.int v, .int 0, .int 99]) (rr := [.int (toS D), .ref 0]) dX11_rests_9 rfl rfl rfl rfl rfl (rc_st rfl) (Nat.le_of_ble_eq_true rfl) (Nat.le_of_ble_eq_true rfl) (by decide) x_ofNumber (Or.inl rfl) rfl ?_
  refine e_callS_int (p := 15) (k' := 0) (a := [.int (toS D), .int (nuS v 0 99)]) (rr := [.ref 0]) dX11_rests_12 rfl rfl rfl rfl rfl (rc_st rfl) (Nat.le_of_ble_eq_true rfl) (Nat.le_of_ble_eq_true rfl) (by decide) x_either (Or.inl rfl) rfl ?_
  refine e_callV_int (p := 18) (k' := 0) (a := [.ref 0, .int (eiS (toS D) (nuS v 0 99))]) (rr := []) dX11_rests_15 rfl rfl rfl rfl (rc_of rfl rfl (by decide) ⟨rfl, by decide⟩) (Nat.le_of_ble_eq_true rfl) (Nat.le_of_ble_eq_true rfl) (by decide) x_refused (Or.inl rfl) rfl ?_
  refine e_if_eq (t := 23) (p := 21) dX11_rests_18 (by decide) rfl rfl (fun hc18 => absurd hc18 (rf_ne ht)) (fun hc18 => ?_)
  refine e_iconst (v := -1) (p := 22) dX11_rests_21 (by decide) rfl ?_
  exact e_iretE dX11_rests_22 rfl rfl (by decide) ⟨rfl, rfl⟩
set_option maxRecDepth 10000 in
theorem c_rests_ok {I : Nat → Nat → Int32} {J : Nat → Nat → Int64} {F : Nat → Nat → Option Nat} {nc ns : Nat} {o : Nat} {D : oD} {s : Nat → Int32} (ho : isO o) (hF : RFok F) (hoF : F 0 2 = some o) (hC : oC I o D) (hW : WF D) (hm : mo I 42 s) (hS : WFs D s) (ht1 : tol D = 1) {v : Nat} (hv : v ≤ 99)  : Ev 2 mX11_rests 0 [.ref 0, .int (nI v), .null, .null] [] ((SH, nc, ns), I, J, F) (some (.int (gN (rstC (nI v)) 0 100 0))) ((SH, nc, ns), hp_u I 0 10 0, J, F) := by
  have hD := hW.c
  have hH := hW.h
  have hT := hW.t
  have bt := hT.2
  obtain ⟨b0, b1, b2, b3, b4, b5, b6⟩ := hD.2
  refine e_aload_n (p := 1) dX11_rests_0 rfl rfl ?_
  refine e_aload_n (p := 2) dX11_rests_1 rfl rfl ?_
  refine e_callV_int (p := 5) (k' := 1) (a := [.ref 0]) (rr := [.ref 0]) dX11_rests_2 rfl rfl rfl rfl (rc_of rfl rfl (by decide) ⟨rfl, by decide⟩) (Nat.le_of_ble_eq_true rfl) (Nat.le_of_ble_eq_true rfl) (by decide) (Ev.i (to_1 ht1) (x_ofOath ho hF hoF hC hW hm hS)) (Or.inl rfl) rfl ?_
  refine e_iload_n (p := 6) dX11_rests_5 rfl rfl ?_
  refine e_iconst (v := 0) (p := 7) dX11_rests_6 (by decide) rfl ?_
  refine e_bipush (v := 99) (p := 9) dX11_rests_7 (by decide) rfl ?_
  refine e_callS_int (p := 12) (k' := 0) (a := [.int (nI v), .int 0, .int 99]) (rr := [.int 0, .ref 0]) dX11_rests_9 rfl rfl rfl rfl rfl (rc_st rfl) (Nat.le_of_ble_eq_true rfl) (Nat.le_of_ble_eq_true rfl) (by decide) (Ev.i (nu_ok (a := 0) (b := 99) (n := v) (by omega) (by omega) (by omega)) (x_ofNumber)) (Or.inl rfl) rfl ?_
  refine e_callS_int (p := 15) (k' := 0) (a := [.int 0, .int 0]) (rr := [.ref 0]) dX11_rests_12 rfl rfl rfl rfl rfl (rc_st rfl) (Nat.le_of_ble_eq_true rfl) (Nat.le_of_ble_eq_true rfl) (by decide) (Ev.i (show eiS 0 0 = 0 by decide) (x_either)) (Or.inl rfl) rfl ?_
  refine e_callV_int (p := 18) (k' := 0) (a := [.ref 0, .int 0]) (rr := []) dX11_rests_15 rfl rfl rfl rfl (rc_of rfl rfl (by decide) ⟨rfl, by decide⟩) (Nat.le_of_ble_eq_true rfl) (Nat.le_of_ble_eq_true rfl) (by decide) (Ev.i (show rfS 0 = 0 by decide) (x_refused)) (Or.inl rfl) rfl ?_
  refine e_if_eq (t := 23) (p := 21) dX11_rests_18 (by decide) rfl rfl (fun hc18 => ?_) (fun hc18 => absurd (by decide) hc18)
  refine e_iconst (v := 0) (p := 24) dX11_rests_23 (by decide) rfl ?_
  refine e_istore_n (ls1 := [.ref 0, .int (nI v), .int 0, .null]) (p := 25) dX11_rests_24 rfl rfl ?_
  refine e_iconst (v := 0) (p := 26) dX11_rests_25 (by decide) rfl ?_
  refine e_istore_n (ls1 := [.ref 0, .int (nI v), .int 0, .int 0]) (p := 27) dX11_rests_26 rfl rfl ?_
  exact x_rests_L ho hF hoF (oC_u hC ho (by decide)) hW (mo_u hm (by decide)) hS _ 0 _ (by omega)
set_option maxRecDepth 10000 in
theorem x_rest_L {I : Nat → Nat → Int32} {J : Nat → Nat → Int64} {F : Nat → Nat → Option Nat} {nc ns : Nat} {v : Int32} : ∀ (m j : Nat) , j + m = 100 → Ev 2 mX11_rest 25 [.ref 0, .int v, .int (nI j)] [] ((SH, nc, ns), I, J, F) (some (.int (rs1C v j m))) ((SH, nc, ns), I, J, F)
  | 0, j, hj => by
    refine e_iload_n (p := 26) dX11_rest_25 rfl rfl ?_
    refine e_bipush (v := 100) (p := 28) dX11_rest_26 (by decide) rfl ?_
    refine e_icmp_ge (t := 54) (p := 31) dX11_rest_28 (by decide) rfl rfl (fun hc28 => ?_) (fun hc28 => absurd (nI_le (a := 100) (b := j) (by omega) (by omega)) hc28)
    refine e_bipush (v := -2) (p := 56) dX11_rest_54 (by decide) rfl ?_
    exact e_iretE dX11_rest_56 rfl rfl (by decide) ⟨rfl, rfl⟩
  | m + 1, j, hj => by
    refine e_iload_n (p := 26) dX11_rest_25 rfl rfl ?_
    refine e_bipush (v := 100) (p := 28) dX11_rest_26 (by decide) rfl ?_
    refine e_icmp_ge (t := 54) (p := 31) dX11_rest_28 (by decide) rfl rfl (fun hc28 => absurd hc28 (nI_ge (a := j) (b := 100) (by omega) (by omega))) (fun hc28 => ?_)
    refine e_iload_n (p := 32) dX11_rest_31 rfl rfl ?_
    refine e_iload_n (p := 33) dX11_rest_32 rfl rfl ?_
    refine e_bipush (v := 10) (p := 35) dX11_rest_33 (by decide) rfl ?_
    refine e_idiv (p := 36) dX11_rest_35 (by decide) rfl ?_
    refine e_iload_n (p := 37) dX11_rest_36 rfl rfl ?_
    refine e_bipush (v := 10) (p := 39) dX11_rest_37 (by decide) rfl ?_
    refine e_irem (p := 40) dX11_rest_39 (by decide) rfl ?_
    refine e_callS_int (p := 43) (k' := 1) (a := [.int v, .int ((nI j) / 10), .int ((nI j) - (nI j) / 10 * 10)]) (rr := []) dX11_rest_40 rfl rfl rfl rfl rfl (rc_st rfl) (Nat.le_of_ble_eq_true rfl) (Nat.le_of_ble_eq_true rfl) (by decide) x_isRest (Or.inl rfl) rfl ?_
    refine e_if_eq (t := 48) (p := 46) dX11_rest_43 (by decide) rfl rfl (fun hc43 => ?_) (fun hc43 => ?_)
    · skip
      refine e_iinc (ls1 := [.ref 0, .int v, .int ((nI j) + 1)]) (p := 51) dX11_rest_48 rfl rfl rfl ?_
      refine e_goto (p := 25) dX11_rest_51 (by decide) rfl ?_
      rw [nI_1]
      exact Ev.res (by simp only [rs1C, hc43, ↓reduceIte]) (x_rest_L m (j + 1) (by omega))
    · skip
      refine e_iload_n (p := 47) dX11_rest_46 rfl rfl ?_
      exact e_iretE dX11_rest_47 rfl rfl (by decide) ⟨by simp only [rs1C, hc43, ↓reduceIte], rfl⟩
set_option maxRecDepth 10000 in
theorem c_rest_no {I : Nat → Nat → Int32} {J : Nat → Nat → Int64} {F : Nat → Nat → Option Nat} {nc ns : Nat} {o : Nat} {D : oD} {s : Nat → Int32} (ho : isO o) (hF : RFok F) (hoF : F 0 2 = some o) (hC : oC I o D) (hW : WF D) (hm : mo I 42 s) (hS : WFs D s) {v : Int32} (ht : ¬ (eiS (toS D) (nuS v 0 99)) = 0) : Ev 2 mX11_rest 0 [.ref 0, .int v, .null] [] ((SH, nc, ns), I, J, F) (some (.int (-1))) ((SH, nc, ns), hp_u I 0 10 (eiS (toS D) (nuS v 0 99)), J, F) := by
  have hD := hW.c
  have hH := hW.h
  have hT := hW.t
  have bt := hT.2
  obtain ⟨b0, b1, b2, b3, b4, b5, b6⟩ := hD.2
  refine e_aload_n (p := 1) dX11_rest_0 rfl rfl ?_
  refine e_aload_n (p := 2) dX11_rest_1 rfl rfl ?_
  refine e_callV_int (p := 5) (k' := 1) (a := [.ref 0]) (rr := [.ref 0]) dX11_rest_2 rfl rfl rfl rfl (rc_of rfl rfl (by decide) ⟨rfl, by decide⟩) (Nat.le_of_ble_eq_true rfl) (Nat.le_of_ble_eq_true rfl) (by decide) (x_ofOath ho hF hoF hC hW hm hS) (Or.inl rfl) rfl ?_
  refine e_iload_n (p := 6) dX11_rest_5 rfl rfl ?_
  refine e_iconst (v := 0) (p := 7) dX11_rest_6 (by decide) rfl ?_
  refine e_bipush (v := 99) (p := 9) dX11_rest_7 (by decide) rfl ?_
  refine e_callS_int (p := 12) (k' := 0) (a := [.int v, .int 0, .int 99]) (rr := [.int (toS D), .ref 0]) dX11_rest_9 rfl rfl rfl rfl rfl (rc_st rfl) (Nat.le_of_ble_eq_true rfl) (Nat.le_of_ble_eq_true rfl) (by decide) x_ofNumber (Or.inl rfl) rfl ?_
  refine e_callS_int (p := 15) (k' := 0) (a := [.int (toS D), .int (nuS v 0 99)]) (rr := [.ref 0]) dX11_rest_12 rfl rfl rfl rfl rfl (rc_st rfl) (Nat.le_of_ble_eq_true rfl) (Nat.le_of_ble_eq_true rfl) (by decide) x_either (Or.inl rfl) rfl ?_
  refine e_callV_int (p := 18) (k' := 0) (a := [.ref 0, .int (eiS (toS D) (nuS v 0 99))]) (rr := []) dX11_rest_15 rfl rfl rfl rfl (rc_of rfl rfl (by decide) ⟨rfl, by decide⟩) (Nat.le_of_ble_eq_true rfl) (Nat.le_of_ble_eq_true rfl) (by decide) x_refused (Or.inl rfl) rfl ?_
  refine e_if_eq (t := 23) (p := 21) dX11_rest_18 (by decide) rfl rfl (fun hc18 => absurd hc18 (rf_ne ht)) (fun hc18 => ?_)
  refine e_iconst (v := -1) (p := 22) dX11_rest_21 (by decide) rfl ?_
  exact e_iretE dX11_rest_22 rfl rfl (by decide) ⟨rfl, rfl⟩
set_option maxRecDepth 10000 in
theorem c_rest_ok {I : Nat → Nat → Int32} {J : Nat → Nat → Int64} {F : Nat → Nat → Option Nat} {nc ns : Nat} {o : Nat} {D : oD} {s : Nat → Int32} (ho : isO o) (hF : RFok F) (hoF : F 0 2 = some o) (hC : oC I o D) (hW : WF D) (hm : mo I 42 s) (hS : WFs D s) (ht1 : tol D = 1) {v : Nat} (hv : v ≤ 99)  : Ev 2 mX11_rest 0 [.ref 0, .int (nI v), .null] [] ((SH, nc, ns), I, J, F) (some (.int (rs1C (nI v) 0 100))) ((SH, nc, ns), hp_u I 0 10 0, J, F) := by
  have hD := hW.c
  have hH := hW.h
  have hT := hW.t
  have bt := hT.2
  obtain ⟨b0, b1, b2, b3, b4, b5, b6⟩ := hD.2
  refine e_aload_n (p := 1) dX11_rest_0 rfl rfl ?_
  refine e_aload_n (p := 2) dX11_rest_1 rfl rfl ?_
  refine e_callV_int (p := 5) (k' := 1) (a := [.ref 0]) (rr := [.ref 0]) dX11_rest_2 rfl rfl rfl rfl (rc_of rfl rfl (by decide) ⟨rfl, by decide⟩) (Nat.le_of_ble_eq_true rfl) (Nat.le_of_ble_eq_true rfl) (by decide) (Ev.i (to_1 ht1) (x_ofOath ho hF hoF hC hW hm hS)) (Or.inl rfl) rfl ?_
  refine e_iload_n (p := 6) dX11_rest_5 rfl rfl ?_
  refine e_iconst (v := 0) (p := 7) dX11_rest_6 (by decide) rfl ?_
  refine e_bipush (v := 99) (p := 9) dX11_rest_7 (by decide) rfl ?_
  refine e_callS_int (p := 12) (k' := 0) (a := [.int (nI v), .int 0, .int 99]) (rr := [.int 0, .ref 0]) dX11_rest_9 rfl rfl rfl rfl rfl (rc_st rfl) (Nat.le_of_ble_eq_true rfl) (Nat.le_of_ble_eq_true rfl) (by decide) (Ev.i (nu_ok (a := 0) (b := 99) (n := v) (by omega) (by omega) (by omega)) (x_ofNumber)) (Or.inl rfl) rfl ?_
  refine e_callS_int (p := 15) (k' := 0) (a := [.int 0, .int 0]) (rr := [.ref 0]) dX11_rest_12 rfl rfl rfl rfl rfl (rc_st rfl) (Nat.le_of_ble_eq_true rfl) (Nat.le_of_ble_eq_true rfl) (by decide) (Ev.i (show eiS 0 0 = 0 by decide) (x_either)) (Or.inl rfl) rfl ?_
  refine e_callV_int (p := 18) (k' := 0) (a := [.ref 0, .int 0]) (rr := []) dX11_rest_15 rfl rfl rfl rfl (rc_of rfl rfl (by decide) ⟨rfl, by decide⟩) (Nat.le_of_ble_eq_true rfl) (Nat.le_of_ble_eq_true rfl) (by decide) (Ev.i (show rfS 0 = 0 by decide) (x_refused)) (Or.inl rfl) rfl ?_
  refine e_if_eq (t := 23) (p := 21) dX11_rest_18 (by decide) rfl rfl (fun hc18 => ?_) (fun hc18 => absurd (by decide) hc18)
  refine e_iconst (v := 0) (p := 24) dX11_rest_23 (by decide) rfl ?_
  refine e_istore_n (ls1 := [.ref 0, .int (nI v), .int 0]) (p := 25) dX11_rest_24 rfl rfl ?_
  exact x_rest_L _ 0 (by omega)
set_option maxRecDepth 10000 in
theorem c_service_no {I : Nat → Nat → Int32} {J : Nat → Nat → Int64} {F : Nat → Nat → Option Nat} {nc ns : Nat} {o : Nat} {D : oD} {s : Nat → Int32} (ho : isO o) (hF : RFok F) (hoF : F 0 2 = some o) (hC : oC I o D) (hW : WF D) (hm : mo I 42 s) (hS : WFs D s) {v l : Int32} (ht : ¬ (eiS (ixS v (dN D 5)) (nuS l 0 30)) = 0) : Ev 2 mX11_service 0 [.ref 0, .int v, .int l] [] ((SH, nc, ns), I, J, F) (some (.int (-1))) ((SH, nc, ns), hp_u I 0 10 (eiS (ixS v (dN D 5)) (nuS l 0 30)), J, F) := by
  have hD := hW.c
  have hH := hW.h
  have hT := hW.t
  have bt := hT.2
  obtain ⟨b0, b1, b2, b3, b4, b5, b6⟩ := hD.2
  refine e_aload_n (p := 1) dX11_service_0 rfl rfl ?_
  refine e_aload_n (p := 2) dX11_service_1 rfl rfl ?_
  refine e_iload_n (p := 3) dX11_service_2 rfl rfl ?_
  refine e_callV_int (p := 6) (k' := 1) (a := [.ref 0, .int v]) (rr := [.ref 0]) dX11_service_3 rfl rfl rfl rfl (rc_of rfl rfl (by decide) ⟨rfl, by decide⟩) (Nat.le_of_ble_eq_true rfl) (Nat.le_of_ble_eq_true rfl) (by decide) (x_ofHand ho hF hoF hC hW hm hS) (Or.inl rfl) rfl ?_
  refine e_aload_n (p := 7) dX11_service_6 rfl rfl ?_
  refine e_iload_n (p := 8) dX11_service_7 rfl rfl ?_
  refine e_callV_int (p := 11) (k' := 1) (a := [.ref 0, .int l]) (rr := [.int (ixS v (dN D 5)), .ref 0]) dX11_service_8 rfl rfl rfl rfl (rc_of rfl rfl (by decide) ⟨rfl, by decide⟩) (Nat.le_of_ble_eq_true rfl) (Nat.le_of_ble_eq_true rfl) (by decide) x_ofLanding (Or.inl rfl) rfl ?_
  refine e_callS_int (p := 14) (k' := 0) (a := [.int (ixS v (dN D 5)), .int (nuS l 0 30)]) (rr := [.ref 0]) dX11_service_11 rfl rfl rfl rfl rfl (rc_st rfl) (Nat.le_of_ble_eq_true rfl) (Nat.le_of_ble_eq_true rfl) (by decide) x_either (Or.inl rfl) rfl ?_
  refine e_callV_int (p := 17) (k' := 0) (a := [.ref 0, .int (eiS (ixS v (dN D 5)) (nuS l 0 30))]) (rr := []) dX11_service_14 rfl rfl rfl rfl (rc_of rfl rfl (by decide) ⟨rfl, by decide⟩) (Nat.le_of_ble_eq_true rfl) (Nat.le_of_ble_eq_true rfl) (by decide) x_refused (Or.inl rfl) rfl ?_
  refine e_if_eq (t := 22) (p := 20) dX11_service_17 (by decide) rfl rfl (fun hc17 => absurd hc17 (rf_ne ht)) (fun hc17 => ?_)
  refine e_iconst (v := -1) (p := 21) dX11_service_20 (by decide) rfl ?_
  exact e_iretE dX11_service_21 rfl rfl (by decide) ⟨rfl, rfl⟩
set_option maxRecDepth 10000 in
theorem c_service_ok {I : Nat → Nat → Int32} {J : Nat → Nat → Int64} {F : Nat → Nat → Option Nat} {nc ns : Nat} {o : Nat} {D : oD} {s : Nat → Int32} (ho : isO o) (hF : RFok F) (hoF : F 0 2 = some o) (hC : oC I o D) (hW : WF D) (hm : mo I 42 s) (hS : WFs D s) {k : Nat} (hk : k < dN D 5) {l : Nat} (hl : l ≤ 30)  : Ev 2 mX11_service 0 [.ref 0, .int (nI k), .int (nI l)] [] ((SH, nc, ns), I, J, F) (some (.int (servedS D k (nI l * D 0 0)))) ((SH, nc, ns), hp_u I 0 10 0, J, F) := by
  have hD := hW.c
  have hH := hW.h
  have hT := hW.t
  have bt := hT.2
  obtain ⟨b0, b1, b2, b3, b4, b5, b6⟩ := hD.2
  refine e_aload_n (p := 1) dX11_service_0 rfl rfl ?_
  refine e_aload_n (p := 2) dX11_service_1 rfl rfl ?_
  refine e_iload_n (p := 3) dX11_service_2 rfl rfl ?_
  refine e_callV_int (p := 6) (k' := 1) (a := [.ref 0, .int (nI k)]) (rr := [.ref 0]) dX11_service_3 rfl rfl rfl rfl (rc_of rfl rfl (by decide) ⟨rfl, by decide⟩) (Nat.le_of_ble_eq_true rfl) (Nat.le_of_ble_eq_true rfl) (by decide) (Ev.i (ix_ok (n := dN D 5) (by omega) (by omega)) (x_ofHand ho hF hoF hC hW hm hS)) (Or.inl rfl) rfl ?_
  refine e_aload_n (p := 7) dX11_service_6 rfl rfl ?_
  refine e_iload_n (p := 8) dX11_service_7 rfl rfl ?_
  refine e_callV_int (p := 11) (k' := 1) (a := [.ref 0, .int (nI l)]) (rr := [.int 0, .ref 0]) dX11_service_8 rfl rfl rfl rfl (rc_of rfl rfl (by decide) ⟨rfl, by decide⟩) (Nat.le_of_ble_eq_true rfl) (Nat.le_of_ble_eq_true rfl) (by decide) (Ev.i (nu_ok (a := 0) (b := 30) (n := l) (by omega) (by omega) (by omega)) (x_ofLanding)) (Or.inl rfl) rfl ?_
  refine e_callS_int (p := 14) (k' := 0) (a := [.int 0, .int 0]) (rr := [.ref 0]) dX11_service_11 rfl rfl rfl rfl rfl (rc_st rfl) (Nat.le_of_ble_eq_true rfl) (Nat.le_of_ble_eq_true rfl) (by decide) (Ev.i (show eiS 0 0 = 0 by decide) (x_either)) (Or.inl rfl) rfl ?_
  refine e_callV_int (p := 17) (k' := 0) (a := [.ref 0, .int 0]) (rr := []) dX11_service_14 rfl rfl rfl rfl (rc_of rfl rfl (by decide) ⟨rfl, by decide⟩) (Nat.le_of_ble_eq_true rfl) (Nat.le_of_ble_eq_true rfl) (by decide) (Ev.i (show rfS 0 = 0 by decide) (x_refused)) (Or.inl rfl) rfl ?_
  refine e_if_eq (t := 22) (p := 20) dX11_service_17 (by decide) rfl rfl (fun hc17 => ?_) (fun hc17 => absurd (by decide) hc17)
  refine e_aload_n (p := 23) dX11_service_22 rfl rfl ?_
  refine e_getR (c := 10) (j := 2) (n := 13) (b := o) (p := 26) dX11_service_23 rfl rfl (by decide) (by decide) rfl hoF rfl ?_
  refine e_iload_n (p := 27) dX11_service_26 rfl rfl ?_
  refine e_iload_n (p := 28) dX11_service_27 rfl rfl ?_
  refine e_aload_n (p := 29) dX11_service_28 rfl rfl ?_
  refine e_getR (c := 10) (j := 2) (n := 13) (b := o) (p := 32) dX11_service_29 rfl rfl (by decide) (by decide) rfl hoF rfl ?_
  refine f_getI (c := 4) (j := 0) (n := 18) (v := D 0 0) (p := 35) dX11_service_32 rfl (s_o ho) (l_o0 ho) (by decide) (Or.inl rfl) (oC_u hC ho (by decide)).1 rfl ?_
  refine e_imul (p := 36) dX11_service_35 rfl ?_
  refine e_callV_int (p := 39) (k' := 0) (a := [.ref o, .int (nI k), .int ((nI l) * (D 0 0))]) (rr := []) dX11_service_36 rfl rfl rfl rfl (rc_of rfl (s_o ho) (l_o0 ho) ⟨rfl, by decide⟩) (Nat.le_of_ble_eq_true rfl) (Nat.le_of_ble_eq_true rfl) (by decide) (x_servedIn ho hF (oC_u hC ho (by decide)) hW.c (by omega)) (Or.inl rfl) rfl ?_
  exact e_iretE dX11_service_39 rfl rfl (by decide) ⟨rfl, rfl⟩
set_option maxRecDepth 10000 in
theorem x_judge_L {I : Nat → Nat → Int32} {J : Nat → Nat → Int64} {F : Nat → Nat → Option Nat} {nc ns : Nat} {o : Nat} {D : oD} {s : Nat → Int32} (ho : isO o) (hF : RFok F) (hoF : F 0 2 = some o) (hC : oC I o D) (hW : WF D) (hm : mo I 42 s) (hS : WFs D s)  : ∀ (m j : Nat) , j + m = dN D 6 → Ev 2 mX11_judge 15 [.ref 0, .int (nI j)] [] ((SH, nc, ns), I, J, F) (some (.int (judC D j m))) ((SH, nc, ns), I, J, F)
  | 0, j, hj => by
    have hD := hW.c
    have hH := hW.h
    have hT := hW.t
    have bt := hT.2
    obtain ⟨b0, b1, b2, b3, b4, b5, b6⟩ := hD.2
    refine e_iload_n (p := 16) dX11_judge_15 rfl rfl ?_
    refine e_aload_n (p := 17) dX11_judge_16 rfl rfl ?_
    refine e_getR (c := 10) (j := 2) (n := 13) (b := o) (p := 20) dX11_judge_17 rfl rfl (by decide) (by decide) rfl hoF rfl ?_
    refine e_getR (c := 4) (j := 2) (n := 18) (b := (o + 1)) (p := 23) dX11_judge_20 rfl (s_o ho) (l_o0 ho) (by decide) rfl (r_o2 hF ho) rfl ?_
    refine e_bipush (v := 6) (p := 25) dX11_judge_23 (by decide) rfl ?_
    refine f_iald (n := 7) (i := 6) (v := nI (dN D 6)) (p := 26) dX11_judge_25 (s_o1 ho) (l_o ho 1 (by decide)) (by decide) (by decide) (cN hC hD (by decide)) rfl ?_
    refine e_icmp_ge (t := 48) (p := 29) dX11_judge_26 (by decide) rfl rfl (fun hc26 => ?_) (fun hc26 => absurd (nle (by omega) (by omega)) hc26)
    refine e_bipush (v := -2) (p := 50) dX11_judge_48 (by decide) rfl ?_
    exact e_iretE dX11_judge_50 rfl rfl (by decide) ⟨rfl, rfl⟩
  | m + 1, j, hj => by
    have hD := hW.c
    have hH := hW.h
    have hT := hW.t
    have bt := hT.2
    obtain ⟨b0, b1, b2, b3, b4, b5, b6⟩ := hD.2
    refine e_iload_n (p := 16) dX11_judge_15 rfl rfl ?_
    refine e_aload_n (p := 17) dX11_judge_16 rfl rfl ?_
    refine e_getR (c := 10) (j := 2) (n := 13) (b := o) (p := 20) dX11_judge_17 rfl rfl (by decide) (by decide) rfl hoF rfl ?_
    refine e_getR (c := 4) (j := 2) (n := 18) (b := (o + 1)) (p := 23) dX11_judge_20 rfl (s_o ho) (l_o0 ho) (by decide) rfl (r_o2 hF ho) rfl ?_
    refine e_bipush (v := 6) (p := 25) dX11_judge_23 (by decide) rfl ?_
    refine f_iald (n := 7) (i := 6) (v := nI (dN D 6)) (p := 26) dX11_judge_25 (s_o1 ho) (l_o ho 1 (by decide)) (by decide) (by decide) (cN hC hD (by decide)) rfl ?_
    refine e_icmp_ge (t := 48) (p := 29) dX11_judge_26 (by decide) rfl rfl (fun hc26 => absurd hc26 (nge (by omega) (by omega))) (fun hc26 => ?_)
    refine e_aload_n (p := 30) dX11_judge_29 rfl rfl ?_
    refine e_getR (c := 10) (j := 2) (n := 13) (b := o) (p := 33) dX11_judge_30 rfl rfl (by decide) (by decide) rfl hoF rfl ?_
    refine e_iload_n (p := 34) dX11_judge_33 rfl rfl ?_
    refine e_callV_int (p := 37) (k' := 0) (a := [.ref o, .int (nI j)]) (rr := []) dX11_judge_34 rfl rfl rfl rfl (rc_of rfl (s_o ho) (l_o0 ho) ⟨rfl, by decide⟩) (Nat.le_of_ble_eq_true rfl) (Nat.le_of_ble_eq_true rfl) (by decide) (x_womenFitting ho hF hC hW.c (by omega)) (Or.inl rfl) rfl ?_
    refine e_if_ne (t := 42) (p := 40) dX11_judge_37 (by decide) rfl rfl (fun hc37 => ?_) (fun hc37 => ?_)
    · skip
      refine e_iinc (ls1 := [.ref 0, .int ((nI j) + 1)]) (p := 45) dX11_judge_42 rfl rfl rfl ?_
      refine e_goto (p := 15) dX11_judge_45 (by decide) rfl ?_
      rw [nI_1]
      exact Ev.res (by simp only [judC, hc37, ↓reduceIte]) (x_judge_L ho hF hoF hC hW hm hS m (j + 1) (by omega))
    · skip
      refine e_iload_n (p := 41) dX11_judge_40 rfl rfl ?_
      exact e_iretE dX11_judge_41 rfl rfl (by decide) ⟨by simp only [judC, hc37, ↓reduceIte], rfl⟩
set_option maxRecDepth 10000 in
theorem c_judge_no {I : Nat → Nat → Int32} {J : Nat → Nat → Int64} {F : Nat → Nat → Option Nat} {nc ns : Nat} {o : Nat} {D : oD} {s : Nat → Int32} (ho : isO o) (hF : RFok F) (hoF : F 0 2 = some o) (hC : oC I o D) (hW : WF D) (hm : mo I 42 s) (hS : WFs D s) (ht : ¬ (toS D) = 0) : Ev 2 mX11_judge 0 [.ref 0, .null] [] ((SH, nc, ns), I, J, F) (some (.int (-1))) ((SH, nc, ns), hp_u I 0 10 (toS D), J, F) := by
  have hD := hW.c
  have hH := hW.h
  have hT := hW.t
  have bt := hT.2
  obtain ⟨b0, b1, b2, b3, b4, b5, b6⟩ := hD.2
  refine e_aload_n (p := 1) dX11_judge_0 rfl rfl ?_
  refine e_aload_n (p := 2) dX11_judge_1 rfl rfl ?_
  refine e_callV_int (p := 5) (k' := 1) (a := [.ref 0]) (rr := [.ref 0]) dX11_judge_2 rfl rfl rfl rfl (rc_of rfl rfl (by decide) ⟨rfl, by decide⟩) (Nat.le_of_ble_eq_true rfl) (Nat.le_of_ble_eq_true rfl) (by decide) (x_ofOath ho hF hoF hC hW hm hS) (Or.inl rfl) rfl ?_
  refine e_callV_int (p := 8) (k' := 0) (a := [.ref 0, .int (toS D)]) (rr := []) dX11_judge_5 rfl rfl rfl rfl (rc_of rfl rfl (by decide) ⟨rfl, by decide⟩) (Nat.le_of_ble_eq_true rfl) (Nat.le_of_ble_eq_true rfl) (by decide) x_refused (Or.inl rfl) rfl ?_
  refine e_if_eq (t := 13) (p := 11) dX11_judge_8 (by decide) rfl rfl (fun hc8 => absurd hc8 (rf_ne ht)) (fun hc8 => ?_)
  refine e_iconst (v := -1) (p := 12) dX11_judge_11 (by decide) rfl ?_
  exact e_iretE dX11_judge_12 rfl rfl (by decide) ⟨rfl, rfl⟩
set_option maxRecDepth 10000 in
theorem c_judge_ok {I : Nat → Nat → Int32} {J : Nat → Nat → Int64} {F : Nat → Nat → Option Nat} {nc ns : Nat} {o : Nat} {D : oD} {s : Nat → Int32} (ho : isO o) (hF : RFok F) (hoF : F 0 2 = some o) (hC : oC I o D) (hW : WF D) (hm : mo I 42 s) (hS : WFs D s) (ht1 : tol D = 1)  : Ev 2 mX11_judge 0 [.ref 0, .null] [] ((SH, nc, ns), I, J, F) (some (.int (judC D 0 (dN D 6)))) ((SH, nc, ns), hp_u I 0 10 0, J, F) := by
  have hD := hW.c
  have hH := hW.h
  have hT := hW.t
  have bt := hT.2
  obtain ⟨b0, b1, b2, b3, b4, b5, b6⟩ := hD.2
  refine e_aload_n (p := 1) dX11_judge_0 rfl rfl ?_
  refine e_aload_n (p := 2) dX11_judge_1 rfl rfl ?_
  refine e_callV_int (p := 5) (k' := 1) (a := [.ref 0]) (rr := [.ref 0]) dX11_judge_2 rfl rfl rfl rfl (rc_of rfl rfl (by decide) ⟨rfl, by decide⟩) (Nat.le_of_ble_eq_true rfl) (Nat.le_of_ble_eq_true rfl) (by decide) (Ev.i (to_1 ht1) (x_ofOath ho hF hoF hC hW hm hS)) (Or.inl rfl) rfl ?_
  refine e_callV_int (p := 8) (k' := 0) (a := [.ref 0, .int 0]) (rr := []) dX11_judge_5 rfl rfl rfl rfl (rc_of rfl rfl (by decide) ⟨rfl, by decide⟩) (Nat.le_of_ble_eq_true rfl) (Nat.le_of_ble_eq_true rfl) (by decide) (Ev.i (show rfS 0 = 0 by decide) (x_refused)) (Or.inl rfl) rfl ?_
  refine e_if_eq (t := 13) (p := 11) dX11_judge_8 (by decide) rfl rfl (fun hc8 => ?_) (fun hc8 => absurd (by decide) hc8)
  refine e_iconst (v := 0) (p := 14) dX11_judge_13 (by decide) rfl ?_
  refine e_istore_n (ls1 := [.ref 0, .int 0]) (p := 15) dX11_judge_14 rfl rfl ?_
  exact x_judge_L ho hF hoF (oC_u hC ho (by decide)) hW (mo_u hm (by decide)) hS _ 0  (by omega)
set_option maxRecDepth 10000 in
theorem c_seed_no {I : Nat → Nat → Int32} {J : Nat → Nat → Int64} {F : Nat → Nat → Option Nat} {nc ns : Nat} {o : Nat} {D : oD} {s : Nat → Int32} (ho : isO o) (hF : RFok F) (hoF : F 0 2 = some o) (hC : oC I o D) (hW : WF D) (hm : mo I 42 s) (hS : WFs D s) {v : Int32} (ht : ¬ (eiS (toS D) (nuS v 0 65536)) = 0) : Ev 2 mX11_seed 0 [.ref 0, .int v] [] ((SH, nc, ns), I, J, F) (some (.int 0)) ((SH, nc, ns), hp_u I 0 10 (eiS (toS D) (nuS v 0 65536)), J, F) := by
  have hD := hW.c
  have hH := hW.h
  have hT := hW.t
  have bt := hT.2
  obtain ⟨b0, b1, b2, b3, b4, b5, b6⟩ := hD.2
  refine e_aload_n (p := 1) dX11_seed_0 rfl rfl ?_
  refine e_aload_n (p := 2) dX11_seed_1 rfl rfl ?_
  refine e_callV_int (p := 5) (k' := 1) (a := [.ref 0]) (rr := [.ref 0]) dX11_seed_2 rfl rfl rfl rfl (rc_of rfl rfl (by decide) ⟨rfl, by decide⟩) (Nat.le_of_ble_eq_true rfl) (Nat.le_of_ble_eq_true rfl) (by decide) (x_ofOath ho hF hoF hC hW hm hS) (Or.inl rfl) rfl ?_
  refine e_iload_n (p := 6) dX11_seed_5 rfl rfl ?_
  refine e_iconst (v := 0) (p := 7) dX11_seed_6 (by decide) rfl ?_
  refine e_ldcwI (p := 10) dX11_seed_7 rfl rfl ?_
  refine e_callS_int (p := 13) (k' := 0) (a := [.int v, .int 0, .int 65536]) (rr := [.int (toS D), .ref 0]) dX11_seed_10 rfl rfl rfl rfl rfl (rc_st rfl) (Nat.le_of_ble_eq_true rfl) (Nat.le_of_ble_eq_true rfl) (by decide) x_ofNumber (Or.inl rfl) rfl ?_
  refine e_callS_int (p := 16) (k' := 0) (a := [.int (toS D), .int (nuS v 0 65536)]) (rr := [.ref 0]) dX11_seed_13 rfl rfl rfl rfl rfl (rc_st rfl) (Nat.le_of_ble_eq_true rfl) (Nat.le_of_ble_eq_true rfl) (by decide) x_either (Or.inl rfl) rfl ?_
  refine e_callV_int (p := 19) (k' := 0) (a := [.ref 0, .int (eiS (toS D) (nuS v 0 65536))]) (rr := []) dX11_seed_16 rfl rfl rfl rfl (rc_of rfl rfl (by decide) ⟨rfl, by decide⟩) (Nat.le_of_ble_eq_true rfl) (Nat.le_of_ble_eq_true rfl) (by decide) x_refused (Or.inl rfl) rfl ?_
  refine e_if_eq (t := 24) (p := 22) dX11_seed_19 (by decide) rfl rfl (fun hc19 => absurd hc19 (rf_ne ht)) (fun hc19 => ?_)
  refine e_iconst (v := 0) (p := 23) dX11_seed_22 (by decide) rfl ?_
  exact e_iretE dX11_seed_23 rfl (by decide) (by decide) ⟨rfl, rfl⟩
set_option maxRecDepth 10000 in
theorem c_seed_ok {I : Nat → Nat → Int32} {J : Nat → Nat → Int64} {F : Nat → Nat → Option Nat} {nc ns : Nat} {o : Nat} {D : oD} {s : Nat → Int32} (ho : isO o) (hF : RFok F) (hoF : F 0 2 = some o) (hC : oC I o D) (hW : WF D) (hm : mo I 42 s) (hS : WFs D s) (ht1 : tol D = 1) {v : Nat} (hv : v ≤ 65536)  : Ev 2 mX11_seed 0 [.ref 0, .int (nI v)] [] ((SH, nc, ns), I, J, F) (some (.int 1)) ((SH, nc, ns), hp_u (hp_u I 0 10 0) 42 5 (nI v), J, F) := by
  have hD := hW.c
  have hH := hW.h
  have hT := hW.t
  have bt := hT.2
  obtain ⟨b0, b1, b2, b3, b4, b5, b6⟩ := hD.2
  refine e_aload_n (p := 1) dX11_seed_0 rfl rfl ?_
  refine e_aload_n (p := 2) dX11_seed_1 rfl rfl ?_
  refine e_callV_int (p := 5) (k' := 1) (a := [.ref 0]) (rr := [.ref 0]) dX11_seed_2 rfl rfl rfl rfl (rc_of rfl rfl (by decide) ⟨rfl, by decide⟩) (Nat.le_of_ble_eq_true rfl) (Nat.le_of_ble_eq_true rfl) (by decide) (Ev.i (to_1 ht1) (x_ofOath ho hF hoF hC hW hm hS)) (Or.inl rfl) rfl ?_
  refine e_iload_n (p := 6) dX11_seed_5 rfl rfl ?_
  refine e_iconst (v := 0) (p := 7) dX11_seed_6 (by decide) rfl ?_
  refine e_ldcwI (p := 10) dX11_seed_7 rfl rfl ?_
  refine e_callS_int (p := 13) (k' := 0) (a := [.int (nI v), .int 0, .int 65536]) (rr := [.int 0, .ref 0]) dX11_seed_10 rfl rfl rfl rfl rfl (rc_st rfl) (Nat.le_of_ble_eq_true rfl) (Nat.le_of_ble_eq_true rfl) (by decide) (Ev.i (nu_ok (a := 0) (b := 65536) (n := v) (by omega) (by omega) (by omega)) (x_ofNumber)) (Or.inl rfl) rfl ?_
  refine e_callS_int (p := 16) (k' := 0) (a := [.int 0, .int 0]) (rr := [.ref 0]) dX11_seed_13 rfl rfl rfl rfl rfl (rc_st rfl) (Nat.le_of_ble_eq_true rfl) (Nat.le_of_ble_eq_true rfl) (by decide) (Ev.i (show eiS 0 0 = 0 by decide) (x_either)) (Or.inl rfl) rfl ?_
  refine e_callV_int (p := 19) (k' := 0) (a := [.ref 0, .int 0]) (rr := []) dX11_seed_16 rfl rfl rfl rfl (rc_of rfl rfl (by decide) ⟨rfl, by decide⟩) (Nat.le_of_ble_eq_true rfl) (Nat.le_of_ble_eq_true rfl) (by decide) (Ev.i (show rfS 0 = 0 by decide) (x_refused)) (Or.inl rfl) rfl ?_
  refine e_if_eq (t := 24) (p := 22) dX11_seed_19 (by decide) rfl rfl (fun hc19 => ?_) (fun hc19 => absurd (by decide) hc19)
  refine e_aload_n (p := 25) dX11_seed_24 rfl rfl ?_
  refine e_getR (c := 10) (j := 3) (n := 13) (b := 42) (p := 28) dX11_seed_25 rfl rfl (by decide) (by decide) rfl (r_0_3 hF) rfl ?_
  refine e_iload_n (p := 29) dX11_seed_28 rfl rfl ?_
  refine e_putI (c := 3) (j := 5) (n := 6)  (p := 32) dX11_seed_29 rfl rfl (by decide) (by decide) rfl rfl rfl ?_
  refine e_iconst (v := 1) (p := 33) dX11_seed_32 (by decide) rfl ?_
  exact e_iretE dX11_seed_33 rfl (by decide) (by decide) ⟨rfl, rfl⟩
set_option maxRecDepth 10000 in
theorem c_fault {I : Nat → Nat → Int32} {J : Nat → Nat → Int64} {F : Nat → Nat → Option Nat} {nc ns : Nat}  : Ev 0 mX11_fault 0 [.ref 0] [] ((SH, nc, ns), I, J, F) (some (.int (I 0 11))) ((SH, nc, ns), I, J, F) := by
  refine e_aload_n (p := 1) dX11_fault_0 rfl rfl ?_
  refine f_getI (c := 10) (j := 11) (n := 13) (v := I 0 11) (p := 4) dX11_fault_1 rfl rfl (by decide) (by decide) (Or.inl rfl) rfl rfl ?_
  exact e_iretE dX11_fault_4 rfl rfl (by decide) ⟨rfl, rfl⟩
set_option maxRecDepth 10000 in
theorem c_trouble {I : Nat → Nat → Int32} {J : Nat → Nat → Int64} {F : Nat → Nat → Option Nat} {nc ns : Nat}  : Ev 0 mX11_trouble 0 [.ref 0] [] ((SH, nc, ns), I, J, F) (some (.int (I 0 10))) ((SH, nc, ns), I, J, F) := by
  refine e_aload_n (p := 1) dX11_trouble_0 rfl rfl ?_
  refine f_getI (c := 10) (j := 10) (n := 13) (v := I 0 10) (p := 4) dX11_trouble_1 rfl rfl (by decide) (by decide) (Or.inl rfl) rfl rfl ?_
  exact e_iretE dX11_trouble_4 rfl rfl (by decide) ⟨rfl, rfl⟩
set_option maxRecDepth 10000 in
theorem c_where {I : Nat → Nat → Int32} {J : Nat → Nat → Int64} {F : Nat → Nat → Option Nat} {nc ns : Nat}  : Ev 0 mX11_where 0 [.ref 0] [] ((SH, nc, ns), I, J, F) (some (.int (if I 0 10 = 4 then I 0 12 else -1))) ((SH, nc, ns), I, J, F) := by
  refine e_aload_n (p := 1) dX11_where_0 rfl rfl ?_
  refine f_getI (c := 10) (j := 10) (n := 13) (v := I 0 10) (p := 4) dX11_where_1 rfl rfl (by decide) (by decide) (Or.inl rfl) rfl rfl ?_
  refine e_iconst (v := 4) (p := 5) dX11_where_4 (by decide) rfl ?_
  refine e_icmp_ne (t := 15) (p := 8) dX11_where_5 (by decide) rfl rfl (fun hc5 => ?_) (fun hc5 => ?_)
  · skip
    refine e_iconst (v := -1) (p := 16) dX11_where_15 (by decide) rfl ?_
    exact e_iretE dX11_where_16 rfl rfl (by decide) ⟨by simp only [hc5, ↓reduceIte], rfl⟩
  · skip
    refine e_aload_n (p := 9) dX11_where_8 rfl rfl ?_
    refine f_getI (c := 10) (j := 12) (n := 13) (v := I 0 12) (p := 12) dX11_where_9 rfl rfl (by decide) (by decide) (Or.inl rfl) rfl rfl ?_
    refine e_goto (p := 16) dX11_where_12 (by decide) rfl ?_
    exact e_iretE dX11_where_16 rfl rfl (by decide) ⟨by simp only [hc5, ↓reduceIte], rfl⟩
set_option maxRecDepth 10000 in
theorem c_size_0 {I : Nat → Nat → Int32} {J : Nat → Nat → Int64} {F : Nat → Nat → Option Nat} {nc ns : Nat} {o : Nat} {D : oD} {s : Nat → Int32} (ho : isO o) (hF : RFok F) (hoF : F 0 2 = some o) (hC : oC I o D) (hW : WF D) (hm : mo I 42 s) (hS : WFs D s)  : Ev 1 mX11_size 0 [.ref 0, .int 0] [] ((SH, nc, ns), I, J, F) (some (.int (D 0 0))) ((SH, nc, ns), I, J, F) := by
  have hD := hW.c
  have hH := hW.h
  have hT := hW.t
  have bt := hT.2
  obtain ⟨b0, b1, b2, b3, b4, b5, b6⟩ := hD.2
  refine e_iload_n (p := 1) dX11_size_0 rfl rfl ?_
  refine e_iconst (v := 2) (p := 2) dX11_size_1 (by decide) rfl ?_
  refine e_icmp_lt (t := 23) (p := 5) dX11_size_2 (by decide) rfl rfl (fun hc2 => ?_) (fun hc2 => absurd (by decide) hc2)
  refine e_iload_n (p := 24) dX11_size_23 rfl rfl ?_
  refine e_swIn (p := 104) dX11_size_24 (by decide) rfl (by decide) rfl ?_
  refine e_aload_n (p := 105) dX11_size_104 rfl rfl ?_
  refine e_getR (c := 10) (j := 2) (n := 13) (b := o) (p := 108) dX11_size_105 rfl rfl (by decide) (by decide) rfl hoF rfl ?_
  refine f_getI (c := 4) (j := 0) (n := 18) (v := D 0 0) (p := 111) dX11_size_108 rfl (s_o ho) (l_o0 ho) (by decide) (Or.inl rfl) hC.1 rfl ?_
  exact e_iretE dX11_size_111 rfl rfl (by decide) ⟨rfl, rfl⟩
set_option maxRecDepth 10000 in
theorem c_size_1 {I : Nat → Nat → Int32} {J : Nat → Nat → Int64} {F : Nat → Nat → Option Nat} {nc ns : Nat} {o : Nat} {D : oD} {s : Nat → Int32} (ho : isO o) (hF : RFok F) (hoF : F 0 2 = some o) (hC : oC I o D) (hW : WF D) (hm : mo I 42 s) (hS : WFs D s)  : Ev 1 mX11_size 0 [.ref 0, .int 1] [] ((SH, nc, ns), I, J, F) (some (.int (nI (tN D)))) ((SH, nc, ns), I, J, F) := by
  have hD := hW.c
  have hH := hW.h
  have hT := hW.t
  have bt := hT.2
  obtain ⟨b0, b1, b2, b3, b4, b5, b6⟩ := hD.2
  refine e_iload_n (p := 1) dX11_size_0 rfl rfl ?_
  refine e_iconst (v := 2) (p := 2) dX11_size_1 (by decide) rfl ?_
  refine e_icmp_lt (t := 23) (p := 5) dX11_size_2 (by decide) rfl rfl (fun hc2 => ?_) (fun hc2 => absurd (by decide) hc2)
  refine e_iload_n (p := 24) dX11_size_23 rfl rfl ?_
  refine e_swIn (p := 112) dX11_size_24 (by decide) rfl (by decide) rfl ?_
  refine e_aload_n (p := 113) dX11_size_112 rfl rfl ?_
  refine e_getR (c := 10) (j := 2) (n := 13) (b := o) (p := 116) dX11_size_113 rfl rfl (by decide) (by decide) rfl hoF rfl ?_
  refine f_getI (c := 4) (j := 1) (n := 18) (v := nI (tN D)) (p := 119) dX11_size_116 rfl (s_o ho) (l_o0 ho) (by decide) (Or.inl rfl) (hC.2.1.trans hT.1) rfl ?_
  exact e_iretE dX11_size_119 rfl rfl (by decide) ⟨rfl, rfl⟩
set_option maxRecDepth 10000 in
theorem c_size_2 {I : Nat → Nat → Int32} {J : Nat → Nat → Int64} {F : Nat → Nat → Option Nat} {nc ns : Nat} {o : Nat} {D : oD} {s : Nat → Int32} (ho : isO o) (hF : RFok F) (hoF : F 0 2 = some o) (hC : oC I o D) (hW : WF D) (hm : mo I 42 s) (hS : WFs D s)  : Ev 1 mX11_size 0 [.ref 0, .int 2] [] ((SH, nc, ns), I, J, F) (some (.int (nI (dN D 0)))) ((SH, nc, ns), I, J, F) := by
  have hD := hW.c
  have hH := hW.h
  have hT := hW.t
  have bt := hT.2
  obtain ⟨b0, b1, b2, b3, b4, b5, b6⟩ := hD.2
  refine e_iload_n (p := 1) dX11_size_0 rfl rfl ?_
  refine e_iconst (v := 2) (p := 2) dX11_size_1 (by decide) rfl ?_
  refine e_icmp_lt (t := 23) (p := 5) dX11_size_2 (by decide) rfl rfl (fun hc2 => absurd hc2 (by decide)) (fun hc2 => ?_)
  refine e_iload_n (p := 6) dX11_size_5 rfl rfl ?_
  refine e_bipush (v := 8) (p := 8) dX11_size_6 (by decide) rfl ?_
  refine e_icmp_gt (t := 23) (p := 11) dX11_size_8 (by decide) rfl rfl (fun hc8 => absurd hc8 (by decide)) (fun hc8 => ?_)
  refine e_aload_n (p := 12) dX11_size_11 rfl rfl ?_
  refine e_getR (c := 10) (j := 2) (n := 13) (b := o) (p := 15) dX11_size_12 rfl rfl (by decide) (by decide) rfl hoF rfl ?_
  refine e_getR (c := 4) (j := 2) (n := 18) (b := (o + 1)) (p := 18) dX11_size_15 rfl (s_o ho) (l_o0 ho) (by decide) rfl (r_o2 hF ho) rfl ?_
  refine e_iload_n (p := 19) dX11_size_18 rfl rfl ?_
  refine e_iconst (v := 2) (p := 20) dX11_size_19 (by decide) rfl ?_
  refine e_isub (p := 21) dX11_size_20 rfl ?_
  refine f_iald (n := 7) (i := 0) (v := nI (dN D 0)) (p := 22) dX11_size_21 (s_o1 ho) (l_o ho 1 (by decide)) (by decide) (by decide) (cN hC hD (by decide)) rfl ?_
  exact e_iretE dX11_size_22 rfl rfl (by decide) ⟨rfl, rfl⟩
set_option maxRecDepth 10000 in
theorem c_size_3 {I : Nat → Nat → Int32} {J : Nat → Nat → Int64} {F : Nat → Nat → Option Nat} {nc ns : Nat} {o : Nat} {D : oD} {s : Nat → Int32} (ho : isO o) (hF : RFok F) (hoF : F 0 2 = some o) (hC : oC I o D) (hW : WF D) (hm : mo I 42 s) (hS : WFs D s)  : Ev 1 mX11_size 0 [.ref 0, .int 3] [] ((SH, nc, ns), I, J, F) (some (.int (nI (dN D 1)))) ((SH, nc, ns), I, J, F) := by
  have hD := hW.c
  have hH := hW.h
  have hT := hW.t
  have bt := hT.2
  obtain ⟨b0, b1, b2, b3, b4, b5, b6⟩ := hD.2
  refine e_iload_n (p := 1) dX11_size_0 rfl rfl ?_
  refine e_iconst (v := 2) (p := 2) dX11_size_1 (by decide) rfl ?_
  refine e_icmp_lt (t := 23) (p := 5) dX11_size_2 (by decide) rfl rfl (fun hc2 => absurd hc2 (by decide)) (fun hc2 => ?_)
  refine e_iload_n (p := 6) dX11_size_5 rfl rfl ?_
  refine e_bipush (v := 8) (p := 8) dX11_size_6 (by decide) rfl ?_
  refine e_icmp_gt (t := 23) (p := 11) dX11_size_8 (by decide) rfl rfl (fun hc8 => absurd hc8 (by decide)) (fun hc8 => ?_)
  refine e_aload_n (p := 12) dX11_size_11 rfl rfl ?_
  refine e_getR (c := 10) (j := 2) (n := 13) (b := o) (p := 15) dX11_size_12 rfl rfl (by decide) (by decide) rfl hoF rfl ?_
  refine e_getR (c := 4) (j := 2) (n := 18) (b := (o + 1)) (p := 18) dX11_size_15 rfl (s_o ho) (l_o0 ho) (by decide) rfl (r_o2 hF ho) rfl ?_
  refine e_iload_n (p := 19) dX11_size_18 rfl rfl ?_
  refine e_iconst (v := 2) (p := 20) dX11_size_19 (by decide) rfl ?_
  refine e_isub (p := 21) dX11_size_20 rfl ?_
  refine f_iald (n := 7) (i := 1) (v := nI (dN D 1)) (p := 22) dX11_size_21 (s_o1 ho) (l_o ho 1 (by decide)) (by decide) (by decide) (cN hC hD (by decide)) rfl ?_
  exact e_iretE dX11_size_22 rfl rfl (by decide) ⟨rfl, rfl⟩
set_option maxRecDepth 10000 in
theorem c_size_4 {I : Nat → Nat → Int32} {J : Nat → Nat → Int64} {F : Nat → Nat → Option Nat} {nc ns : Nat} {o : Nat} {D : oD} {s : Nat → Int32} (ho : isO o) (hF : RFok F) (hoF : F 0 2 = some o) (hC : oC I o D) (hW : WF D) (hm : mo I 42 s) (hS : WFs D s)  : Ev 1 mX11_size 0 [.ref 0, .int 4] [] ((SH, nc, ns), I, J, F) (some (.int (nI (dN D 2)))) ((SH, nc, ns), I, J, F) := by
  have hD := hW.c
  have hH := hW.h
  have hT := hW.t
  have bt := hT.2
  obtain ⟨b0, b1, b2, b3, b4, b5, b6⟩ := hD.2
  refine e_iload_n (p := 1) dX11_size_0 rfl rfl ?_
  refine e_iconst (v := 2) (p := 2) dX11_size_1 (by decide) rfl ?_
  refine e_icmp_lt (t := 23) (p := 5) dX11_size_2 (by decide) rfl rfl (fun hc2 => absurd hc2 (by decide)) (fun hc2 => ?_)
  refine e_iload_n (p := 6) dX11_size_5 rfl rfl ?_
  refine e_bipush (v := 8) (p := 8) dX11_size_6 (by decide) rfl ?_
  refine e_icmp_gt (t := 23) (p := 11) dX11_size_8 (by decide) rfl rfl (fun hc8 => absurd hc8 (by decide)) (fun hc8 => ?_)
  refine e_aload_n (p := 12) dX11_size_11 rfl rfl ?_
  refine e_getR (c := 10) (j := 2) (n := 13) (b := o) (p := 15) dX11_size_12 rfl rfl (by decide) (by decide) rfl hoF rfl ?_
  refine e_getR (c := 4) (j := 2) (n := 18) (b := (o + 1)) (p := 18) dX11_size_15 rfl (s_o ho) (l_o0 ho) (by decide) rfl (r_o2 hF ho) rfl ?_
  refine e_iload_n (p := 19) dX11_size_18 rfl rfl ?_
  refine e_iconst (v := 2) (p := 20) dX11_size_19 (by decide) rfl ?_
  refine e_isub (p := 21) dX11_size_20 rfl ?_
  refine f_iald (n := 7) (i := 2) (v := nI (dN D 2)) (p := 22) dX11_size_21 (s_o1 ho) (l_o ho 1 (by decide)) (by decide) (by decide) (cN hC hD (by decide)) rfl ?_
  exact e_iretE dX11_size_22 rfl rfl (by decide) ⟨rfl, rfl⟩
set_option maxRecDepth 10000 in
theorem c_size_5 {I : Nat → Nat → Int32} {J : Nat → Nat → Int64} {F : Nat → Nat → Option Nat} {nc ns : Nat} {o : Nat} {D : oD} {s : Nat → Int32} (ho : isO o) (hF : RFok F) (hoF : F 0 2 = some o) (hC : oC I o D) (hW : WF D) (hm : mo I 42 s) (hS : WFs D s)  : Ev 1 mX11_size 0 [.ref 0, .int 5] [] ((SH, nc, ns), I, J, F) (some (.int (nI (dN D 3)))) ((SH, nc, ns), I, J, F) := by
  have hD := hW.c
  have hH := hW.h
  have hT := hW.t
  have bt := hT.2
  obtain ⟨b0, b1, b2, b3, b4, b5, b6⟩ := hD.2
  refine e_iload_n (p := 1) dX11_size_0 rfl rfl ?_
  refine e_iconst (v := 2) (p := 2) dX11_size_1 (by decide) rfl ?_
  refine e_icmp_lt (t := 23) (p := 5) dX11_size_2 (by decide) rfl rfl (fun hc2 => absurd hc2 (by decide)) (fun hc2 => ?_)
  refine e_iload_n (p := 6) dX11_size_5 rfl rfl ?_
  refine e_bipush (v := 8) (p := 8) dX11_size_6 (by decide) rfl ?_
  refine e_icmp_gt (t := 23) (p := 11) dX11_size_8 (by decide) rfl rfl (fun hc8 => absurd hc8 (by decide)) (fun hc8 => ?_)
  refine e_aload_n (p := 12) dX11_size_11 rfl rfl ?_
  refine e_getR (c := 10) (j := 2) (n := 13) (b := o) (p := 15) dX11_size_12 rfl rfl (by decide) (by decide) rfl hoF rfl ?_
  refine e_getR (c := 4) (j := 2) (n := 18) (b := (o + 1)) (p := 18) dX11_size_15 rfl (s_o ho) (l_o0 ho) (by decide) rfl (r_o2 hF ho) rfl ?_
  refine e_iload_n (p := 19) dX11_size_18 rfl rfl ?_
  refine e_iconst (v := 2) (p := 20) dX11_size_19 (by decide) rfl ?_
  refine e_isub (p := 21) dX11_size_20 rfl ?_
  refine f_iald (n := 7) (i := 3) (v := nI (dN D 3)) (p := 22) dX11_size_21 (s_o1 ho) (l_o ho 1 (by decide)) (by decide) (by decide) (cN hC hD (by decide)) rfl ?_
  exact e_iretE dX11_size_22 rfl rfl (by decide) ⟨rfl, rfl⟩
set_option maxRecDepth 10000 in
theorem c_size_6 {I : Nat → Nat → Int32} {J : Nat → Nat → Int64} {F : Nat → Nat → Option Nat} {nc ns : Nat} {o : Nat} {D : oD} {s : Nat → Int32} (ho : isO o) (hF : RFok F) (hoF : F 0 2 = some o) (hC : oC I o D) (hW : WF D) (hm : mo I 42 s) (hS : WFs D s)  : Ev 1 mX11_size 0 [.ref 0, .int 6] [] ((SH, nc, ns), I, J, F) (some (.int (nI (dN D 4)))) ((SH, nc, ns), I, J, F) := by
  have hD := hW.c
  have hH := hW.h
  have hT := hW.t
  have bt := hT.2
  obtain ⟨b0, b1, b2, b3, b4, b5, b6⟩ := hD.2
  refine e_iload_n (p := 1) dX11_size_0 rfl rfl ?_
  refine e_iconst (v := 2) (p := 2) dX11_size_1 (by decide) rfl ?_
  refine e_icmp_lt (t := 23) (p := 5) dX11_size_2 (by decide) rfl rfl (fun hc2 => absurd hc2 (by decide)) (fun hc2 => ?_)
  refine e_iload_n (p := 6) dX11_size_5 rfl rfl ?_
  refine e_bipush (v := 8) (p := 8) dX11_size_6 (by decide) rfl ?_
  refine e_icmp_gt (t := 23) (p := 11) dX11_size_8 (by decide) rfl rfl (fun hc8 => absurd hc8 (by decide)) (fun hc8 => ?_)
  refine e_aload_n (p := 12) dX11_size_11 rfl rfl ?_
  refine e_getR (c := 10) (j := 2) (n := 13) (b := o) (p := 15) dX11_size_12 rfl rfl (by decide) (by decide) rfl hoF rfl ?_
  refine e_getR (c := 4) (j := 2) (n := 18) (b := (o + 1)) (p := 18) dX11_size_15 rfl (s_o ho) (l_o0 ho) (by decide) rfl (r_o2 hF ho) rfl ?_
  refine e_iload_n (p := 19) dX11_size_18 rfl rfl ?_
  refine e_iconst (v := 2) (p := 20) dX11_size_19 (by decide) rfl ?_
  refine e_isub (p := 21) dX11_size_20 rfl ?_
  refine f_iald (n := 7) (i := 4) (v := nI (dN D 4)) (p := 22) dX11_size_21 (s_o1 ho) (l_o ho 1 (by decide)) (by decide) (by decide) (cN hC hD (by decide)) rfl ?_
  exact e_iretE dX11_size_22 rfl rfl (by decide) ⟨rfl, rfl⟩
set_option maxRecDepth 10000 in
theorem c_size_7 {I : Nat → Nat → Int32} {J : Nat → Nat → Int64} {F : Nat → Nat → Option Nat} {nc ns : Nat} {o : Nat} {D : oD} {s : Nat → Int32} (ho : isO o) (hF : RFok F) (hoF : F 0 2 = some o) (hC : oC I o D) (hW : WF D) (hm : mo I 42 s) (hS : WFs D s)  : Ev 1 mX11_size 0 [.ref 0, .int 7] [] ((SH, nc, ns), I, J, F) (some (.int (nI (dN D 5)))) ((SH, nc, ns), I, J, F) := by
  have hD := hW.c
  have hH := hW.h
  have hT := hW.t
  have bt := hT.2
  obtain ⟨b0, b1, b2, b3, b4, b5, b6⟩ := hD.2
  refine e_iload_n (p := 1) dX11_size_0 rfl rfl ?_
  refine e_iconst (v := 2) (p := 2) dX11_size_1 (by decide) rfl ?_
  refine e_icmp_lt (t := 23) (p := 5) dX11_size_2 (by decide) rfl rfl (fun hc2 => absurd hc2 (by decide)) (fun hc2 => ?_)
  refine e_iload_n (p := 6) dX11_size_5 rfl rfl ?_
  refine e_bipush (v := 8) (p := 8) dX11_size_6 (by decide) rfl ?_
  refine e_icmp_gt (t := 23) (p := 11) dX11_size_8 (by decide) rfl rfl (fun hc8 => absurd hc8 (by decide)) (fun hc8 => ?_)
  refine e_aload_n (p := 12) dX11_size_11 rfl rfl ?_
  refine e_getR (c := 10) (j := 2) (n := 13) (b := o) (p := 15) dX11_size_12 rfl rfl (by decide) (by decide) rfl hoF rfl ?_
  refine e_getR (c := 4) (j := 2) (n := 18) (b := (o + 1)) (p := 18) dX11_size_15 rfl (s_o ho) (l_o0 ho) (by decide) rfl (r_o2 hF ho) rfl ?_
  refine e_iload_n (p := 19) dX11_size_18 rfl rfl ?_
  refine e_iconst (v := 2) (p := 20) dX11_size_19 (by decide) rfl ?_
  refine e_isub (p := 21) dX11_size_20 rfl ?_
  refine f_iald (n := 7) (i := 5) (v := nI (dN D 5)) (p := 22) dX11_size_21 (s_o1 ho) (l_o ho 1 (by decide)) (by decide) (by decide) (cN hC hD (by decide)) rfl ?_
  exact e_iretE dX11_size_22 rfl rfl (by decide) ⟨rfl, rfl⟩
set_option maxRecDepth 10000 in
theorem c_size_8 {I : Nat → Nat → Int32} {J : Nat → Nat → Int64} {F : Nat → Nat → Option Nat} {nc ns : Nat} {o : Nat} {D : oD} {s : Nat → Int32} (ho : isO o) (hF : RFok F) (hoF : F 0 2 = some o) (hC : oC I o D) (hW : WF D) (hm : mo I 42 s) (hS : WFs D s)  : Ev 1 mX11_size 0 [.ref 0, .int 8] [] ((SH, nc, ns), I, J, F) (some (.int (nI (dN D 6)))) ((SH, nc, ns), I, J, F) := by
  have hD := hW.c
  have hH := hW.h
  have hT := hW.t
  have bt := hT.2
  obtain ⟨b0, b1, b2, b3, b4, b5, b6⟩ := hD.2
  refine e_iload_n (p := 1) dX11_size_0 rfl rfl ?_
  refine e_iconst (v := 2) (p := 2) dX11_size_1 (by decide) rfl ?_
  refine e_icmp_lt (t := 23) (p := 5) dX11_size_2 (by decide) rfl rfl (fun hc2 => absurd hc2 (by decide)) (fun hc2 => ?_)
  refine e_iload_n (p := 6) dX11_size_5 rfl rfl ?_
  refine e_bipush (v := 8) (p := 8) dX11_size_6 (by decide) rfl ?_
  refine e_icmp_gt (t := 23) (p := 11) dX11_size_8 (by decide) rfl rfl (fun hc8 => absurd hc8 (by decide)) (fun hc8 => ?_)
  refine e_aload_n (p := 12) dX11_size_11 rfl rfl ?_
  refine e_getR (c := 10) (j := 2) (n := 13) (b := o) (p := 15) dX11_size_12 rfl rfl (by decide) (by decide) rfl hoF rfl ?_
  refine e_getR (c := 4) (j := 2) (n := 18) (b := (o + 1)) (p := 18) dX11_size_15 rfl (s_o ho) (l_o0 ho) (by decide) rfl (r_o2 hF ho) rfl ?_
  refine e_iload_n (p := 19) dX11_size_18 rfl rfl ?_
  refine e_iconst (v := 2) (p := 20) dX11_size_19 (by decide) rfl ?_
  refine e_isub (p := 21) dX11_size_20 rfl ?_
  refine f_iald (n := 7) (i := 6) (v := nI (dN D 6)) (p := 22) dX11_size_21 (s_o1 ho) (l_o ho 1 (by decide)) (by decide) (by decide) (cN hC hD (by decide)) rfl ?_
  exact e_iretE dX11_size_22 rfl rfl (by decide) ⟨rfl, rfl⟩
set_option maxRecDepth 10000 in
theorem c_size_9 {I : Nat → Nat → Int32} {J : Nat → Nat → Int64} {F : Nat → Nat → Option Nat} {nc ns : Nat} {o : Nat} {D : oD} {s : Nat → Int32} (ho : isO o) (hF : RFok F) (hoF : F 0 2 = some o) (hC : oC I o D) (hW : WF D) (hm : mo I 42 s) (hS : WFs D s)  : Ev 1 mX11_size 0 [.ref 0, .int 9] [] ((SH, nc, ns), I, J, F) (some (.int (s 0))) ((SH, nc, ns), I, J, F) := by
  have hD := hW.c
  have hH := hW.h
  have hT := hW.t
  have bt := hT.2
  obtain ⟨b0, b1, b2, b3, b4, b5, b6⟩ := hD.2
  refine e_iload_n (p := 1) dX11_size_0 rfl rfl ?_
  refine e_iconst (v := 2) (p := 2) dX11_size_1 (by decide) rfl ?_
  refine e_icmp_lt (t := 23) (p := 5) dX11_size_2 (by decide) rfl rfl (fun hc2 => absurd hc2 (by decide)) (fun hc2 => ?_)
  refine e_iload_n (p := 6) dX11_size_5 rfl rfl ?_
  refine e_bipush (v := 8) (p := 8) dX11_size_6 (by decide) rfl ?_
  refine e_icmp_gt (t := 23) (p := 11) dX11_size_8 (by decide) rfl rfl (fun hc8 => ?_) (fun hc8 => absurd (by decide) hc8)
  refine e_iload_n (p := 24) dX11_size_23 rfl rfl ?_
  refine e_swIn (p := 120) dX11_size_24 (by decide) rfl (by decide) rfl ?_
  refine e_aload_n (p := 121) dX11_size_120 rfl rfl ?_
  refine e_getR (c := 10) (j := 3) (n := 13) (b := 42) (p := 124) dX11_size_121 rfl rfl (by decide) (by decide) rfl (r_0_3 hF) rfl ?_
  refine f_getI (c := 3) (j := 0) (n := 6) (v := s 0) (p := 127) dX11_size_124 rfl rfl (by decide) (by decide) (Or.inl rfl) hm.1 rfl ?_
  exact e_iretE dX11_size_127 rfl rfl (by decide) ⟨rfl, rfl⟩
set_option maxRecDepth 10000 in
theorem c_size_10 {I : Nat → Nat → Int32} {J : Nat → Nat → Int64} {F : Nat → Nat → Option Nat} {nc ns : Nat} {o : Nat} {D : oD} {s : Nat → Int32} (ho : isO o) (hF : RFok F) (hoF : F 0 2 = some o) (hC : oC I o D) (hW : WF D) (hm : mo I 42 s) (hS : WFs D s)  : Ev 1 mX11_size 0 [.ref 0, .int 10] [] ((SH, nc, ns), I, J, F) (some (.int (s 1))) ((SH, nc, ns), I, J, F) := by
  have hD := hW.c
  have hH := hW.h
  have hT := hW.t
  have bt := hT.2
  obtain ⟨b0, b1, b2, b3, b4, b5, b6⟩ := hD.2
  refine e_iload_n (p := 1) dX11_size_0 rfl rfl ?_
  refine e_iconst (v := 2) (p := 2) dX11_size_1 (by decide) rfl ?_
  refine e_icmp_lt (t := 23) (p := 5) dX11_size_2 (by decide) rfl rfl (fun hc2 => absurd hc2 (by decide)) (fun hc2 => ?_)
  refine e_iload_n (p := 6) dX11_size_5 rfl rfl ?_
  refine e_bipush (v := 8) (p := 8) dX11_size_6 (by decide) rfl ?_
  refine e_icmp_gt (t := 23) (p := 11) dX11_size_8 (by decide) rfl rfl (fun hc8 => ?_) (fun hc8 => absurd (by decide) hc8)
  refine e_iload_n (p := 24) dX11_size_23 rfl rfl ?_
  refine e_swIn (p := 128) dX11_size_24 (by decide) rfl (by decide) rfl ?_
  refine e_aload_n (p := 129) dX11_size_128 rfl rfl ?_
  refine e_getR (c := 10) (j := 3) (n := 13) (b := 42) (p := 132) dX11_size_129 rfl rfl (by decide) (by decide) rfl (r_0_3 hF) rfl ?_
  refine f_getI (c := 3) (j := 1) (n := 6) (v := s 1) (p := 135) dX11_size_132 rfl rfl (by decide) (by decide) (Or.inl rfl) hm.2.1 rfl ?_
  exact e_iretE dX11_size_135 rfl rfl (by decide) ⟨rfl, rfl⟩
set_option maxRecDepth 10000 in
theorem c_size_12 {I : Nat → Nat → Int32} {J : Nat → Nat → Int64} {F : Nat → Nat → Option Nat} {nc ns : Nat} {o : Nat} {D : oD} {s : Nat → Int32} (ho : isO o) (hF : RFok F) (hoF : F 0 2 = some o) (hC : oC I o D) (hW : WF D) (hm : mo I 42 s) (hS : WFs D s)  : Ev 1 mX11_size 0 [.ref 0, .int 12] [] ((SH, nc, ns), I, J, F) (some (.int (s 3))) ((SH, nc, ns), I, J, F) := by
  have hD := hW.c
  have hH := hW.h
  have hT := hW.t
  have bt := hT.2
  obtain ⟨b0, b1, b2, b3, b4, b5, b6⟩ := hD.2
  refine e_iload_n (p := 1) dX11_size_0 rfl rfl ?_
  refine e_iconst (v := 2) (p := 2) dX11_size_1 (by decide) rfl ?_
  refine e_icmp_lt (t := 23) (p := 5) dX11_size_2 (by decide) rfl rfl (fun hc2 => absurd hc2 (by decide)) (fun hc2 => ?_)
  refine e_iload_n (p := 6) dX11_size_5 rfl rfl ?_
  refine e_bipush (v := 8) (p := 8) dX11_size_6 (by decide) rfl ?_
  refine e_icmp_gt (t := 23) (p := 11) dX11_size_8 (by decide) rfl rfl (fun hc8 => ?_) (fun hc8 => absurd (by decide) hc8)
  refine e_iload_n (p := 24) dX11_size_23 rfl rfl ?_
  refine e_swIn (p := 158) dX11_size_24 (by decide) rfl (by decide) rfl ?_
  refine e_aload_n (p := 159) dX11_size_158 rfl rfl ?_
  refine e_getR (c := 10) (j := 3) (n := 13) (b := 42) (p := 162) dX11_size_159 rfl rfl (by decide) (by decide) rfl (r_0_3 hF) rfl ?_
  refine f_getI (c := 3) (j := 5) (n := 6) (v := s 3) (p := 165) dX11_size_162 rfl rfl (by decide) (by decide) (Or.inl rfl) hm.2.2.2.2.2 rfl ?_
  exact e_iretE dX11_size_165 rfl rfl (by decide) ⟨rfl, rfl⟩
set_option maxRecDepth 10000 in
theorem c_size_13 {I : Nat → Nat → Int32} {J : Nat → Nat → Int64} {F : Nat → Nat → Option Nat} {nc ns : Nat} {o : Nat} {D : oD} {s : Nat → Int32} (ho : isO o) (hF : RFok F) (hoF : F 0 2 = some o) (hC : oC I o D) (hW : WF D) (hm : mo I 42 s) (hS : WFs D s)  : Ev 1 mX11_size 0 [.ref 0, .int 13] [] ((SH, nc, ns), I, J, F) (some (.int (I 43 2))) ((SH, nc, ns), I, J, F) := by
  have hD := hW.c
  have hH := hW.h
  have hT := hW.t
  have bt := hT.2
  obtain ⟨b0, b1, b2, b3, b4, b5, b6⟩ := hD.2
  refine e_iload_n (p := 1) dX11_size_0 rfl rfl ?_
  refine e_iconst (v := 2) (p := 2) dX11_size_1 (by decide) rfl ?_
  refine e_icmp_lt (t := 23) (p := 5) dX11_size_2 (by decide) rfl rfl (fun hc2 => absurd hc2 (by decide)) (fun hc2 => ?_)
  refine e_iload_n (p := 6) dX11_size_5 rfl rfl ?_
  refine e_bipush (v := 8) (p := 8) dX11_size_6 (by decide) rfl ?_
  refine e_icmp_gt (t := 23) (p := 11) dX11_size_8 (by decide) rfl rfl (fun hc8 => ?_) (fun hc8 => absurd (by decide) hc8)
  refine e_iload_n (p := 24) dX11_size_23 rfl rfl ?_
  refine e_swIn (p := 166) dX11_size_24 (by decide) rfl (by decide) rfl ?_
  refine e_aload_n (p := 167) dX11_size_166 rfl rfl ?_
  refine e_getR (c := 10) (j := 4) (n := 13) (b := 43) (p := 170) dX11_size_167 rfl rfl (by decide) (by decide) rfl (r_0_4 hF) rfl ?_
  refine f_getI (c := 5) (j := 2) (n := 4) (v := I 43 2) (p := 173) dX11_size_170 rfl rfl (by decide) (by decide) (Or.inl rfl) rfl rfl ?_
  exact e_iretE dX11_size_173 rfl rfl (by decide) ⟨rfl, rfl⟩
set_option maxRecDepth 10000 in
theorem c_size_14 {I : Nat → Nat → Int32} {J : Nat → Nat → Int64} {F : Nat → Nat → Option Nat} {nc ns : Nat} {o : Nat} {D : oD} {s : Nat → Int32} (ho : isO o) (hF : RFok F) (hoF : F 0 2 = some o) (hC : oC I o D) (hW : WF D) (hm : mo I 42 s) (hS : WFs D s)  : Ev 1 mX11_size 0 [.ref 0, .int 14] [] ((SH, nc, ns), I, J, F) (some (.int (I 43 3))) ((SH, nc, ns), I, J, F) := by
  have hD := hW.c
  have hH := hW.h
  have hT := hW.t
  have bt := hT.2
  obtain ⟨b0, b1, b2, b3, b4, b5, b6⟩ := hD.2
  refine e_iload_n (p := 1) dX11_size_0 rfl rfl ?_
  refine e_iconst (v := 2) (p := 2) dX11_size_1 (by decide) rfl ?_
  refine e_icmp_lt (t := 23) (p := 5) dX11_size_2 (by decide) rfl rfl (fun hc2 => absurd hc2 (by decide)) (fun hc2 => ?_)
  refine e_iload_n (p := 6) dX11_size_5 rfl rfl ?_
  refine e_bipush (v := 8) (p := 8) dX11_size_6 (by decide) rfl ?_
  refine e_icmp_gt (t := 23) (p := 11) dX11_size_8 (by decide) rfl rfl (fun hc8 => ?_) (fun hc8 => absurd (by decide) hc8)
  refine e_iload_n (p := 24) dX11_size_23 rfl rfl ?_
  refine e_swIn (p := 174) dX11_size_24 (by decide) rfl (by decide) rfl ?_
  refine e_aload_n (p := 175) dX11_size_174 rfl rfl ?_
  refine e_getR (c := 10) (j := 4) (n := 13) (b := 43) (p := 178) dX11_size_175 rfl rfl (by decide) (by decide) rfl (r_0_4 hF) rfl ?_
  refine f_getI (c := 5) (j := 3) (n := 4) (v := I 43 3) (p := 181) dX11_size_178 rfl rfl (by decide) (by decide) (Or.inl rfl) rfl rfl ?_
  exact e_iretE dX11_size_181 rfl rfl (by decide) ⟨rfl, rfl⟩
set_option maxRecDepth 10000 in
theorem c_size_15 {I : Nat → Nat → Int32} {J : Nat → Nat → Int64} {F : Nat → Nat → Option Nat} {nc ns : Nat} {o : Nat} {D : oD} {s : Nat → Int32} (ho : isO o) (hF : RFok F) (hoF : F 0 2 = some o) (hC : oC I o D) (hW : WF D) (hm : mo I 42 s) (hS : WFs D s)  : Ev 1 mX11_size 0 [.ref 0, .int 15] [] ((SH, nc, ns), I, J, F) (some (.int (I 1 1))) ((SH, nc, ns), I, J, F) := by
  have hD := hW.c
  have hH := hW.h
  have hT := hW.t
  have bt := hT.2
  obtain ⟨b0, b1, b2, b3, b4, b5, b6⟩ := hD.2
  refine e_iload_n (p := 1) dX11_size_0 rfl rfl ?_
  refine e_iconst (v := 2) (p := 2) dX11_size_1 (by decide) rfl ?_
  refine e_icmp_lt (t := 23) (p := 5) dX11_size_2 (by decide) rfl rfl (fun hc2 => absurd hc2 (by decide)) (fun hc2 => ?_)
  refine e_iload_n (p := 6) dX11_size_5 rfl rfl ?_
  refine e_bipush (v := 8) (p := 8) dX11_size_6 (by decide) rfl ?_
  refine e_icmp_gt (t := 23) (p := 11) dX11_size_8 (by decide) rfl rfl (fun hc8 => ?_) (fun hc8 => absurd (by decide) hc8)
  refine e_iload_n (p := 24) dX11_size_23 rfl rfl ?_
  refine e_swIn (p := 182) dX11_size_24 (by decide) rfl (by decide) rfl ?_
  refine e_aload_n (p := 183) dX11_size_182 rfl rfl ?_
  refine e_getR (c := 10) (j := 0) (n := 13) (b := 1) (p := 186) dX11_size_183 rfl rfl (by decide) (by decide) rfl (r_0_0 hF) rfl ?_
  refine f_getI (c := 9) (j := 1) (n := 2) (v := I 1 1) (p := 189) dX11_size_186 rfl rfl (by decide) (by decide) (Or.inl rfl) rfl rfl ?_
  exact e_iretE dX11_size_189 rfl rfl (by decide) ⟨rfl, rfl⟩
set_option maxRecDepth 10000 in
theorem c_size_11 {I : Nat → Nat → Int32} {J : Nat → Nat → Int64} {F : Nat → Nat → Option Nat} {nc ns : Nat} {o : Nat} {D : oD} {s : Nat → Int32} (ho : isO o) (hF : RFok F) (hoF : F 0 2 = some o) (hC : oC I o D) (hW : WF D) (hm : mo I 42 s) (hS : WFs D s)  : Ev 1 mX11_size 0 [.ref 0, .int 11] [] ((SH, nc, ns), I, J, F) (some (.int (if tol D = 0 then 0 else frS (s 2)))) ((SH, nc, ns), I, J, F) := by
  have hD := hW.c
  have hH := hW.h
  have hT := hW.t
  have bt := hT.2
  obtain ⟨b0, b1, b2, b3, b4, b5, b6⟩ := hD.2
  refine e_iload_n (p := 1) dX11_size_0 rfl rfl ?_
  refine e_iconst (v := 2) (p := 2) dX11_size_1 (by decide) rfl ?_
  refine e_icmp_lt (t := 23) (p := 5) dX11_size_2 (by decide) rfl rfl (fun hc2 => absurd hc2 (by decide)) (fun hc2 => ?_)
  refine e_iload_n (p := 6) dX11_size_5 rfl rfl ?_
  refine e_bipush (v := 8) (p := 8) dX11_size_6 (by decide) rfl ?_
  refine e_icmp_gt (t := 23) (p := 11) dX11_size_8 (by decide) rfl rfl (fun hc8 => ?_) (fun hc8 => absurd (by decide) hc8)
  refine e_iload_n (p := 24) dX11_size_23 rfl rfl ?_
  refine e_swIn (p := 136) dX11_size_24 (by decide) rfl (by decide) rfl ?_
  refine e_aload_n (p := 137) dX11_size_136 rfl rfl ?_
  refine e_getR (c := 10) (j := 2) (n := 13) (b := o) (p := 140) dX11_size_137 rfl rfl (by decide) (by decide) rfl hoF rfl ?_
  refine e_callV_int (p := 143) (k' := 0) (a := [.ref o]) (rr := []) dX11_size_140 rfl rfl rfl rfl (rc_of rfl (s_o ho) (l_o0 ho) ⟨rfl, by decide⟩) (Nat.le_of_ble_eq_true rfl) (Nat.le_of_ble_eq_true rfl) (by decide) (Ev.i (w := tol D) rfl (x_isTold ho hF hC hW.c )) (Or.inl rfl) rfl ?_
  refine e_if_eq (t := 156) (p := 146) dX11_size_143 (by decide) rfl rfl (fun hc143 => ?_) (fun hc143 => ?_)
  · skip
    refine e_iconst (v := 0) (p := 157) dX11_size_156 (by decide) rfl ?_
    exact e_iretE dX11_size_157 rfl rfl (by decide) ⟨by simp only [hc143, ↓reduceIte], rfl⟩
  · skip
    refine e_aload_n (p := 147) dX11_size_146 rfl rfl ?_
    refine e_getR (c := 10) (j := 3) (n := 13) (b := 42) (p := 150) dX11_size_147 rfl rfl (by decide) (by decide) rfl (r_0_3 hF) rfl ?_
    refine f_getI (c := 3) (j := 4) (n := 6) (v := frS (s 2)) (p := 153) dX11_size_150 rfl rfl (by decide) (by decide) (Or.inl rfl) hm.2.2.2.2.1 rfl ?_
    refine e_goto (p := 157) dX11_size_153 (by decide) rfl ?_
    exact e_iretE dX11_size_157 rfl rfl (by decide) ⟨by simp only [hc143, ↓reduceIte], rfl⟩
