/-! What is asked of routes: the reference. -/
set_option maxRecDepth 10000 in
theorem q_routes_no {I : Nat → Nat → Int32} {J : Nat → Nat → Int64} {F : Nat → Nat → Option Nat} {nc ns : Nat} {D : oD} (hF : RFok F) (hM : oM I 98 D) (hW : WF D) (hO : I 95 14 = tol D) {s : Nat → Int32} (hs : stM I s) {v : Int32} (ht : ¬ (fwS (tol D) (inS v 1 3) (s 2)) = 0) : Ev 10 mX12_routes 0 [.ref 95, .int v, .null] [] ((SH, nc, ns), I, J, F) (some (.int (-1))) ((SH, nc, ns), hp_u (hp_u I 95 0 0) 95 11 (fwS (tol D) (inS v 1 3) (s 2)), J, F) := by
  have hD := hW.c
  have hH := hW.h
  have hT := hW.t
  have bt := hT.2
  obtain ⟨b0, b1, b2, b3, b4, b5, b6⟩ := hD.2
  refine e_aload_n (p := 1) dX12_routes_0 rfl rfl ?_
  refine e_callV_v (p := 4) (k' := 0) (a := [.ref 95]) (rr := []) dX12_routes_1 rfl rfl rfl rfl (rc_of rfl rfl (by decide) ⟨rfl, by decide⟩) (Nat.le_of_ble_eq_true rfl) (Nat.le_of_ble_eq_true rfl) (by decide) y_good (Or.inl rfl) rfl ?_
  refine e_aload_n (p := 5) dX12_routes_4 rfl rfl ?_
  refine e_iload_n (p := 6) dX12_routes_5 rfl rfl ?_
  refine e_callV_int (p := 9) (k' := 9) (a := [.ref 95, .int v]) (rr := []) dX12_routes_6 rfl rfl rfl rfl (rc_of rfl rfl (by decide) ⟨rfl, by decide⟩) (Nat.le_of_ble_eq_true rfl) (Nat.le_of_ble_eq_true rfl) (by decide) (y_routeWhy_no hF (oM_u (oM_u hM (by decide)) (by decide)) hW (I_u (I_u hO (by decide)) (by decide)) (stM_u (stM_u hs (by decide)) (by decide)) ht) (Or.inl rfl) rfl ?_
  refine e_istore_n (ls1 := [.ref 95, .int v, .int (fwS (tol D) (inS v 1 3) (s 2))]) (p := 10) dX12_routes_9 rfl rfl ?_
  refine e_iload_n (p := 11) dX12_routes_10 rfl rfl ?_
  refine e_if_eq (t := 22) (p := 14) dX12_routes_11 (by decide) rfl rfl (fun hc11 => absurd hc11 ht) (fun hc11 => ?_)
  refine e_aload_n (p := 15) dX12_routes_14 rfl rfl ?_
  refine e_iload_n (p := 16) dX12_routes_15 rfl rfl ?_
  refine e_callV_int (p := 19) (k' := 0) (a := [.ref 95, .int (fwS (tol D) (inS v 1 3) (s 2))]) (rr := []) dX12_routes_16 rfl rfl rfl rfl (rc_of rfl rfl (by decide) ⟨rfl, by decide⟩) (Nat.le_of_ble_eq_true rfl) (Nat.le_of_ble_eq_true rfl) (by decide) y_no (Or.inl rfl) rfl ?_
  refine e_goto (p := 26) dX12_routes_19 (by decide) rfl ?_
  exact e_iretE dX12_routes_26 rfl rfl (by decide) ⟨rfl, hpq rfl⟩
set_option maxRecDepth 10000 in
theorem q_route_no {I : Nat → Nat → Int32} {J : Nat → Nat → Int64} {F : Nat → Nat → Option Nat} {nc ns : Nat} {D : oD} (hF : RFok F) (hM : oM I 98 D) (hW : WF D) (hO : I 95 14 = tol D) {s : Nat → Int32} (hs : stM I s) {v b : Int32} (ht : ¬ (fwS (tol D) (inS v 1 3) (s 2)) = 0) : Ev 10 mX12_route 0 [.ref 95, .int v, .int b, .null, .null, .null, .null] [] ((SH, nc, ns), I, J, F) (some (.long (-1))) ((SH, nc, ns), hp_u (hp_u I 95 0 0) 95 11 (fwS (tol D) (inS v 1 3) (s 2)), J, F) := by
  have hD := hW.c
  have hH := hW.h
  have hT := hW.t
  have bt := hT.2
  obtain ⟨b0, b1, b2, b3, b4, b5, b6⟩ := hD.2
  refine e_aload_n (p := 1) dX12_route_0 rfl rfl ?_
  refine e_callV_v (p := 4) (k' := 0) (a := [.ref 95]) (rr := []) dX12_route_1 rfl rfl rfl rfl (rc_of rfl rfl (by decide) ⟨rfl, by decide⟩) (Nat.le_of_ble_eq_true rfl) (Nat.le_of_ble_eq_true rfl) (by decide) y_good (Or.inl rfl) rfl ?_
  refine e_aload_n (p := 5) dX12_route_4 rfl rfl ?_
  refine e_iload_n (p := 6) dX12_route_5 rfl rfl ?_
  refine e_callV_int (p := 9) (k' := 9) (a := [.ref 95, .int v]) (rr := []) dX12_route_6 rfl rfl rfl rfl (rc_of rfl rfl (by decide) ⟨rfl, by decide⟩) (Nat.le_of_ble_eq_true rfl) (Nat.le_of_ble_eq_true rfl) (by decide) (y_routeWhy_no hF (oM_u (oM_u hM (by decide)) (by decide)) hW (I_u (I_u hO (by decide)) (by decide)) (stM_u (stM_u hs (by decide)) (by decide)) ht) (Or.inl rfl) rfl ?_
  refine e_istore_n (ls1 := [.ref 95, .int v, .int b, .int (fwS (tol D) (inS v 1 3) (s 2)), .null, .null, .null]) (p := 10) dX12_route_9 rfl rfl ?_
  refine e_iload_n (p := 11) dX12_route_10 rfl rfl ?_
  refine e_if_eq (t := 21) (p := 14) dX12_route_11 (by decide) rfl rfl (fun hc11 => absurd hc11 ht) (fun hc11 => ?_)
  refine e_aload_n (p := 15) dX12_route_14 rfl rfl ?_
  refine e_iload_n (p := 16) dX12_route_15 rfl rfl ?_
  refine e_callV_int (p := 19) (k' := 0) (a := [.ref 95, .int (fwS (tol D) (inS v 1 3) (s 2))]) (rr := []) dX12_route_16 rfl rfl rfl rfl (rc_of rfl rfl (by decide) ⟨rfl, by decide⟩) (Nat.le_of_ble_eq_true rfl) (Nat.le_of_ble_eq_true rfl) (by decide) y_no (Or.inl rfl) rfl ?_
  refine e_i2l (p := 20) dX12_route_19 rfl ?_
  exact e_lretE dX12_route_20 rfl ⟨rfl, hpq rfl⟩
set_option maxRecDepth 10000 in
theorem q_mean_no {I : Nat → Nat → Int32} {J : Nat → Nat → Int64} {F : Nat → Nat → Option Nat} {nc ns : Nat} {D : oD} (hF : RFok F) (hM : oM I 98 D) (hW : WF D) (hO : I 95 14 = tol D) {s : Nat → Int32} (hs : stM I s) {v b : Int32} (ht : ¬ (fwS (tol D) (inS v 1 3) (s 2)) = 0) : Ev 10 mX12_mean 0 [.ref 95, .int v, .int b, .null, .null, .null, .null] [] ((SH, nc, ns), I, J, F) (some (.long (-1))) ((SH, nc, ns), hp_u (hp_u I 95 0 0) 95 11 (fwS (tol D) (inS v 1 3) (s 2)), J, F) := by
  have hD := hW.c
  have hH := hW.h
  have hT := hW.t
  have bt := hT.2
  obtain ⟨b0, b1, b2, b3, b4, b5, b6⟩ := hD.2
  refine e_aload_n (p := 1) dX12_mean_0 rfl rfl ?_
  refine e_callV_v (p := 4) (k' := 0) (a := [.ref 95]) (rr := []) dX12_mean_1 rfl rfl rfl rfl (rc_of rfl rfl (by decide) ⟨rfl, by decide⟩) (Nat.le_of_ble_eq_true rfl) (Nat.le_of_ble_eq_true rfl) (by decide) y_good (Or.inl rfl) rfl ?_
  refine e_aload_n (p := 5) dX12_mean_4 rfl rfl ?_
  refine e_iload_n (p := 6) dX12_mean_5 rfl rfl ?_
  refine e_callV_int (p := 9) (k' := 9) (a := [.ref 95, .int v]) (rr := []) dX12_mean_6 rfl rfl rfl rfl (rc_of rfl rfl (by decide) ⟨rfl, by decide⟩) (Nat.le_of_ble_eq_true rfl) (Nat.le_of_ble_eq_true rfl) (by decide) (y_routeWhy_no hF (oM_u (oM_u hM (by decide)) (by decide)) hW (I_u (I_u hO (by decide)) (by decide)) (stM_u (stM_u hs (by decide)) (by decide)) ht) (Or.inl rfl) rfl ?_
  refine e_istore_n (ls1 := [.ref 95, .int v, .int b, .int (fwS (tol D) (inS v 1 3) (s 2)), .null, .null, .null]) (p := 10) dX12_mean_9 rfl rfl ?_
  refine e_iload_n (p := 11) dX12_mean_10 rfl rfl ?_
  refine e_if_eq (t := 21) (p := 14) dX12_mean_11 (by decide) rfl rfl (fun hc11 => absurd hc11 ht) (fun hc11 => ?_)
  refine e_aload_n (p := 15) dX12_mean_14 rfl rfl ?_
  refine e_iload_n (p := 16) dX12_mean_15 rfl rfl ?_
  refine e_callV_int (p := 19) (k' := 0) (a := [.ref 95, .int (fwS (tol D) (inS v 1 3) (s 2))]) (rr := []) dX12_mean_16 rfl rfl rfl rfl (rc_of rfl rfl (by decide) ⟨rfl, by decide⟩) (Nat.le_of_ble_eq_true rfl) (Nat.le_of_ble_eq_true rfl) (by decide) y_no (Or.inl rfl) rfl ?_
  refine e_i2l (p := 20) dX12_mean_19 rfl ?_
  exact e_lretE dX12_mean_20 rfl ⟨rfl, hpq rfl⟩
set_option maxRecDepth 10000 in
theorem q_routes_ok {I : Nat → Nat → Int32} {J : Nat → Nat → Int64} {F : Nat → Nat → Option Nat} {nc ns : Nat} {D : oD} (hF : RFok F) (hM : oM I 98 D) (hW : WF D) (hO : I 95 14 = tol D) {s : Nat → Int32} (hs : stM I s) (hS : WFs D s) (ht1 : tol D = 1) (hfr : s 2 ≤ 0) {n : Nat} (h1n : 1 ≤ n) (hn : n ≤ 3) : Ew 10 mX12_routes 0 [.ref 95, .int (nI n), .null] [] ((SH, nc, ns), I, J, F) (QM nc ns I J F (.int ((rout0 D s n (J 95 25) (I 104)).1)) 0) := by
  have hD := hW.c
  have hH := hW.h
  have hT := hW.t
  have bt := hT.2
  obtain ⟨b0, b1, b2, b3, b4, b5, b6⟩ := hD.2
  refine we_aload_n (p := 1) dX12_routes_0 rfl rfl ?_
  refine we_callV_v (p := 4) (k' := 0) (a := [.ref 95]) (rr := []) dX12_routes_1 rfl rfl rfl rfl (rc_of rfl rfl (by decide) ⟨rfl, by decide⟩) (Nat.le_of_ble_eq_true rfl) (Nat.le_of_ble_eq_true rfl) (by decide) y_good (Or.inl rfl) rfl ?_
  refine we_aload_n (p := 5) dX12_routes_4 rfl rfl ?_
  refine we_iload_n (p := 6) dX12_routes_5 rfl rfl ?_
  obtain ⟨_, _, e1, rfl, I1, J1, F1, rfl, ⟨f1, k1, rfl, hg⟩⟩ := y_routeWhy (I := (hp_u (hp_u I 95 0 0) 95 11 0)) hF (oM_u (oM_u hM (by decide)) (by decide)) hW (I_u (I_u hO (by decide)) (by decide)) (stM_u (stM_u hs (by decide)) (by decide)) hS ht1 hfr h1n hn (l := J 95 25) (f := I 104) rfl ((hu_ne (by decide)).trans (hu_ne (by decide)))
  refine we_callV_int (p := 9) (k' := 9) (a := [.ref 95, .int (nI n)]) (rr := []) dX12_routes_6 rfl rfl rfl rfl (rc_of rfl rfl (by decide) ⟨rfl, by decide⟩) (Nat.le_of_ble_eq_true rfl) (Nat.le_of_ble_eq_true rfl) (by decide) e1 (Or.inl rfl) rfl ?_
  refine we_istore_n (ls1 := [.ref 95, .int (nI n), .int 0]) (p := 10) dX12_routes_9 rfl rfl ?_
  refine we_iload_n (p := 11) dX12_routes_10 rfl rfl ?_
  refine we_if_eq (t := 22) (p := 14) dX12_routes_11 (by decide) rfl rfl (fun hc11 => ?_) (fun hc11 => absurd (by decide) hc11)
  refine we_aload_n (p := 23) dX12_routes_22 rfl rfl ?_
  refine wf_getI (c := 11) (j := 24) (n := 37) (v := (rout0 D s n (J 95 25) (I 104)).1) (p := 26) dX12_routes_23 rfl rfl (by decide) (by decide) (Or.inl rfl) hg.1 rfl ?_
  exact wi_ret dX12_routes_26 rfl rfl (by decide) (⟨rfl, _, _, _, rfl, f1.wd (by omega) (by omega) (by omega) (by omega), k1, rfl⟩)
set_option maxRecDepth 10000 in
theorem q_route_ok0 {I : Nat → Nat → Int32} {J : Nat → Nat → Int64} {F : Nat → Nat → Option Nat} {nc ns : Nat} {D : oD} (hF : RFok F) (hM : oM I 98 D) (hW : WF D) (hO : I 95 14 = tol D) {s : Nat → Int32} (hs : stM I s) (hS : WFs D s) (ht1 : tol D = 1) (hfr : s 2 ≤ 0) {n : Nat} (h1n : 1 ≤ n) (hn : n ≤ 3) {b : Int32} (hz : (rout0 D s n (J 95 25) (I 104)).1 = 0) : Ew 10 mX12_route 0 [.ref 95, .int (nI n), .int b, .null, .null, .null, .null] [] ((SH, nc, ns), I, J, F) (QM nc ns I J F (.long (lowS 0 1 b)) 0) := by
  have hD := hW.c
  have hH := hW.h
  have hT := hW.t
  have bt := hT.2
  obtain ⟨b0, b1, b2, b3, b4, b5, b6⟩ := hD.2
  refine we_aload_n (p := 1) dX12_route_0 rfl rfl ?_
  refine we_callV_v (p := 4) (k' := 0) (a := [.ref 95]) (rr := []) dX12_route_1 rfl rfl rfl rfl (rc_of rfl rfl (by decide) ⟨rfl, by decide⟩) (Nat.le_of_ble_eq_true rfl) (Nat.le_of_ble_eq_true rfl) (by decide) y_good (Or.inl rfl) rfl ?_
  refine we_aload_n (p := 5) dX12_route_4 rfl rfl ?_
  refine we_iload_n (p := 6) dX12_route_5 rfl rfl ?_
  obtain ⟨_, _, e1, rfl, I1, J1, F1, rfl, ⟨f1, k1, rfl, hg⟩⟩ := y_routeWhy (I := (hp_u (hp_u I 95 0 0) 95 11 0)) hF (oM_u (oM_u hM (by decide)) (by decide)) hW (I_u (I_u hO (by decide)) (by decide)) (stM_u (stM_u hs (by decide)) (by decide)) hS ht1 hfr h1n hn (l := J 95 25) (f := I 104) rfl ((hu_ne (by decide)).trans (hu_ne (by decide)))
  refine we_callV_int (p := 9) (k' := 9) (a := [.ref 95, .int (nI n)]) (rr := []) dX12_route_6 rfl rfl rfl rfl (rc_of rfl rfl (by decide) ⟨rfl, by decide⟩) (Nat.le_of_ble_eq_true rfl) (Nat.le_of_ble_eq_true rfl) (by decide) e1 (Or.inl rfl) rfl ?_
  refine we_istore_n (ls1 := [.ref 95, .int (nI n), .int b, .int 0, .null, .null, .null]) (p := 10) dX12_route_9 rfl rfl ?_
  refine we_iload_n (p := 11) dX12_route_10 rfl rfl ?_
  refine we_if_eq (t := 21) (p := 14) dX12_route_11 (by decide) rfl rfl (fun hc11 => ?_) (fun hc11 => absurd (by decide) hc11)
  refine we_aload_n (p := 22) dX12_route_21 rfl rfl ?_
  refine wf_getI (c := 11) (j := 24) (n := 37) (v := (rout0 D s n (J 95 25) (I 104)).1) (p := 25) dX12_route_22 rfl rfl (by decide) (by decide) (Or.inl rfl) hg.1 rfl ?_
  refine we_if_ne (t := 35) (p := 28) dX12_route_25 (by decide) rfl rfl (fun hc25 => absurd hz hc25) (fun hc25 => ?_)
  refine we_lconst (v := 0) (p := 29) dX12_route_28 (by decide) rfl ?_
  refine we_lconst (v := 1) (p := 30) dX12_route_29 (by decide) rfl ?_
  refine we_iload_n (p := 31) dX12_route_30 rfl rfl ?_
  refine we_callS_long (p := 34) (k' := 0) (a := [.long 0, .long 1, .int b]) (rr := []) dX12_route_31 rfl rfl rfl rfl rfl (rc_st rfl) (Nat.le_of_ble_eq_true rfl) (Nat.le_of_ble_eq_true rfl) (by decide) (y_lowE (u := 0) (d := 1) (b := b) rfl rfl (by decide) (by decide) (by decide)) (Or.inl rfl) rfl ?_
  exact wl_ret dX12_route_34 rfl (⟨rfl, _, _, _, rfl, f1.wd (by omega) (by omega) (by omega) (by omega), k1, rfl⟩)
set_option maxRecDepth 10000 in
theorem y_rall {I : Nat → Nat → Int32} {J : Nat → Nat → Int64} {F : Nat → Nat → Option Nat} {nc ns : Nat} {D : oD} (hF : RFok F) (hM : oM I 98 D) (hW : WF D) {n : Nat} {b : Int32} (hn : n ≤ 3)  {Q : Option Value → hp_H → Prop} : ∀ (m j : Nat) (acc : Int64), j + m = n → Ew 10 mX12_route 65 [.ref 95, .int (nI n), .int b, .int 0, .long (gN (fun _ z => z * powS D 100) j m acc), .null, .int (nI n)] [] ((SH, nc, ns), I, J, F) Q → Ew 10 mX12_route 41 [.ref 95, .int (nI n), .int b, .int 0, .long acc, .null, .int (nI j)] [] ((SH, nc, ns), I, J, F) Q
  | 0, j, acc, hj => fun q => by
    have hD := hW.c
    have hH := hW.h
    have hT := hW.t
    have bt := hT.2
    obtain ⟨b0, b1, b2, b3, b4, b5, b6⟩ := hD.2
    have hjn : j = n := by omega
    refine we_iload (p := 43) dX12_route_41 rfl rfl ?_
    refine we_iload_n (p := 44) dX12_route_43 rfl rfl ?_
    refine we_icmp_ge (t := 65) (p := 47) dX12_route_44 (by decide) rfl rfl (fun hc44 => ?_) (fun hc44 => absurd (nle (by omega) (by omega)) hc44)
    subst hjn; exact q
  | m + 1, j, acc, hj => fun q => by
    have hD := hW.c
    have hH := hW.h
    have hT := hW.t
    have bt := hT.2
    obtain ⟨b0, b1, b2, b3, b4, b5, b6⟩ := hD.2
    refine we_iload (p := 43) dX12_route_41 rfl rfl ?_
    refine we_iload_n (p := 44) dX12_route_43 rfl rfl ?_
    refine we_icmp_ge (t := 65) (p := 47) dX12_route_44 (by decide) rfl rfl (fun hc44 => absurd hc44 (nge (by omega) (by omega))) (fun hc44 => ?_)
    refine we_lload (p := 49) dX12_route_47 rfl rfl ?_
    refine we_aload_n (p := 50) dX12_route_49 rfl rfl ?_
    refine we_ldc2 (p := 53) dX12_route_50 rfl rfl ?_
    refine we_callV_long (p := 56) (k' := 0) (a := [.ref 95, .long 100]) (rr := [.long acc]) dX12_route_53 rfl rfl rfl rfl (rc_of rfl rfl (by decide) ⟨rfl, by decide⟩) (Nat.le_of_ble_eq_true rfl) (Nat.le_of_ble_eq_true rfl) (by decide) (y_trials hF hM hW ) (Or.inl rfl) rfl ?_
    refine we_lmul (p := 57) dX12_route_56 rfl ?_
    refine we_lstore (ls1 := [.ref 95, .int (nI n), .int b, .int 0, .long (acc * (powS D 100)), .null, .int (nI j)]) (p := 59) dX12_route_57 rfl rfl ?_
    refine we_iinc (ls1 := [.ref 95, .int (nI n), .int b, .int 0, .long (acc * (powS D 100)), .null, .int ((nI j) + 1)]) (p := 62) dX12_route_59 rfl rfl rfl ?_
    refine we_goto (p := 41) dX12_route_62 (by decide) rfl ?_
    rw [nI_1]
    refine y_rall hF hM hW hn m (j + 1) (acc * (powS D 100))  (by omega) ?_
    simpa only [gN_s, bit, Int32.or_zero, Int32.add_zero, ↓reduceIte] using q
set_option maxRecDepth 10000 in
theorem q_route_ok {I : Nat → Nat → Int32} {J : Nat → Nat → Int64} {F : Nat → Nat → Option Nat} {nc ns : Nat} {D : oD} (hF : RFok F) (hM : oM I 98 D) (hW : WF D) (hO : I 95 14 = tol D) {s : Nat → Int32} (hs : stM I s) (hS : WFs D s) (ht1 : tol D = 1) (hfr : s 2 ≤ 0) {n : Nat} (h1n : 1 ≤ n) (hn : n ≤ 3) {u : Nat} {b : Int32} (hz : ¬ (rout0 D s n (J 95 25) (I 104)).1 = 0) (hu : whoS D n - (rout0 D s n (J 95 25) (I 104)).2.1 = lN u) (hu2 : u < 2 ^ 63) : Ew 10 mX12_route 0 [.ref 95, .int (nI n), .int b, .null, .null, .null, .null] [] ((SH, nc, ns), I, J, F) (QM nc ns I J F (.long (lowS u (wN D n) b)) 0) := by
  have hD := hW.c
  have hH := hW.h
  have hT := hW.t
  have bt := hT.2
  obtain ⟨b0, b1, b2, b3, b4, b5, b6⟩ := hD.2
  refine we_aload_n (p := 1) dX12_route_0 rfl rfl ?_
  refine we_callV_v (p := 4) (k' := 0) (a := [.ref 95]) (rr := []) dX12_route_1 rfl rfl rfl rfl (rc_of rfl rfl (by decide) ⟨rfl, by decide⟩) (Nat.le_of_ble_eq_true rfl) (Nat.le_of_ble_eq_true rfl) (by decide) y_good (Or.inl rfl) rfl ?_
  refine we_aload_n (p := 5) dX12_route_4 rfl rfl ?_
  refine we_iload_n (p := 6) dX12_route_5 rfl rfl ?_
  obtain ⟨_, _, e1, rfl, I1, J1, F1, rfl, ⟨f1, k1, rfl, hg⟩⟩ := y_routeWhy (I := (hp_u (hp_u I 95 0 0) 95 11 0)) hF (oM_u (oM_u hM (by decide)) (by decide)) hW (I_u (I_u hO (by decide)) (by decide)) (stM_u (stM_u hs (by decide)) (by decide)) hS ht1 hfr h1n hn (l := J 95 25) (f := I 104) rfl ((hu_ne (by decide)).trans (hu_ne (by decide)))
  refine we_callV_int (p := 9) (k' := 9) (a := [.ref 95, .int (nI n)]) (rr := []) dX12_route_6 rfl rfl rfl rfl (rc_of rfl rfl (by decide) ⟨rfl, by decide⟩) (Nat.le_of_ble_eq_true rfl) (Nat.le_of_ble_eq_true rfl) (by decide) e1 (Or.inl rfl) rfl ?_
  refine we_istore_n (ls1 := [.ref 95, .int (nI n), .int b, .int 0, .null, .null, .null]) (p := 10) dX12_route_9 rfl rfl ?_
  refine we_iload_n (p := 11) dX12_route_10 rfl rfl ?_
  refine we_if_eq (t := 21) (p := 14) dX12_route_11 (by decide) rfl rfl (fun hc11 => ?_) (fun hc11 => absurd (by decide) hc11)
  refine we_aload_n (p := 22) dX12_route_21 rfl rfl ?_
  refine wf_getI (c := 11) (j := 24) (n := 37) (v := (rout0 D s n (J 95 25) (I 104)).1) (p := 25) dX12_route_22 rfl rfl (by decide) (by decide) (Or.inl rfl) hg.1 rfl ?_
  refine we_if_ne (t := 35) (p := 28) dX12_route_25 (by decide) rfl rfl (fun hc25 => ?_) (fun hc25 => absurd hc25 hz)
  refine we_lconst (v := 1) (p := 36) dX12_route_35 (by decide) rfl ?_
  refine we_lstore (ls1 := [.ref 95, .int (nI n), .int b, .int 0, .long 1, .null, .null]) (p := 38) dX12_route_36 rfl rfl ?_
  refine we_iconst (v := 0) (p := 39) dX12_route_38 (by decide) rfl ?_
  refine we_istore (ls1 := [.ref 95, .int (nI n), .int b, .int 0, .long 1, .null, .int 0]) (p := 41) dX12_route_39 rfl rfl ?_
  refine y_rall hF (oM_fr (oM_u (oM_u hM (by decide)) (by decide)) (f1.1 98 (by omega) (by omega))) hW hn n 0 _ (by omega) ?_
  rw [show gN (fun _ z => z * powS D 100) 0 n 1 = whoS D n from rfl]
  refine we_lload (p := 67) dX12_route_65 rfl rfl ?_
  refine we_aload_n (p := 68) dX12_route_67 rfl rfl ?_
  refine wg_getJ (c := 11) (j := 25) (n := 37) (v := (rout0 D s n (J 95 25) (I 104)).2.1) (p := 71) dX12_route_68 rfl rfl (by decide) (by decide) rfl hg.2.1 rfl ?_
  refine we_lsub (p := 72) dX12_route_71 rfl ?_
  refine we_lload (p := 74) dX12_route_72 rfl rfl ?_
  refine we_iload_n (p := 75) dX12_route_74 rfl rfl ?_
  refine we_callS_long (p := 78) (k' := 0) (a := [.long ((whoS D n) - ((rout0 D s n (J 95 25) (I 104)).2.1)), .long (whoS D n), .int b]) (rr := []) dX12_route_75 rfl rfl rfl rfl rfl (rc_st rfl) (Nat.le_of_ble_eq_true rfl) (Nat.le_of_ble_eq_true rfl) (by decide) (y_lowE (u := u) (d := wN D n) (b := b) hu (who_n hW) hu2 (Nat.lt_of_le_of_lt (w_lt hW hn) (by decide)) w_pos) (Or.inl rfl) rfl ?_
  exact wl_ret dX12_route_78 rfl (⟨rfl, _, _, _, rfl, f1.wd (by omega) (by omega) (by omega) (by omega), k1, rfl⟩)
def sumM (D : oD) (s : Nat → Int32) (b : Nat → Int32) (i : Nat) (z : Int64) : Int64 := z + powS D (loveS D (b i).toNatClampNeg (lan s i * D 0 0)).toInt64
set_option maxRecDepth 10000 in
theorem y_mean_L {I : Nat → Nat → Int32} {J : Nat → Nat → Int64} {F : Nat → Nat → Option Nat} {nc ns : Nat} {D : oD} (hF : RFok F) (hM : oM I 98 D) (hW : WF D) {s : Nat → Int32} (hs : stM I s) {n : Nat} {b : Int32} {a : rA} (hn : n ≤ 3) (hg : rM n I J a) (hb : ∀ i, i < n → ∃ w, w < dN D 2 ∧ a.2.2 i = nI w) (hz : ¬ a.1 ≤ 0)  {Q : Option Value → hp_H → Prop} : ∀ (m j : Nat) (acc : Int64), j + m = n → Ew 10 mX12_mean 78 [.ref 95, .int (nI n), .int b, .int 0, .long (gN (sumM D s a.2.2) j m acc), .null, .int (nI n)] [] ((SH, nc, ns), I, J, F) Q → Ew 10 mX12_mean 27 [.ref 95, .int (nI n), .int b, .int 0, .long acc, .null, .int (nI j)] [] ((SH, nc, ns), I, J, F) Q
  | 0, j, acc, hj => fun q => by
    have hD := hW.c
    have hH := hW.h
    have hT := hW.t
    have bt := hT.2
    obtain ⟨b0, b1, b2, b3, b4, b5, b6⟩ := hD.2
    have hjn : j = n := by omega
    refine we_iload (p := 29) dX12_mean_27 rfl rfl ?_
    refine we_iload_n (p := 30) dX12_mean_29 rfl rfl ?_
    refine we_icmp_ge (t := 78) (p := 33) dX12_mean_30 (by decide) rfl rfl (fun hc30 => ?_) (fun hc30 => absurd (nle (by omega) (by omega)) hc30)
    subst hjn; exact q
  | m + 1, j, acc, hj => fun q => by
    have hD := hW.c
    have hH := hW.h
    have hT := hW.t
    have bt := hT.2
    obtain ⟨b0, b1, b2, b3, b4, b5, b6⟩ := hD.2
    refine we_iload (p := 29) dX12_mean_27 rfl rfl ?_
    refine we_iload_n (p := 30) dX12_mean_29 rfl rfl ?_
    refine we_icmp_ge (t := 78) (p := 33) dX12_mean_30 (by decide) rfl rfl (fun hc30 => absurd hc30 (nge (by omega) (by omega))) (fun hc30 => ?_)
    refine we_aload_n (p := 34) dX12_mean_33 rfl rfl ?_
    refine wf_getI (c := 11) (j := 24) (n := 37) (v := a.1) (p := 37) dX12_mean_34 rfl rfl (by decide) (by decide) (Or.inl rfl) hg.1 rfl ?_
    refine we_if_le (t := 78) (p := 40) dX12_mean_37 (by decide) rfl rfl (fun hc37 => absurd hc37 hz) (fun hc37 => ?_)
    refine we_lload (p := 42) dX12_mean_40 rfl rfl ?_
    refine we_aload_n (p := 43) dX12_mean_42 rfl rfl ?_
    refine we_aload_n (p := 44) dX12_mean_43 rfl rfl ?_
    refine we_aload_n (p := 45) dX12_mean_44 rfl rfl ?_
    refine we_getR (c := 11) (j := 23) (n := 37) (b := 104) (p := 48) dX12_mean_45 rfl rfl (by decide) (by decide) rfl (r_95_23 hF) rfl ?_
    refine we_iload (p := 50) dX12_mean_48 rfl rfl ?_
    refine wf_iald (n := 3) (i := j) (v := a.2.2 j) (p := 51) dX12_mean_50 rfl (by decide) (in_nJ (by omega) (by decide)) (nI_cl (by omega)) (hg.2.2 j (by omega)) rfl ?_
    obtain ⟨w, hw, ew⟩ := hb j (by omega)
    rw [ew]
    refine we_aload_n (p := 52) dX12_mean_51 rfl rfl ?_
    refine we_getR (c := 11) (j := 17) (n := 37) (b := 100) (p := 55) dX12_mean_52 rfl rfl (by decide) (by decide) rfl (r_95_17 hF) rfl ?_
    refine we_iconst (v := 0) (p := 56) dX12_mean_55 (by decide) rfl ?_
    refine wf_iald (n := 6) (i := 0) (v := s 0) (p := 57) dX12_mean_56 rfl (by decide) (by decide) (by decide) (hs 0 (by decide)) rfl ?_
    refine we_iload (p := 59) dX12_mean_57 rfl rfl ?_
    refine we_iadd (p := 60) dX12_mean_59 rfl ?_
    refine we_iconst (v := 1) (p := 61) dX12_mean_60 (by decide) rfl ?_
    refine we_iadd (p := 62) dX12_mean_61 rfl ?_
    rw [lan_eq]
    refine we_callV_int (p := 65) (k' := 4) (a := [.ref 95, .int (nI w), .int (lan s j)]) (rr := [.ref 95, .long acc]) dX12_mean_62 rfl rfl rfl rfl (rc_of rfl rfl (by decide) ⟨rfl, by decide⟩) (Nat.le_of_ble_eq_true rfl) (Nat.le_of_ble_eq_true rfl) (by decide) (y_loveOf hF hM hW (by omega)) (Or.inl rfl) rfl ?_
    refine we_i2l (p := 66) dX12_mean_65 rfl ?_
    refine we_callV_long (p := 69) (k' := 0) (a := [.ref 95, .long ((loveS D w ((lan s j) * D 0 0)).toInt64)]) (rr := [.long acc]) dX12_mean_66 rfl rfl rfl rfl (rc_of rfl rfl (by decide) ⟨rfl, by decide⟩) (Nat.le_of_ble_eq_true rfl) (Nat.le_of_ble_eq_true rfl) (by decide) (y_trials hF hM hW ) (Or.inl rfl) rfl ?_
    refine we_ladd (p := 70) dX12_mean_69 rfl ?_
    refine we_lstore (ls1 := [.ref 95, .int (nI n), .int b, .int 0, .long (acc + (powS D ((loveS D w ((lan s j) * D 0 0)).toInt64))), .null, .int (nI j)]) (p := 72) dX12_mean_70 rfl rfl ?_
    refine we_iinc (ls1 := [.ref 95, .int (nI n), .int b, .int 0, .long (acc + (powS D ((loveS D w ((lan s j) * D 0 0)).toInt64))), .null, .int ((nI j) + 1)]) (p := 75) dX12_mean_72 rfl rfl rfl ?_
    refine we_goto (p := 27) dX12_mean_75 (by decide) rfl ?_
    rw [nI_1]
    refine y_mean_L hF hM hW hs hn hg hb hz m (j + 1) (acc + (powS D ((loveS D w ((lan s j) * D 0 0)).toInt64)))  (by omega) ?_
    simpa only [gN_s, sumM, ew, (nI_cl (show w < 1000 by omega)), bit, Int32.or_zero, Int32.add_zero, ↓reduceIte] using q
set_option maxRecDepth 10000 in
theorem q_mean_ok {I : Nat → Nat → Int32} {J : Nat → Nat → Int64} {F : Nat → Nat → Option Nat} {nc ns : Nat} {D : oD} (hF : RFok F) (hM : oM I 98 D) (hW : WF D) (hO : I 95 14 = tol D) {s : Nat → Int32} (hs : stM I s) (hS : WFs D s) (ht1 : tol D = 1) (hfr : s 2 ≤ 0) {n : Nat} (h1n : 1 ≤ n) (hn : n ≤ 3) {u : Nat} {b : Int32} (hz : ¬ (rout0 D s n (J 95 25) (I 104)).1 ≤ 0) (hb : ∀ i, i < n → ∃ w, w < dN D 2 ∧ (rout0 D s n (J 95 25) (I 104)).2.2 i = nI w) (hu : gN (sumM D s (rout0 D s n (J 95 25) (I 104)).2.2) 0 n 0 = lN u) (hu2 : u < 2 ^ 63) : Ew 10 mX12_mean 0 [.ref 95, .int (nI n), .int b, .null, .null, .null, .null] [] ((SH, nc, ns), I, J, F) (QM nc ns I J F (.long (lowS u (100 ^ tN D) b)) 0) := by
  have hD := hW.c
  have hH := hW.h
  have hT := hW.t
  have bt := hT.2
  obtain ⟨b0, b1, b2, b3, b4, b5, b6⟩ := hD.2
  refine we_aload_n (p := 1) dX12_mean_0 rfl rfl ?_
  refine we_callV_v (p := 4) (k' := 0) (a := [.ref 95]) (rr := []) dX12_mean_1 rfl rfl rfl rfl (rc_of rfl rfl (by decide) ⟨rfl, by decide⟩) (Nat.le_of_ble_eq_true rfl) (Nat.le_of_ble_eq_true rfl) (by decide) y_good (Or.inl rfl) rfl ?_
  refine we_aload_n (p := 5) dX12_mean_4 rfl rfl ?_
  refine we_iload_n (p := 6) dX12_mean_5 rfl rfl ?_
  obtain ⟨_, _, e1, rfl, I1, J1, F1, rfl, ⟨f1, k1, rfl, hg⟩⟩ := y_routeWhy (I := (hp_u (hp_u I 95 0 0) 95 11 0)) hF (oM_u (oM_u hM (by decide)) (by decide)) hW (I_u (I_u hO (by decide)) (by decide)) (stM_u (stM_u hs (by decide)) (by decide)) hS ht1 hfr h1n hn (l := J 95 25) (f := I 104) rfl ((hu_ne (by decide)).trans (hu_ne (by decide)))
  refine we_callV_int (p := 9) (k' := 9) (a := [.ref 95, .int (nI n)]) (rr := []) dX12_mean_6 rfl rfl rfl rfl (rc_of rfl rfl (by decide) ⟨rfl, by decide⟩) (Nat.le_of_ble_eq_true rfl) (Nat.le_of_ble_eq_true rfl) (by decide) e1 (Or.inl rfl) rfl ?_
  refine we_istore_n (ls1 := [.ref 95, .int (nI n), .int b, .int 0, .null, .null, .null]) (p := 10) dX12_mean_9 rfl rfl ?_
  refine we_iload_n (p := 11) dX12_mean_10 rfl rfl ?_
  refine we_if_eq (t := 21) (p := 14) dX12_mean_11 (by decide) rfl rfl (fun hc11 => ?_) (fun hc11 => absurd (by decide) hc11)
  refine we_lconst (v := 0) (p := 22) dX12_mean_21 (by decide) rfl ?_
  refine we_lstore (ls1 := [.ref 95, .int (nI n), .int b, .int 0, .long 0, .null, .null]) (p := 24) dX12_mean_22 rfl rfl ?_
  refine we_iconst (v := 0) (p := 25) dX12_mean_24 (by decide) rfl ?_
  refine we_istore (ls1 := [.ref 95, .int (nI n), .int b, .int 0, .long 0, .null, .int 0]) (p := 27) dX12_mean_25 rfl rfl ?_
  refine y_mean_L hF (oM_fr (oM_u (oM_u hM (by decide)) (by decide)) (f1.1 98 (by omega) (by omega))) hW (stM_fr (stM_u (stM_u hs (by decide)) (by decide)) (f1.1 100 (by omega) (by omega))) hn hg hb hz n 0 _ (by omega) ?_
  refine we_lload (p := 80) dX12_mean_78 rfl rfl ?_
  refine we_aload_n (p := 81) dX12_mean_80 rfl rfl ?_
  refine we_ldc2 (p := 84) dX12_mean_81 rfl rfl ?_
  refine we_callV_long (p := 87) (k' := 0) (a := [.ref 95, .long 100]) (rr := [.long (gN (sumM D s (rout0 D s n (J 95 25) (I 104)).2.2) 0 n 0)]) dX12_mean_84 rfl rfl rfl rfl (rc_of rfl rfl (by decide) ⟨rfl, by decide⟩) (Nat.le_of_ble_eq_true rfl) (Nat.le_of_ble_eq_true rfl) (by decide) (y_trials hF (oM_fr (oM_u (oM_u hM (by decide)) (by decide)) (f1.1 98 (by omega) (by omega))) hW ) (Or.inl rfl) rfl ?_
  refine we_iload_n (p := 88) dX12_mean_87 rfl rfl ?_
  refine we_callS_long (p := 91) (k' := 0) (a := [.long (gN (sumM D s (rout0 D s n (J 95 25) (I 104)).2.2) 0 n 0), .long (powS D 100), .int b]) (rr := []) dX12_mean_88 rfl rfl rfl rfl rfl (rc_st rfl) (Nat.le_of_ble_eq_true rfl) (Nat.le_of_ble_eq_true rfl) (by decide) (y_lowE (u := u) (d := 100 ^ tN D) (b := b) hu (pow_100' hW) hu2 (h_lt hW) (Nat.pow_pos (by omega))) (Or.inl rfl) rfl ?_
  exact wl_ret dX12_mean_91 rfl (⟨rfl, _, _, _, rfl, f1.wd (by omega) (by omega) (by omega) (by omega), k1, rfl⟩)
set_option maxRecDepth 10000 in
theorem q_mean_ok0 {I : Nat → Nat → Int32} {J : Nat → Nat → Int64} {F : Nat → Nat → Option Nat} {nc ns : Nat} {D : oD} (hF : RFok F) (hM : oM I 98 D) (hW : WF D) (hO : I 95 14 = tol D) {s : Nat → Int32} (hs : stM I s) (hS : WFs D s) (ht1 : tol D = 1) (hfr : s 2 ≤ 0) {n : Nat} (h1n : 1 ≤ n) (hn : n ≤ 3) {b : Int32} (hz : (rout0 D s n (J 95 25) (I 104)).1 ≤ 0) : Ew 10 mX12_mean 0 [.ref 95, .int (nI n), .int b, .null, .null, .null, .null] [] ((SH, nc, ns), I, J, F) (QM nc ns I J F (.long (lowS 0 (100 ^ tN D) b)) 0) := by
  have hD := hW.c
  have hH := hW.h
  have hT := hW.t
  have bt := hT.2
  obtain ⟨b0, b1, b2, b3, b4, b5, b6⟩ := hD.2
  refine we_aload_n (p := 1) dX12_mean_0 rfl rfl ?_
  refine we_callV_v (p := 4) (k' := 0) (a := [.ref 95]) (rr := []) dX12_mean_1 rfl rfl rfl rfl (rc_of rfl rfl (by decide) ⟨rfl, by decide⟩) (Nat.le_of_ble_eq_true rfl) (Nat.le_of_ble_eq_true rfl) (by decide) y_good (Or.inl rfl) rfl ?_
  refine we_aload_n (p := 5) dX12_mean_4 rfl rfl ?_
  refine we_iload_n (p := 6) dX12_mean_5 rfl rfl ?_
  obtain ⟨_, _, e1, rfl, I1, J1, F1, rfl, ⟨f1, k1, rfl, hg⟩⟩ := y_routeWhy (I := (hp_u (hp_u I 95 0 0) 95 11 0)) hF (oM_u (oM_u hM (by decide)) (by decide)) hW (I_u (I_u hO (by decide)) (by decide)) (stM_u (stM_u hs (by decide)) (by decide)) hS ht1 hfr h1n hn (l := J 95 25) (f := I 104) rfl ((hu_ne (by decide)).trans (hu_ne (by decide)))
  refine we_callV_int (p := 9) (k' := 9) (a := [.ref 95, .int (nI n)]) (rr := []) dX12_mean_6 rfl rfl rfl rfl (rc_of rfl rfl (by decide) ⟨rfl, by decide⟩) (Nat.le_of_ble_eq_true rfl) (Nat.le_of_ble_eq_true rfl) (by decide) e1 (Or.inl rfl) rfl ?_
  refine we_istore_n (ls1 := [.ref 95, .int (nI n), .int b, .int 0, .null, .null, .null]) (p := 10) dX12_mean_9 rfl rfl ?_
  refine we_iload_n (p := 11) dX12_mean_10 rfl rfl ?_
  refine we_if_eq (t := 21) (p := 14) dX12_mean_11 (by decide) rfl rfl (fun hc11 => ?_) (fun hc11 => absurd (by decide) hc11)
  refine we_lconst (v := 0) (p := 22) dX12_mean_21 (by decide) rfl ?_
  refine we_lstore (ls1 := [.ref 95, .int (nI n), .int b, .int 0, .long 0, .null, .null]) (p := 24) dX12_mean_22 rfl rfl ?_
  refine we_iconst (v := 0) (p := 25) dX12_mean_24 (by decide) rfl ?_
  refine we_istore (ls1 := [.ref 95, .int (nI n), .int b, .int 0, .long 0, .null, .int 0]) (p := 27) dX12_mean_25 rfl rfl ?_
  refine we_iload (p := 29) dX12_mean_27 rfl rfl ?_
  refine we_iload_n (p := 30) dX12_mean_29 rfl rfl ?_
  refine we_icmp_ge (t := 78) (p := 33) dX12_mean_30 (by decide) rfl rfl (fun hc30 => absurd hc30 (nI_ge (a := 0) (b := n) (by omega) (by omega))) (fun hc30 => ?_)
  refine we_aload_n (p := 34) dX12_mean_33 rfl rfl ?_
  refine wf_getI (c := 11) (j := 24) (n := 37) (v := (rout0 D s n (J 95 25) (I 104)).1) (p := 37) dX12_mean_34 rfl rfl (by decide) (by decide) (Or.inl rfl) hg.1 rfl ?_
  refine we_if_le (t := 78) (p := 40) dX12_mean_37 (by decide) rfl rfl (fun hc37 => ?_) (fun hc37 => absurd hz hc37)
  refine we_lload (p := 80) dX12_mean_78 rfl rfl ?_
  refine we_aload_n (p := 81) dX12_mean_80 rfl rfl ?_
  refine we_ldc2 (p := 84) dX12_mean_81 rfl rfl ?_
  refine we_callV_long (p := 87) (k' := 0) (a := [.ref 95, .long 100]) (rr := [.long 0]) dX12_mean_84 rfl rfl rfl rfl (rc_of rfl rfl (by decide) ⟨rfl, by decide⟩) (Nat.le_of_ble_eq_true rfl) (Nat.le_of_ble_eq_true rfl) (by decide) (y_trials hF (oM_fr (oM_u (oM_u hM (by decide)) (by decide)) (f1.1 98 (by omega) (by omega))) hW ) (Or.inl rfl) rfl ?_
  refine we_iload_n (p := 88) dX12_mean_87 rfl rfl ?_
  refine we_callS_long (p := 91) (k' := 0) (a := [.long 0, .long (powS D 100), .int b]) (rr := []) dX12_mean_88 rfl rfl rfl rfl rfl (rc_st rfl) (Nat.le_of_ble_eq_true rfl) (Nat.le_of_ble_eq_true rfl) (by decide) (y_lowE (u := 0) (d := 100 ^ tN D) (b := b) rfl (pow_100' hW) (by decide) (h_lt hW) (Nat.pow_pos (by omega))) (Or.inl rfl) rfl ?_
  exact wl_ret dX12_mean_91 rfl (⟨rfl, _, _, _, rfl, f1.wd (by omega) (by omega) (by omega) (by omega), k1, rfl⟩)
set_option maxRecDepth 10000 in
theorem q_routeAt_no0 {I : Nat → Nat → Int32} {J : Nat → Nat → Int64} {F : Nat → Nat → Option Nat} {nc ns : Nat} {D : oD} (hF : RFok F) (hM : oM I 98 D) (hW : WF D) (hO : I 95 14 = tol D) {s : Nat → Int32} (hs : stM I s) {v i : Int32} (ht0 : tol D = 0)  : Ev 10 mX12_routeAt 0 [.ref 95, .int v, .int i, .null] [] ((SH, nc, ns), I, J, F) (some (.int (-1))) ((SH, nc, ns), hp_u (hp_u I 95 0 0) 95 11 1, J, F) := by
  have hD := hW.c
  have hH := hW.h
  have hT := hW.t
  have bt := hT.2
  obtain ⟨b0, b1, b2, b3, b4, b5, b6⟩ := hD.2
  refine e_aload_n (p := 1) dX12_routeAt_0 rfl rfl ?_
  refine e_callV_v (p := 4) (k' := 0) (a := [.ref 95]) (rr := []) dX12_routeAt_1 rfl rfl rfl rfl (rc_of rfl rfl (by decide) ⟨rfl, by decide⟩) (Nat.le_of_ble_eq_true rfl) (Nat.le_of_ble_eq_true rfl) (by decide) y_good (Or.inl rfl) rfl ?_
  refine e_aload_n (p := 5) dX12_routeAt_4 rfl rfl ?_
  refine f_getI (c := 11) (j := 14) (n := 37) (v := tol D) (p := 8) dX12_routeAt_5 rfl rfl (by decide) (by decide) (Or.inr rfl) (I_u (I_u hO (by decide)) (by decide)) rfl ?_
  refine e_if_ne (t := 17) (p := 11) dX12_routeAt_8 (by decide) rfl rfl (fun hc8 => absurd ht0 hc8) (fun hc8 => ?_)
  refine e_aload_n (p := 12) dX12_routeAt_11 rfl rfl ?_
  refine e_iconst (v := 1) (p := 13) dX12_routeAt_12 (by decide) rfl ?_
  refine e_callV_int (p := 16) (k' := 0) (a := [.ref 95, .int 1]) (rr := []) dX12_routeAt_13 rfl rfl rfl rfl (rc_of rfl rfl (by decide) ⟨rfl, by decide⟩) (Nat.le_of_ble_eq_true rfl) (Nat.le_of_ble_eq_true rfl) (by decide) y_no (Or.inl rfl) rfl ?_
  exact e_iretE dX12_routeAt_16 rfl rfl (by decide) ⟨rfl, hpq rfl⟩
set_option maxRecDepth 10000 in
theorem q_routeAt_no1 {I : Nat → Nat → Int32} {J : Nat → Nat → Int64} {F : Nat → Nat → Option Nat} {nc ns : Nat} {D : oD} (hF : RFok F) (hM : oM I 98 D) (hW : WF D) (hO : I 95 14 = tol D) {s : Nat → Int32} (hs : stM I s) {v i : Int32} (htn : ¬ tol D = 0) (ht : ¬ fwS (tol D) (inS v 1 3) (s 2) = 0)  : Ev 10 mX12_routeAt 0 [.ref 95, .int v, .int i, .null] [] ((SH, nc, ns), I, J, F) (some (.int (-1))) ((SH, nc, ns), hp_u (hp_u I 95 0 0) 95 11 (fwS (tol D) (inS v 1 3) (s 2)), J, F) := by
  have hD := hW.c
  have hH := hW.h
  have hT := hW.t
  have bt := hT.2
  obtain ⟨b0, b1, b2, b3, b4, b5, b6⟩ := hD.2
  refine e_aload_n (p := 1) dX12_routeAt_0 rfl rfl ?_
  refine e_callV_v (p := 4) (k' := 0) (a := [.ref 95]) (rr := []) dX12_routeAt_1 rfl rfl rfl rfl (rc_of rfl rfl (by decide) ⟨rfl, by decide⟩) (Nat.le_of_ble_eq_true rfl) (Nat.le_of_ble_eq_true rfl) (by decide) y_good (Or.inl rfl) rfl ?_
  refine e_aload_n (p := 5) dX12_routeAt_4 rfl rfl ?_
  refine f_getI (c := 11) (j := 14) (n := 37) (v := tol D) (p := 8) dX12_routeAt_5 rfl rfl (by decide) (by decide) (Or.inr rfl) (I_u (I_u hO (by decide)) (by decide)) rfl ?_
  refine e_if_ne (t := 17) (p := 11) dX12_routeAt_8 (by decide) rfl rfl (fun hc8 => ?_) (fun hc8 => absurd hc8 htn)
  refine e_aload_n (p := 18) dX12_routeAt_17 rfl rfl ?_
  refine e_iload_n (p := 19) dX12_routeAt_18 rfl rfl ?_
  refine e_callV_int (p := 22) (k' := 9) (a := [.ref 95, .int v]) (rr := []) dX12_routeAt_19 rfl rfl rfl rfl (rc_of rfl rfl (by decide) ⟨rfl, by decide⟩) (Nat.le_of_ble_eq_true rfl) (Nat.le_of_ble_eq_true rfl) (by decide) (y_routeWhy_no hF (oM_u (oM_u hM (by decide)) (by decide)) hW (I_u (I_u hO (by decide)) (by decide)) (stM_u (stM_u hs (by decide)) (by decide)) ht) (Or.inl rfl) rfl ?_
  refine e_istore_n (ls1 := [.ref 95, .int v, .int i, .int (fwS (tol D) (inS v 1 3) (s 2))]) (p := 23) dX12_routeAt_22 rfl rfl ?_
  refine e_iload_n (p := 24) dX12_routeAt_23 rfl rfl ?_
  refine e_if_ne (t := 37) (p := 27) dX12_routeAt_24 (by decide) rfl rfl (fun hc24 => ?_) (fun hc24 => absurd hc24 ht)
  refine e_iload_n (p := 38) dX12_routeAt_37 rfl rfl ?_
  refine e_if_ne (t := 54) (p := 41) dX12_routeAt_38 (by decide) rfl rfl (fun hc38 => ?_) (fun hc38 => absurd hc38 ht)
  refine e_iload_n (p := 55) dX12_routeAt_54 rfl rfl ?_
  refine e_if_eq (t := 66) (p := 58) dX12_routeAt_55 (by decide) rfl rfl (fun hc55 => absurd hc55 ht) (fun hc55 => ?_)
  refine e_aload_n (p := 59) dX12_routeAt_58 rfl rfl ?_
  refine e_iload_n (p := 60) dX12_routeAt_59 rfl rfl ?_
  refine e_callV_int (p := 63) (k' := 0) (a := [.ref 95, .int (fwS (tol D) (inS v 1 3) (s 2))]) (rr := []) dX12_routeAt_60 rfl rfl rfl rfl (rc_of rfl rfl (by decide) ⟨rfl, by decide⟩) (Nat.le_of_ble_eq_true rfl) (Nat.le_of_ble_eq_true rfl) (by decide) y_no (Or.inl rfl) rfl ?_
  refine e_goto (p := 72) dX12_routeAt_63 (by decide) rfl ?_
  exact e_iretE dX12_routeAt_72 rfl rfl (by decide) ⟨rfl, hpq rfl⟩
set_option maxRecDepth 10000 in
theorem q_routeAt_ok6 {I : Nat → Nat → Int32} {J : Nat → Nat → Int64} {F : Nat → Nat → Option Nat} {nc ns : Nat} {D : oD} (hF : RFok F) (hM : oM I 98 D) (hW : WF D) (hO : I 95 14 = tol D) {s : Nat → Int32} (hs : stM I s) (hS : WFs D s) (ht1 : tol D = 1) (hfr : s 2 ≤ 0) {n : Nat} (h1n : 1 ≤ n) (hn : n ≤ 3) {i : Int32} (hz : (rout0 D s n (J 95 25) (I 104)).1 = 0) : Ew 10 mX12_routeAt 0 [.ref 95, .int (nI n), .int i, .null] [] ((SH, nc, ns), I, J, F) (QM nc ns I J F (.int (-1)) 6) := by
  have hD := hW.c
  have hH := hW.h
  have hT := hW.t
  have bt := hT.2
  obtain ⟨b0, b1, b2, b3, b4, b5, b6⟩ := hD.2
  refine we_aload_n (p := 1) dX12_routeAt_0 rfl rfl ?_
  refine we_callV_v (p := 4) (k' := 0) (a := [.ref 95]) (rr := []) dX12_routeAt_1 rfl rfl rfl rfl (rc_of rfl rfl (by decide) ⟨rfl, by decide⟩) (Nat.le_of_ble_eq_true rfl) (Nat.le_of_ble_eq_true rfl) (by decide) y_good (Or.inl rfl) rfl ?_
  refine we_aload_n (p := 5) dX12_routeAt_4 rfl rfl ?_
  refine wf_getI (c := 11) (j := 14) (n := 37) (v := 1) (p := 8) dX12_routeAt_5 rfl rfl (by decide) (by decide) (Or.inr rfl) ((I_u (I_u hO (by decide)) (by decide)).trans ht1) rfl ?_
  refine we_if_ne (t := 17) (p := 11) dX12_routeAt_8 (by decide) rfl rfl (fun hc8 => ?_) (fun hc8 => absurd hc8 (by decide))
  refine we_aload_n (p := 18) dX12_routeAt_17 rfl rfl ?_
  refine we_iload_n (p := 19) dX12_routeAt_18 rfl rfl ?_
  obtain ⟨_, _, e1, rfl, I1, J1, F1, rfl, ⟨f1, k1, rfl, hg⟩⟩ := y_routeWhy (I := (hp_u (hp_u I 95 0 0) 95 11 0)) hF (oM_u (oM_u hM (by decide)) (by decide)) hW (I_u (I_u hO (by decide)) (by decide)) (stM_u (stM_u hs (by decide)) (by decide)) hS ht1 hfr h1n hn (l := J 95 25) (f := I 104) rfl ((hu_ne (by decide)).trans (hu_ne (by decide)))
  refine we_callV_int (p := 22) (k' := 9) (a := [.ref 95, .int (nI n)]) (rr := []) dX12_routeAt_19 rfl rfl rfl rfl (rc_of rfl rfl (by decide) ⟨rfl, by decide⟩) (Nat.le_of_ble_eq_true rfl) (Nat.le_of_ble_eq_true rfl) (by decide) e1 (Or.inl rfl) rfl ?_
  refine we_istore_n (ls1 := [.ref 95, .int (nI n), .int i, .int 0]) (p := 23) dX12_routeAt_22 rfl rfl ?_
  refine we_iload_n (p := 24) dX12_routeAt_23 rfl rfl ?_
  refine we_if_ne (t := 37) (p := 27) dX12_routeAt_24 (by decide) rfl rfl (fun hc24 => absurd (by decide) hc24) (fun hc24 => ?_)
  refine we_aload_n (p := 28) dX12_routeAt_27 rfl rfl ?_
  refine wf_getI (c := 11) (j := 24) (n := 37) (v := (rout0 D s n (J 95 25) (I 104)).1) (p := 31) dX12_routeAt_28 rfl rfl (by decide) (by decide) (Or.inl rfl) hg.1 rfl ?_
  refine we_if_ne (t := 37) (p := 34) dX12_routeAt_31 (by decide) rfl rfl (fun hc31 => absurd hz hc31) (fun hc31 => ?_)
  refine we_bipush (v := 6) (p := 36) dX12_routeAt_34 (by decide) rfl ?_
  refine we_istore_n (ls1 := [.ref 95, .int (nI n), .int i, .int 6]) (p := 37) dX12_routeAt_36 rfl rfl ?_
  refine we_iload_n (p := 38) dX12_routeAt_37 rfl rfl ?_
  refine we_if_ne (t := 54) (p := 41) dX12_routeAt_38 (by decide) rfl rfl (fun hc38 => ?_) (fun hc38 => absurd hc38 (by decide))
  refine we_iload_n (p := 55) dX12_routeAt_54 rfl rfl ?_
  refine we_if_eq (t := 66) (p := 58) dX12_routeAt_55 (by decide) rfl rfl (fun hc55 => absurd hc55 (by decide)) (fun hc55 => ?_)
  refine we_aload_n (p := 59) dX12_routeAt_58 rfl rfl ?_
  refine we_iload_n (p := 60) dX12_routeAt_59 rfl rfl ?_
  refine we_callV_int (p := 63) (k' := 0) (a := [.ref 95, .int 6]) (rr := []) dX12_routeAt_60 rfl rfl rfl rfl (rc_of rfl rfl (by decide) ⟨rfl, by decide⟩) (Nat.le_of_ble_eq_true rfl) (Nat.le_of_ble_eq_true rfl) (by decide) y_no (Or.inl rfl) rfl ?_
  refine we_goto (p := 72) dX12_routeAt_63 (by decide) rfl ?_
  exact wi_ret dX12_routeAt_72 rfl rfl (by decide) (⟨rfl, _, _, _, rfl, (f1.wd (by omega) (by omega) (by omega) (by omega)).re, k1, rfl⟩)
set_option maxRecDepth 10000 in
theorem q_routeAt_ok1 {I : Nat → Nat → Int32} {J : Nat → Nat → Int64} {F : Nat → Nat → Option Nat} {nc ns : Nat} {D : oD} (hF : RFok F) (hM : oM I 98 D) (hW : WF D) (hO : I 95 14 = tol D) {s : Nat → Int32} (hs : stM I s) (hS : WFs D s) (ht1 : tol D = 1) (hfr : s 2 ≤ 0) {n : Nat} (h1n : 1 ≤ n) (hn : n ≤ 3) {i : Int32} (hz : ¬ (rout0 D s n (J 95 25) (I 104)).1 = 0) (hix : ixB i n = 0) : Ew 10 mX12_routeAt 0 [.ref 95, .int (nI n), .int i, .null] [] ((SH, nc, ns), I, J, F) (QM nc ns I J F (.int (-1)) 1) := by
  have hD := hW.c
  have hH := hW.h
  have hT := hW.t
  have bt := hT.2
  obtain ⟨b0, b1, b2, b3, b4, b5, b6⟩ := hD.2
  refine we_aload_n (p := 1) dX12_routeAt_0 rfl rfl ?_
  refine we_callV_v (p := 4) (k' := 0) (a := [.ref 95]) (rr := []) dX12_routeAt_1 rfl rfl rfl rfl (rc_of rfl rfl (by decide) ⟨rfl, by decide⟩) (Nat.le_of_ble_eq_true rfl) (Nat.le_of_ble_eq_true rfl) (by decide) y_good (Or.inl rfl) rfl ?_
  refine we_aload_n (p := 5) dX12_routeAt_4 rfl rfl ?_
  refine wf_getI (c := 11) (j := 14) (n := 37) (v := 1) (p := 8) dX12_routeAt_5 rfl rfl (by decide) (by decide) (Or.inr rfl) ((I_u (I_u hO (by decide)) (by decide)).trans ht1) rfl ?_
  refine we_if_ne (t := 17) (p := 11) dX12_routeAt_8 (by decide) rfl rfl (fun hc8 => ?_) (fun hc8 => absurd hc8 (by decide))
  refine we_aload_n (p := 18) dX12_routeAt_17 rfl rfl ?_
  refine we_iload_n (p := 19) dX12_routeAt_18 rfl rfl ?_
  obtain ⟨_, _, e1, rfl, I1, J1, F1, rfl, ⟨f1, k1, rfl, hg⟩⟩ := y_routeWhy (I := (hp_u (hp_u I 95 0 0) 95 11 0)) hF (oM_u (oM_u hM (by decide)) (by decide)) hW (I_u (I_u hO (by decide)) (by decide)) (stM_u (stM_u hs (by decide)) (by decide)) hS ht1 hfr h1n hn (l := J 95 25) (f := I 104) rfl ((hu_ne (by decide)).trans (hu_ne (by decide)))
  refine we_callV_int (p := 22) (k' := 9) (a := [.ref 95, .int (nI n)]) (rr := []) dX12_routeAt_19 rfl rfl rfl rfl (rc_of rfl rfl (by decide) ⟨rfl, by decide⟩) (Nat.le_of_ble_eq_true rfl) (Nat.le_of_ble_eq_true rfl) (by decide) e1 (Or.inl rfl) rfl ?_
  refine we_istore_n (ls1 := [.ref 95, .int (nI n), .int i, .int 0]) (p := 23) dX12_routeAt_22 rfl rfl ?_
  refine we_iload_n (p := 24) dX12_routeAt_23 rfl rfl ?_
  refine we_if_ne (t := 37) (p := 27) dX12_routeAt_24 (by decide) rfl rfl (fun hc24 => absurd (by decide) hc24) (fun hc24 => ?_)
  refine we_aload_n (p := 28) dX12_routeAt_27 rfl rfl ?_
  refine wf_getI (c := 11) (j := 24) (n := 37) (v := (rout0 D s n (J 95 25) (I 104)).1) (p := 31) dX12_routeAt_28 rfl rfl (by decide) (by decide) (Or.inl rfl) hg.1 rfl ?_
  refine we_if_ne (t := 37) (p := 34) dX12_routeAt_31 (by decide) rfl rfl (fun hc31 => ?_) (fun hc31 => absurd hc31 hz)
  refine we_iload_n (p := 38) dX12_routeAt_37 rfl rfl ?_
  refine we_if_ne (t := 54) (p := 41) dX12_routeAt_38 (by decide) rfl rfl (fun hc38 => absurd (by decide) hc38) (fun hc38 => ?_)
  refine we_iload_n (p := 42) dX12_routeAt_41 rfl rfl ?_
  refine we_iconst (v := 0) (p := 43) dX12_routeAt_42 (by decide) rfl ?_
  refine we_iload_n (p := 44) dX12_routeAt_43 rfl rfl ?_
  refine we_iconst (v := 1) (p := 45) dX12_routeAt_44 (by decide) rfl ?_
  refine we_isub (p := 46) dX12_routeAt_45 rfl ?_
  refine we_callS_int (p := 49) (k' := 0) (a := [.int i, .int 0, .int ((nI n) - 1)]) (rr := []) dX12_routeAt_46 rfl rfl rfl rfl rfl (rc_st rfl) (Nat.le_of_ble_eq_true rfl) (Nat.le_of_ble_eq_true rfl) (by decide) (Ev.i (in_ix1 (by omega)) (y_in)) (Or.inl rfl) rfl ?_
  refine we_if_ne (t := 54) (p := 52) dX12_routeAt_49 (by decide) rfl rfl (fun hc49 => absurd hix hc49) (fun hc49 => ?_)
  refine we_iconst (v := 1) (p := 53) dX12_routeAt_52 (by decide) rfl ?_
  refine we_istore_n (ls1 := [.ref 95, .int (nI n), .int i, .int 1]) (p := 54) dX12_routeAt_53 rfl rfl ?_
  refine we_iload_n (p := 55) dX12_routeAt_54 rfl rfl ?_
  refine we_if_eq (t := 66) (p := 58) dX12_routeAt_55 (by decide) rfl rfl (fun hc55 => absurd hc55 (by decide)) (fun hc55 => ?_)
  refine we_aload_n (p := 59) dX12_routeAt_58 rfl rfl ?_
  refine we_iload_n (p := 60) dX12_routeAt_59 rfl rfl ?_
  refine we_callV_int (p := 63) (k' := 0) (a := [.ref 95, .int 1]) (rr := []) dX12_routeAt_60 rfl rfl rfl rfl (rc_of rfl rfl (by decide) ⟨rfl, by decide⟩) (Nat.le_of_ble_eq_true rfl) (Nat.le_of_ble_eq_true rfl) (by decide) y_no (Or.inl rfl) rfl ?_
  refine we_goto (p := 72) dX12_routeAt_63 (by decide) rfl ?_
  exact wi_ret dX12_routeAt_72 rfl rfl (by decide) (⟨rfl, _, _, _, rfl, (f1.wd (by omega) (by omega) (by omega) (by omega)).re, k1, rfl⟩)
set_option maxRecDepth 10000 in
theorem q_routeAt_ok {I : Nat → Nat → Int32} {J : Nat → Nat → Int64} {F : Nat → Nat → Option Nat} {nc ns : Nat} {D : oD} (hF : RFok F) (hM : oM I 98 D) (hW : WF D) (hO : I 95 14 = tol D) {s : Nat → Int32} (hs : stM I s) (hS : WFs D s) (ht1 : tol D = 1) (hfr : s 2 ≤ 0) {n : Nat} (h1n : 1 ≤ n) (hn : n ≤ 3) {i : Nat} (hi : i < n) (hz : ¬ (rout0 D s n (J 95 25) (I 104)).1 = 0) : Ew 10 mX12_routeAt 0 [.ref 95, .int (nI n), .int (nI i), .null] [] ((SH, nc, ns), I, J, F) (QM nc ns I J F (.int ((rout0 D s n (J 95 25) (I 104)).2.2 i)) 0) := by
  have hD := hW.c
  have hH := hW.h
  have hT := hW.t
  have bt := hT.2
  obtain ⟨b0, b1, b2, b3, b4, b5, b6⟩ := hD.2
  refine we_aload_n (p := 1) dX12_routeAt_0 rfl rfl ?_
  refine we_callV_v (p := 4) (k' := 0) (a := [.ref 95]) (rr := []) dX12_routeAt_1 rfl rfl rfl rfl (rc_of rfl rfl (by decide) ⟨rfl, by decide⟩) (Nat.le_of_ble_eq_true rfl) (Nat.le_of_ble_eq_true rfl) (by decide) y_good (Or.inl rfl) rfl ?_
  refine we_aload_n (p := 5) dX12_routeAt_4 rfl rfl ?_
  refine wf_getI (c := 11) (j := 14) (n := 37) (v := 1) (p := 8) dX12_routeAt_5 rfl rfl (by decide) (by decide) (Or.inr rfl) ((I_u (I_u hO (by decide)) (by decide)).trans ht1) rfl ?_
  refine we_if_ne (t := 17) (p := 11) dX12_routeAt_8 (by decide) rfl rfl (fun hc8 => ?_) (fun hc8 => absurd hc8 (by decide))
  refine we_aload_n (p := 18) dX12_routeAt_17 rfl rfl ?_
  refine we_iload_n (p := 19) dX12_routeAt_18 rfl rfl ?_
  obtain ⟨_, _, e1, rfl, I1, J1, F1, rfl, ⟨f1, k1, rfl, hg⟩⟩ := y_routeWhy (I := (hp_u (hp_u I 95 0 0) 95 11 0)) hF (oM_u (oM_u hM (by decide)) (by decide)) hW (I_u (I_u hO (by decide)) (by decide)) (stM_u (stM_u hs (by decide)) (by decide)) hS ht1 hfr h1n hn (l := J 95 25) (f := I 104) rfl ((hu_ne (by decide)).trans (hu_ne (by decide)))
  refine we_callV_int (p := 22) (k' := 9) (a := [.ref 95, .int (nI n)]) (rr := []) dX12_routeAt_19 rfl rfl rfl rfl (rc_of rfl rfl (by decide) ⟨rfl, by decide⟩) (Nat.le_of_ble_eq_true rfl) (Nat.le_of_ble_eq_true rfl) (by decide) e1 (Or.inl rfl) rfl ?_
  refine we_istore_n (ls1 := [.ref 95, .int (nI n), .int (nI i), .int 0]) (p := 23) dX12_routeAt_22 rfl rfl ?_
  refine we_iload_n (p := 24) dX12_routeAt_23 rfl rfl ?_
  refine we_if_ne (t := 37) (p := 27) dX12_routeAt_24 (by decide) rfl rfl (fun hc24 => absurd (by decide) hc24) (fun hc24 => ?_)
  refine we_aload_n (p := 28) dX12_routeAt_27 rfl rfl ?_
  refine wf_getI (c := 11) (j := 24) (n := 37) (v := (rout0 D s n (J 95 25) (I 104)).1) (p := 31) dX12_routeAt_28 rfl rfl (by decide) (by decide) (Or.inl rfl) hg.1 rfl ?_
  refine we_if_ne (t := 37) (p := 34) dX12_routeAt_31 (by decide) rfl rfl (fun hc31 => ?_) (fun hc31 => absurd hc31 hz)
  refine we_iload_n (p := 38) dX12_routeAt_37 rfl rfl ?_
  refine we_if_ne (t := 54) (p := 41) dX12_routeAt_38 (by decide) rfl rfl (fun hc38 => absurd (by decide) hc38) (fun hc38 => ?_)
  refine we_iload_n (p := 42) dX12_routeAt_41 rfl rfl ?_
  refine we_iconst (v := 0) (p := 43) dX12_routeAt_42 (by decide) rfl ?_
  refine we_iload_n (p := 44) dX12_routeAt_43 rfl rfl ?_
  refine we_iconst (v := 1) (p := 45) dX12_routeAt_44 (by decide) rfl ?_
  refine we_isub (p := 46) dX12_routeAt_45 rfl ?_
  refine we_callS_int (p := 49) (k' := 0) (a := [.int (nI i), .int 0, .int ((nI n) - 1)]) (rr := []) dX12_routeAt_46 rfl rfl rfl rfl rfl (rc_st rfl) (Nat.le_of_ble_eq_true rfl) (Nat.le_of_ble_eq_true rfl) (by decide) (Ev.i ((in_ix1 (by omega)).trans (ixB_ok (by omega) (by omega))) (y_in)) (Or.inl rfl) rfl ?_
  refine we_if_ne (t := 54) (p := 52) dX12_routeAt_49 (by decide) rfl rfl (fun hc49 => ?_) (fun hc49 => absurd hc49 (by decide))
  refine we_iload_n (p := 55) dX12_routeAt_54 rfl rfl ?_
  refine we_if_eq (t := 66) (p := 58) dX12_routeAt_55 (by decide) rfl rfl (fun hc55 => ?_) (fun hc55 => absurd (by decide) hc55)
  refine we_aload_n (p := 67) dX12_routeAt_66 rfl rfl ?_
  refine we_getR (c := 11) (j := 23) (n := 37) (b := 104) (p := 70) dX12_routeAt_67 rfl rfl (by decide) (by decide) rfl (r_95_23 hF) rfl ?_
  refine we_iload_n (p := 71) dX12_routeAt_70 rfl rfl ?_
  refine wf_iald (n := 3) (i := i) (v := (rout0 D s n (J 95 25) (I 104)).2.2 i) (p := 72) dX12_routeAt_71 rfl (by decide) (in_nJ (by omega) (by decide)) (nI_cl (by omega)) (hg.2.2 i (by omega)) rfl ?_
  exact wi_ret dX12_routeAt_72 rfl rfl (by decide) (⟨rfl, _, _, _, rfl, f1.wd (by omega) (by omega) (by omega) (by omega), k1, rfl⟩)
