/-! Lives: what is asked of the reference; both come to the same. -/
def lwS (v b : Int32) : Int32 := if inS v 0 65536 = 0 then 0 else if b = 0 then 0 else 1
set_option maxRecDepth 10000 in
theorem y_lifeWhy {I : Nat → Nat → Int32} {J : Nat → Nat → Int64} {F : Nat → Nat → Option Nat} {nc ns : Nat} {D : oD} (hF : RFok F) (hM : oM I 98 D) (hW : WF D) (hO : I 95 14 = tol D) {s : Nat → Int32} (hs : stM I s) {v b : Int32} : Ev 1 mX12_lifeWhy 0 [.ref 95, .int v, .int b] [] ((SH, nc, ns), I, J, F) (some (.int (fwS (tol D) (lwS v b) (s 2)))) ((SH, nc, ns), I, J, F) := by
  have hD := hW.c
  have hH := hW.h
  have hT := hW.t
  have bt := hT.2
  obtain ⟨b0, b1, b2, b3, b4, b5, b6⟩ := hD.2
  refine e_aload_n (p := 1) dX12_lifeWhy_0 rfl rfl ?_
  refine e_aload_n (p := 2) dX12_lifeWhy_1 rfl rfl ?_
  refine f_getI (c := 11) (j := 14) (n := 37) (v := tol D) (p := 5) dX12_lifeWhy_2 rfl rfl (by decide) (by decide) (Or.inr rfl) hO rfl ?_
  refine e_iload_n (p := 6) dX12_lifeWhy_5 rfl rfl ?_
  refine e_iconst (v := 0) (p := 7) dX12_lifeWhy_6 (by decide) rfl ?_
  refine e_ldcwI (p := 10) dX12_lifeWhy_7 rfl rfl ?_
  refine e_callS_int (p := 13) (k' := 0) (a := [.int v, .int 0, .int 65536]) (rr := [.int (tol D), .ref 95]) dX12_lifeWhy_10 rfl rfl rfl rfl rfl (rc_st rfl) (Nat.le_of_ble_eq_true rfl) (Nat.le_of_ble_eq_true rfl) (by decide) (y_in  ) (Or.inl rfl) rfl ?_
  refine e_if_eq (t := 24) (p := 16) dX12_lifeWhy_13 (by decide) rfl rfl (fun hc13 => ?_) (fun hc13 => ?_)
  · skip
    refine e_iconst (v := 0) (p := 25) dX12_lifeWhy_24 (by decide) rfl ?_
    refine e_callV_int (p := 28) (k' := 0) (a := [.ref 95, .int (tol D), .int 0]) (rr := []) dX12_lifeWhy_25 rfl rfl rfl rfl (rc_of rfl rfl (by decide) ⟨rfl, by decide⟩) (Nat.le_of_ble_eq_true rfl) (Nat.le_of_ble_eq_true rfl) (by decide) (y_freeWhy hF hs ) (Or.inl rfl) rfl ?_
    exact e_iretE dX12_lifeWhy_28 rfl rfl (by decide) ⟨by simp only [lwS, hc13, ↓reduceIte], rfl⟩
  · skip
    refine e_iload_n (p := 17) dX12_lifeWhy_16 rfl rfl ?_
    refine e_if_eq (t := 24) (p := 20) dX12_lifeWhy_17 (by decide) rfl rfl (fun hc17 => ?_) (fun hc17 => ?_)
    · skip
      refine e_iconst (v := 0) (p := 25) dX12_lifeWhy_24 (by decide) rfl ?_
      refine e_callV_int (p := 28) (k' := 0) (a := [.ref 95, .int (tol D), .int 0]) (rr := []) dX12_lifeWhy_25 rfl rfl rfl rfl (rc_of rfl rfl (by decide) ⟨rfl, by decide⟩) (Nat.le_of_ble_eq_true rfl) (Nat.le_of_ble_eq_true rfl) (by decide) (y_freeWhy hF hs ) (Or.inl rfl) rfl ?_
      exact e_iretE dX12_lifeWhy_28 rfl rfl (by decide) ⟨by simp only [lwS, hc13, hc17, ↓reduceIte], rfl⟩
    · skip
      refine e_iconst (v := 1) (p := 21) dX12_lifeWhy_20 (by decide) rfl ?_
      refine e_goto (p := 25) dX12_lifeWhy_21 (by decide) rfl ?_
      refine e_callV_int (p := 28) (k' := 0) (a := [.ref 95, .int (tol D), .int 1]) (rr := []) dX12_lifeWhy_25 rfl rfl rfl rfl (rc_of rfl rfl (by decide) ⟨rfl, by decide⟩) (Nat.le_of_ble_eq_true rfl) (Nat.le_of_ble_eq_true rfl) (by decide) (y_freeWhy hF hs ) (Or.inl rfl) rfl ?_
      exact e_iretE dX12_lifeWhy_28 rfl rfl (by decide) ⟨by simp only [lwS, hc13, hc17, ↓reduceIte], rfl⟩
theorem lw_ok {v : Nat} (h : v ≤ 65536) : lwS (nI v) 1 = 1 := by
  have e : inS (nI v) 0 65536 = 1 := in_ok (a := 0) (b := 65536) (by omega) h (by omega)
  unfold lwS
  rw [e]
  decide
set_option maxRecDepth 10000 in
theorem q_life_no {I : Nat → Nat → Int32} {J : Nat → Nat → Int64} {F : Nat → Nat → Option Nat} {nc ns : Nat} {D : oD} (hF : RFok F) (hM : oM I 98 D) (hW : WF D) (hO : I 95 14 = tol D) {s : Nat → Int32} (hs : stM I s) {v n : Int32} (ht : ¬ (fwS (tol D) (lwS v (inS n 0 20)) (s 2)) = 0) : Ev 7 mX12_life 0 [.ref 95, .int v, .int n, .null] [] ((SH, nc, ns), I, J, F) (some (.int (-1))) ((SH, nc, ns), hp_u (hp_u I 95 0 0) 95 11 (fwS (tol D) (lwS v (inS n 0 20)) (s 2)), J, F) := by
  have hD := hW.c
  have hH := hW.h
  have hT := hW.t
  have bt := hT.2
  obtain ⟨b0, b1, b2, b3, b4, b5, b6⟩ := hD.2
  refine e_aload_n (p := 1) dX12_life_0 rfl rfl ?_
  refine e_callV_v (p := 4) (k' := 0) (a := [.ref 95]) (rr := []) dX12_life_1 rfl rfl rfl rfl (rc_of rfl rfl (by decide) ⟨rfl, by decide⟩) (Nat.le_of_ble_eq_true rfl) (Nat.le_of_ble_eq_true rfl) (by decide) y_good (Or.inl rfl) rfl ?_
  refine e_aload_n (p := 5) dX12_life_4 rfl rfl ?_
  refine e_iload_n (p := 6) dX12_life_5 rfl rfl ?_
  refine e_iload_n (p := 7) dX12_life_6 rfl rfl ?_
  refine e_iconst (v := 0) (p := 8) dX12_life_7 (by decide) rfl ?_
  refine e_bipush (v := 20) (p := 10) dX12_life_8 (by decide) rfl ?_
  refine e_callS_int (p := 13) (k' := 0) (a := [.int n, .int 0, .int 20]) (rr := [.int v, .ref 95]) dX12_life_10 rfl rfl rfl rfl rfl (rc_st rfl) (Nat.le_of_ble_eq_true rfl) (Nat.le_of_ble_eq_true rfl) (by decide) (y_in  ) (Or.inl rfl) rfl ?_
  refine e_callV_int (p := 16) (k' := 1) (a := [.ref 95, .int v, .int (inS n 0 20)]) (rr := []) dX12_life_13 rfl rfl rfl rfl (rc_of rfl rfl (by decide) ⟨rfl, by decide⟩) (Nat.le_of_ble_eq_true rfl) (Nat.le_of_ble_eq_true rfl) (by decide) (y_lifeWhy hF (oM_u (oM_u hM (by decide)) (by decide)) hW (I_u (I_u hO (by decide)) (by decide)) (stM_u (stM_u hs (by decide)) (by decide))) (Or.inl rfl) rfl ?_
  refine e_istore_n (ls1 := [.ref 95, .int v, .int n, .int (fwS (tol D) (lwS v (inS n 0 20)) (s 2))]) (p := 17) dX12_life_16 rfl rfl ?_
  refine e_iload_n (p := 18) dX12_life_17 rfl rfl ?_
  refine e_if_eq (t := 27) (p := 21) dX12_life_18 (by decide) rfl rfl (fun hc18 => absurd hc18 ht) (fun hc18 => ?_)
  refine e_aload_n (p := 22) dX12_life_21 rfl rfl ?_
  refine e_iload_n (p := 23) dX12_life_22 rfl rfl ?_
  refine e_callV_int (p := 26) (k' := 0) (a := [.ref 95, .int (fwS (tol D) (lwS v (inS n 0 20)) (s 2))]) (rr := []) dX12_life_23 rfl rfl rfl rfl (rc_of rfl rfl (by decide) ⟨rfl, by decide⟩) (Nat.le_of_ble_eq_true rfl) (Nat.le_of_ble_eq_true rfl) (by decide) y_no (Or.inl rfl) rfl ?_
  exact e_iretE dX12_life_26 rfl rfl (by decide) ⟨rfl, hpq rfl⟩
set_option maxRecDepth 10000 in
theorem q_lifeBy_no {I : Nat → Nat → Int32} {J : Nat → Nat → Int64} {F : Nat → Nat → Option Nat} {nc ns : Nat} {D : oD} (hF : RFok F) (hM : oM I 98 D) (hW : WF D) (hO : I 95 14 = tol D) {s : Nat → Int32} (hs : stM I s) {v n : Int32} (ht : ¬ (fwS (tol D) (lwS v (inS n 0 20)) (s 2)) = 0) : Ev 7 mX12_lifeBy 0 [.ref 95, .int v, .int n, .null] [] ((SH, nc, ns), I, J, F) (some (.int (-1))) ((SH, nc, ns), hp_u (hp_u I 95 0 0) 95 11 (fwS (tol D) (lwS v (inS n 0 20)) (s 2)), J, F) := by
  have hD := hW.c
  have hH := hW.h
  have hT := hW.t
  have bt := hT.2
  obtain ⟨b0, b1, b2, b3, b4, b5, b6⟩ := hD.2
  refine e_aload_n (p := 1) dX12_lifeBy_0 rfl rfl ?_
  refine e_callV_v (p := 4) (k' := 0) (a := [.ref 95]) (rr := []) dX12_lifeBy_1 rfl rfl rfl rfl (rc_of rfl rfl (by decide) ⟨rfl, by decide⟩) (Nat.le_of_ble_eq_true rfl) (Nat.le_of_ble_eq_true rfl) (by decide) y_good (Or.inl rfl) rfl ?_
  refine e_aload_n (p := 5) dX12_lifeBy_4 rfl rfl ?_
  refine e_iload_n (p := 6) dX12_lifeBy_5 rfl rfl ?_
  refine e_iload_n (p := 7) dX12_lifeBy_6 rfl rfl ?_
  refine e_iconst (v := 0) (p := 8) dX12_lifeBy_7 (by decide) rfl ?_
  refine e_bipush (v := 20) (p := 10) dX12_lifeBy_8 (by decide) rfl ?_
  refine e_callS_int (p := 13) (k' := 0) (a := [.int n, .int 0, .int 20]) (rr := [.int v, .ref 95]) dX12_lifeBy_10 rfl rfl rfl rfl rfl (rc_st rfl) (Nat.le_of_ble_eq_true rfl) (Nat.le_of_ble_eq_true rfl) (by decide) (y_in  ) (Or.inl rfl) rfl ?_
  refine e_callV_int (p := 16) (k' := 1) (a := [.ref 95, .int v, .int (inS n 0 20)]) (rr := []) dX12_lifeBy_13 rfl rfl rfl rfl (rc_of rfl rfl (by decide) ⟨rfl, by decide⟩) (Nat.le_of_ble_eq_true rfl) (Nat.le_of_ble_eq_true rfl) (by decide) (y_lifeWhy hF (oM_u (oM_u hM (by decide)) (by decide)) hW (I_u (I_u hO (by decide)) (by decide)) (stM_u (stM_u hs (by decide)) (by decide))) (Or.inl rfl) rfl ?_
  refine e_istore_n (ls1 := [.ref 95, .int v, .int n, .int (fwS (tol D) (lwS v (inS n 0 20)) (s 2))]) (p := 17) dX12_lifeBy_16 rfl rfl ?_
  refine e_iload_n (p := 18) dX12_lifeBy_17 rfl rfl ?_
  refine e_if_eq (t := 27) (p := 21) dX12_lifeBy_18 (by decide) rfl rfl (fun hc18 => absurd hc18 ht) (fun hc18 => ?_)
  refine e_aload_n (p := 22) dX12_lifeBy_21 rfl rfl ?_
  refine e_iload_n (p := 23) dX12_lifeBy_22 rfl rfl ?_
  refine e_callV_int (p := 26) (k' := 0) (a := [.ref 95, .int (fwS (tol D) (lwS v (inS n 0 20)) (s 2))]) (rr := []) dX12_lifeBy_23 rfl rfl rfl rfl (rc_of rfl rfl (by decide) ⟨rfl, by decide⟩) (Nat.le_of_ble_eq_true rfl) (Nat.le_of_ble_eq_true rfl) (by decide) y_no (Or.inl rfl) rfl ?_
  exact e_iretE dX12_lifeBy_26 rfl rfl (by decide) ⟨rfl, hpq rfl⟩
set_option maxRecDepth 10000 in
theorem q_lives_no {I : Nat → Nat → Int32} {J : Nat → Nat → Int64} {F : Nat → Nat → Option Nat} {nc ns : Nat} {D : oD} (hF : RFok F) (hM : oM I 98 D) (hW : WF D) (hO : I 95 14 = tol D) {s : Nat → Int32} (hs : stM I s) {v n : Int32} (ht : ¬ (fwS (tol D) (lwS v (inS n 1 30)) (s 2)) = 0) : Ev 7 mX12_lives 0 [.ref 95, .int v, .int n, .null, .null, .null] [] ((SH, nc, ns), I, J, F) (some (.int (-1))) ((SH, nc, ns), hp_u (hp_u I 95 0 0) 95 11 (fwS (tol D) (lwS v (inS n 1 30)) (s 2)), J, F) := by
  have hD := hW.c
  have hH := hW.h
  have hT := hW.t
  have bt := hT.2
  obtain ⟨b0, b1, b2, b3, b4, b5, b6⟩ := hD.2
  refine e_aload_n (p := 1) dX12_lives_0 rfl rfl ?_
  refine e_callV_v (p := 4) (k' := 0) (a := [.ref 95]) (rr := []) dX12_lives_1 rfl rfl rfl rfl (rc_of rfl rfl (by decide) ⟨rfl, by decide⟩) (Nat.le_of_ble_eq_true rfl) (Nat.le_of_ble_eq_true rfl) (by decide) y_good (Or.inl rfl) rfl ?_
  refine e_aload_n (p := 5) dX12_lives_4 rfl rfl ?_
  refine e_iload_n (p := 6) dX12_lives_5 rfl rfl ?_
  refine e_iload_n (p := 7) dX12_lives_6 rfl rfl ?_
  refine e_iconst (v := 1) (p := 8) dX12_lives_7 (by decide) rfl ?_
  refine e_bipush (v := 30) (p := 10) dX12_lives_8 (by decide) rfl ?_
  refine e_callS_int (p := 13) (k' := 0) (a := [.int n, .int 1, .int 30]) (rr := [.int v, .ref 95]) dX12_lives_10 rfl rfl rfl rfl rfl (rc_st rfl) (Nat.le_of_ble_eq_true rfl) (Nat.le_of_ble_eq_true rfl) (by decide) (y_in  ) (Or.inl rfl) rfl ?_
  refine e_callV_int (p := 16) (k' := 1) (a := [.ref 95, .int v, .int (inS n 1 30)]) (rr := []) dX12_lives_13 rfl rfl rfl rfl (rc_of rfl rfl (by decide) ⟨rfl, by decide⟩) (Nat.le_of_ble_eq_true rfl) (Nat.le_of_ble_eq_true rfl) (by decide) (y_lifeWhy hF (oM_u (oM_u hM (by decide)) (by decide)) hW (I_u (I_u hO (by decide)) (by decide)) (stM_u (stM_u hs (by decide)) (by decide))) (Or.inl rfl) rfl ?_
  refine e_istore_n (ls1 := [.ref 95, .int v, .int n, .int (fwS (tol D) (lwS v (inS n 1 30)) (s 2)), .null, .null]) (p := 17) dX12_lives_16 rfl rfl ?_
  refine e_iload_n (p := 18) dX12_lives_17 rfl rfl ?_
  refine e_if_eq (t := 27) (p := 21) dX12_lives_18 (by decide) rfl rfl (fun hc18 => absurd hc18 ht) (fun hc18 => ?_)
  refine e_aload_n (p := 22) dX12_lives_21 rfl rfl ?_
  refine e_iload_n (p := 23) dX12_lives_22 rfl rfl ?_
  refine e_callV_int (p := 26) (k' := 0) (a := [.ref 95, .int (fwS (tol D) (lwS v (inS n 1 30)) (s 2))]) (rr := []) dX12_lives_23 rfl rfl rfl rfl (rc_of rfl rfl (by decide) ⟨rfl, by decide⟩) (Nat.le_of_ble_eq_true rfl) (Nat.le_of_ble_eq_true rfl) (by decide) y_no (Or.inl rfl) rfl ?_
  exact e_iretE dX12_lives_26 rfl rfl (by decide) ⟨rfl, hpq rfl⟩
set_option maxRecDepth 10000 in
theorem q_life_ok {I : Nat → Nat → Int32} {J : Nat → Nat → Int64} {F : Nat → Nat → Option Nat} {nc ns : Nat} {D : oD} (hF : RFok F) (hM : oM I 98 D) (hW : WF D) (hO : I 95 14 = tol D) {s : Nat → Int32} (hs : stM I s) (hS : WFs D s) (ht1 : tol D = 1) (hfr : s 2 ≤ 0) {v n : Nat} (hv : v ≤ 65536) (hn : n ≤ 20) : Ew 7 mX12_life 0 [.ref 95, .int (nI v), .int (nI n), .null] [] ((SH, nc, ns), I, J, F) (QM nc ns I J F (.int ((goG D (s 0) n 1 (s 1).toNatClampNeg (s 4) (nI v)).1)) 0) := by
  have hD := hW.c
  have hH := hW.h
  have hT := hW.t
  have bt := hT.2
  obtain ⟨b0, b1, b2, b3, b4, b5, b6⟩ := hD.2
  refine we_aload_n (p := 1) dX12_life_0 rfl rfl ?_
  refine we_callV_v (p := 4) (k' := 0) (a := [.ref 95]) (rr := []) dX12_life_1 rfl rfl rfl rfl (rc_of rfl rfl (by decide) ⟨rfl, by decide⟩) (Nat.le_of_ble_eq_true rfl) (Nat.le_of_ble_eq_true rfl) (by decide) y_good (Or.inl rfl) rfl ?_
  refine we_aload_n (p := 5) dX12_life_4 rfl rfl ?_
  refine we_iload_n (p := 6) dX12_life_5 rfl rfl ?_
  refine we_iload_n (p := 7) dX12_life_6 rfl rfl ?_
  refine we_iconst (v := 0) (p := 8) dX12_life_7 (by decide) rfl ?_
  refine we_bipush (v := 20) (p := 10) dX12_life_8 (by decide) rfl ?_
  refine we_callS_int (p := 13) (k' := 0) (a := [.int (nI n), .int 0, .int 20]) (rr := [.int (nI v), .ref 95]) dX12_life_10 rfl rfl rfl rfl rfl (rc_st rfl) (Nat.le_of_ble_eq_true rfl) (Nat.le_of_ble_eq_true rfl) (by decide) (Ev.i (in_ok (a := 0) (b := 20) (n := n) (by omega) (by omega) (by omega)) (y_in  )) (Or.inl rfl) rfl ?_
  refine we_callV_int (p := 16) (k' := 1) (a := [.ref 95, .int (nI v), .int 1]) (rr := []) dX12_life_13 rfl rfl rfl rfl (rc_of rfl rfl (by decide) ⟨rfl, by decide⟩) (Nat.le_of_ble_eq_true rfl) (Nat.le_of_ble_eq_true rfl) (by decide) (Ev.i (show fwS (tol D) (lwS (nI v) 1) (s 2) = 0 by rw [ht1, show lwS (nI v) 1 = 1 from lw_ok hv]; exact fw_ok hfr) (y_lifeWhy hF (oM_u (oM_u hM (by decide)) (by decide)) hW (I_u (I_u hO (by decide)) (by decide)) (stM_u (stM_u hs (by decide)) (by decide)))) (Or.inl rfl) rfl ?_
  refine we_istore_n (ls1 := [.ref 95, .int (nI v), .int (nI n), .int 0]) (p := 17) dX12_life_16 rfl rfl ?_
  refine we_iload_n (p := 18) dX12_life_17 rfl rfl ?_
  refine we_if_eq (t := 27) (p := 21) dX12_life_18 (by decide) rfl rfl (fun hc18 => ?_) (fun hc18 => absurd (by decide) hc18)
  refine we_aload_n (p := 28) dX12_life_27 rfl rfl ?_
  refine we_iload_n (p := 29) dX12_life_28 rfl rfl ?_
  refine we_putI (c := 11) (j := 35) (n := 37)  (p := 32) dX12_life_29 rfl rfl (by decide) (by decide) rfl rfl rfl ?_
  refine we_aload_n (p := 33) dX12_life_32 rfl rfl ?_
  refine we_iload_n (p := 34) dX12_life_33 rfl rfl ?_
  obtain ⟨_, _, e1, rfl, I1, J1, F1, rfl, ⟨f1, rfl, rfl, p1, q1⟩⟩ := y_goThrough (I := (hp_u (hp_u (hp_u I 95 0 0) 95 11 0) 95 35 (nI v))) hF (oM_u (oM_u (oM_u hM (by decide)) (by decide)) (by decide)) hW (I_u (I_u (I_u hO (by decide)) (by decide)) (by decide)) (stM_u (stM_u (stM_u hs (by decide)) (by decide)) (by decide)) hS (tol_h hW ht1) (n := n) (sd := nI v) (by omega) hu_eq
  refine we_callV_int (p := 37) (k' := 6) (a := [.ref 95, .int (nI n)]) (rr := []) dX12_life_34 rfl rfl rfl rfl (rc_of rfl rfl (by decide) ⟨rfl, by decide⟩) (Nat.le_of_ble_eq_true rfl) (Nat.le_of_ble_eq_true rfl) (by decide) e1 (Or.inl rfl) rfl ?_
  exact wi_ret dX12_life_37 rfl rfl (by decide) (⟨rfl, _, _, _, rfl, ((Fm.rf.f (by omega) (by omega)).tr (f1.wd (by omega) (by omega) (by omega) (by omega))), Fr.rf, rfl⟩)
set_option maxRecDepth 10000 in
theorem q_lifeBy_ok {I : Nat → Nat → Int32} {J : Nat → Nat → Int64} {F : Nat → Nat → Option Nat} {nc ns : Nat} {D : oD} (hF : RFok F) (hM : oM I 98 D) (hW : WF D) (hO : I 95 14 = tol D) {s : Nat → Int32} (hs : stM I s) (hS : WFs D s) (ht1 : tol D = 1) (hfr : s 2 ≤ 0) {v n : Nat} (hv : v ≤ 65536) (hn : n ≤ 20) : Ew 7 mX12_lifeBy 0 [.ref 95, .int (nI v), .int (nI n), .null] [] ((SH, nc, ns), I, J, F) (QM nc ns I J F (.int ((goG D (s 0) n 1 (s 1).toNatClampNeg (s 4) (nI v)).2.1)) 0) := by
  have hD := hW.c
  have hH := hW.h
  have hT := hW.t
  have bt := hT.2
  obtain ⟨b0, b1, b2, b3, b4, b5, b6⟩ := hD.2
  refine we_aload_n (p := 1) dX12_lifeBy_0 rfl rfl ?_
  refine we_callV_v (p := 4) (k' := 0) (a := [.ref 95]) (rr := []) dX12_lifeBy_1 rfl rfl rfl rfl (rc_of rfl rfl (by decide) ⟨rfl, by decide⟩) (Nat.le_of_ble_eq_true rfl) (Nat.le_of_ble_eq_true rfl) (by decide) y_good (Or.inl rfl) rfl ?_
  refine we_aload_n (p := 5) dX12_lifeBy_4 rfl rfl ?_
  refine we_iload_n (p := 6) dX12_lifeBy_5 rfl rfl ?_
  refine we_iload_n (p := 7) dX12_lifeBy_6 rfl rfl ?_
  refine we_iconst (v := 0) (p := 8) dX12_lifeBy_7 (by decide) rfl ?_
  refine we_bipush (v := 20) (p := 10) dX12_lifeBy_8 (by decide) rfl ?_
  refine we_callS_int (p := 13) (k' := 0) (a := [.int (nI n), .int 0, .int 20]) (rr := [.int (nI v), .ref 95]) dX12_lifeBy_10 rfl rfl rfl rfl rfl (rc_st rfl) (Nat.le_of_ble_eq_true rfl) (Nat.le_of_ble_eq_true rfl) (by decide) (Ev.i (in_ok (a := 0) (b := 20) (n := n) (by omega) (by omega) (by omega)) (y_in  )) (Or.inl rfl) rfl ?_
  refine we_callV_int (p := 16) (k' := 1) (a := [.ref 95, .int (nI v), .int 1]) (rr := []) dX12_lifeBy_13 rfl rfl rfl rfl (rc_of rfl rfl (by decide) ⟨rfl, by decide⟩) (Nat.le_of_ble_eq_true rfl) (Nat.le_of_ble_eq_true rfl) (by decide) (Ev.i (show fwS (tol D) (lwS (nI v) 1) (s 2) = 0 by rw [ht1, show lwS (nI v) 1 = 1 from lw_ok hv]; exact fw_ok hfr) (y_lifeWhy hF (oM_u (oM_u hM (by decide)) (by decide)) hW (I_u (I_u hO (by decide)) (by decide)) (stM_u (stM_u hs (by decide)) (by decide)))) (Or.inl rfl) rfl ?_
  refine we_istore_n (ls1 := [.ref 95, .int (nI v), .int (nI n), .int 0]) (p := 17) dX12_lifeBy_16 rfl rfl ?_
  refine we_iload_n (p := 18) dX12_lifeBy_17 rfl rfl ?_
  refine we_if_eq (t := 27) (p := 21) dX12_lifeBy_18 (by decide) rfl rfl (fun hc18 => ?_) (fun hc18 => absurd (by decide) hc18)
  refine we_aload_n (p := 28) dX12_lifeBy_27 rfl rfl ?_
  refine we_iload_n (p := 29) dX12_lifeBy_28 rfl rfl ?_
  refine we_putI (c := 11) (j := 35) (n := 37)  (p := 32) dX12_lifeBy_29 rfl rfl (by decide) (by decide) rfl rfl rfl ?_
  refine we_aload_n (p := 33) dX12_lifeBy_32 rfl rfl ?_
  refine we_iload_n (p := 34) dX12_lifeBy_33 rfl rfl ?_
  obtain ⟨_, _, e1, rfl, I1, J1, F1, rfl, ⟨f1, rfl, rfl, p1, q1⟩⟩ := y_goThrough (I := (hp_u (hp_u (hp_u I 95 0 0) 95 11 0) 95 35 (nI v))) hF (oM_u (oM_u (oM_u hM (by decide)) (by decide)) (by decide)) hW (I_u (I_u (I_u hO (by decide)) (by decide)) (by decide)) (stM_u (stM_u (stM_u hs (by decide)) (by decide)) (by decide)) hS (tol_h hW ht1) (n := n) (sd := nI v) (by omega) hu_eq
  refine we_callV_int (p := 37) (k' := 6) (a := [.ref 95, .int (nI n)]) (rr := []) dX12_lifeBy_34 rfl rfl rfl rfl (rc_of rfl rfl (by decide) ⟨rfl, by decide⟩) (Nat.le_of_ble_eq_true rfl) (Nat.le_of_ble_eq_true rfl) (by decide) e1 (Or.inl rfl) rfl ?_
  refine we_pop_int (p := 38) dX12_lifeBy_37 rfl ?_
  refine we_aload_n (p := 39) dX12_lifeBy_38 rfl rfl ?_
  refine wf_getI (c := 11) (j := 36) (n := 37) (v := (goG D (s 0) n 1 (s 1).toNatClampNeg (s 4) (nI v)).2.1) (p := 42) dX12_lifeBy_39 rfl rfl (by decide) (by decide) (Or.inl rfl) p1 rfl ?_
  exact wi_ret dX12_lifeBy_42 rfl rfl (by decide) (⟨rfl, _, _, _, rfl, ((Fm.rf.f (by omega) (by omega)).tr (f1.wd (by omega) (by omega) (by omega) (by omega))), Fr.rf, rfl⟩)
def livM (D : oD) (s : Nat → Int32) (a : Int32 × Int32) : Int32 × Int32 := (a.1 + (if (goG D (s 0) 3 1 (s 1).toNatClampNeg (s 4) a.2).1 ≤ 0 then 0 else 1), (goG D (s 0) 3 1 (s 1).toNatClampNeg (s 4) a.2).2.2)
set_option maxRecDepth 10000 in
theorem y_lives_L {J : Nat → Nat → Int64} {F : Nat → Nat → Option Nat} {nc ns : Nat} {n : Nat} {D : oD} {s : Nat → Int32} {v : Int32} (hF : RFok F) (hW : WF D) (hS : WFs D s) (ht1 : tol D = 1) (hn : n ≤ 30) : ∀ (m j : Nat) (I : Nat → Nat → Int32) (c g : Int32), j + m = n → oM I 98 D → I 95 14 = tol D → stM I s → I 95 35 = g → Ew 7 mX12_lives 38 [.ref 95, .int v, .int (nI n), .int 0, .int c, .int (nI j)] [] ((SH, nc, ns), I, J, F) (Ret nc ns (some (.int (gN (fun _ a => livM D s a) j m (c, g)).1)) (fun I' J' F' => Fm 103 103 35 37 I I' ∧ J' = J ∧ F' = F))
  | 0, j, I, c, g, hj, hM, hO, hs, h35 => by
    refine we_iload (p := 40) dX12_lives_38 rfl rfl ?_
    refine we_iload_n (p := 41) dX12_lives_40 rfl rfl ?_
    refine we_icmp_ge (t := 68) (p := 44) dX12_lives_41 (by decide) rfl rfl (fun hc41 => ?_) (fun hc41 => absurd (nI_le (a := n) (b := j) (by omega) (by omega)) hc41)
    refine we_iload (p := 70) dX12_lives_68 rfl rfl ?_
    exact wi_ret dX12_lives_70 rfl rfl (by decide) (⟨rfl, _, _, _, rfl, Fm.rf, rfl, rfl⟩)
  | m + 1, j, I, c, g, hj, hM, hO, hs, h35 => by
    have hD := hW.c
    have hH := hW.h
    have hT := hW.t
    have bt := hT.2
    obtain ⟨b0, b1, b2, b3, b4, b5, b6⟩ := hD.2
    refine we_iload (p := 40) dX12_lives_38 rfl rfl ?_
    refine we_iload_n (p := 41) dX12_lives_40 rfl rfl ?_
    refine we_icmp_ge (t := 68) (p := 44) dX12_lives_41 (by decide) rfl rfl (fun hc41 => absurd hc41 (nI_ge (a := j) (b := n) (by omega) (by omega))) (fun hc41 => ?_)
    refine we_iload (p := 46) dX12_lives_44 rfl rfl ?_
    refine we_aload_n (p := 47) dX12_lives_46 rfl rfl ?_
    refine we_iconst (v := 3) (p := 48) dX12_lives_47 (by decide) rfl ?_
    obtain ⟨_, _, e1, rfl, I1, J1, F1, rfl, ⟨f1, rfl, rfl, p1, q1⟩⟩ := y_goThrough (I := I) hF hM hW hO hs hS (tol_h hW ht1) (n := 3) (sd := g) (by omega) h35
    refine we_callV_int (p := 51) (k' := 6) (a := [.ref 95, .int 3]) (rr := [.int c]) dX12_lives_48 rfl rfl rfl rfl (rc_of rfl rfl (by decide) ⟨rfl, by decide⟩) (Nat.le_of_ble_eq_true rfl) (Nat.le_of_ble_eq_true rfl) (by decide) e1 (Or.inl rfl) rfl ?_
    refine we_if_le (t := 58) (p := 54) dX12_lives_51 (by decide) rfl rfl (fun hc51 => ?_) (fun hc51 => ?_)
    · skip
      refine we_iconst (v := 0) (p := 59) dX12_lives_58 (by decide) rfl ?_
      refine we_iadd (p := 60) dX12_lives_59 rfl ?_
      refine we_istore (ls1 := [.ref 95, .int v, .int (nI n), .int 0, .int (c + 0), .int (nI j)]) (p := 62) dX12_lives_60 rfl rfl ?_
      refine we_iinc (ls1 := [.ref 95, .int v, .int (nI n), .int 0, .int (c + 0), .int ((nI j) + 1)]) (p := 65) dX12_lives_62 rfl rfl rfl ?_
      refine we_goto (p := 38) dX12_lives_65 (by decide) rfl ?_
      rw [nI_1]
      refine (y_lives_L hF hW hS ht1 hn m (j + 1) I1 (c + 0) (goG D (s 0) 3 1 (s 1).toNatClampNeg (s 4) g).2.2 (by omega) (oM_fr hM (f1.1 98 (by omega) (by omega))) ((f1.2 14 (by omega)).trans hO) (stM_fr hs (f1.1 100 (by omega) (by omega))) q1).mono ?_
      rw [show gN (fun _ a => livM D s a) j (m + 1) (c, g) = gN (fun _ a => livM D s a) (j + 1) m (c + 0, (goG D (s 0) 3 1 (s 1).toNatClampNeg (s 4) g).2.2) by rw [gN, livM]; simp only [hc51, ↓reduceIte]]
      rintro r h ⟨h1, I2, J2, F2, h2, h3, h4⟩
      exact ⟨h1, I2, J2, F2, h2, f1.tr h3, h4⟩
    · skip
      refine we_iconst (v := 1) (p := 55) dX12_lives_54 (by decide) rfl ?_
      refine we_goto (p := 59) dX12_lives_55 (by decide) rfl ?_
      refine we_iadd (p := 60) dX12_lives_59 rfl ?_
      refine we_istore (ls1 := [.ref 95, .int v, .int (nI n), .int 0, .int (c + 1), .int (nI j)]) (p := 62) dX12_lives_60 rfl rfl ?_
      refine we_iinc (ls1 := [.ref 95, .int v, .int (nI n), .int 0, .int (c + 1), .int ((nI j) + 1)]) (p := 65) dX12_lives_62 rfl rfl rfl ?_
      refine we_goto (p := 38) dX12_lives_65 (by decide) rfl ?_
      rw [nI_1]
      refine (y_lives_L hF hW hS ht1 hn m (j + 1) I1 (c + 1) (goG D (s 0) 3 1 (s 1).toNatClampNeg (s 4) g).2.2 (by omega) (oM_fr hM (f1.1 98 (by omega) (by omega))) ((f1.2 14 (by omega)).trans hO) (stM_fr hs (f1.1 100 (by omega) (by omega))) q1).mono ?_
      rw [show gN (fun _ a => livM D s a) j (m + 1) (c, g) = gN (fun _ a => livM D s a) (j + 1) m (c + 1, (goG D (s 0) 3 1 (s 1).toNatClampNeg (s 4) g).2.2) by rw [gN, livM]; simp only [hc51, ↓reduceIte]]
      rintro r h ⟨h1, I2, J2, F2, h2, h3, h4⟩
      exact ⟨h1, I2, J2, F2, h2, f1.tr h3, h4⟩
set_option maxRecDepth 10000 in
theorem q_lives_ok {I : Nat → Nat → Int32} {J : Nat → Nat → Int64} {F : Nat → Nat → Option Nat} {nc ns : Nat} {D : oD} (hF : RFok F) (hM : oM I 98 D) (hW : WF D) (hO : I 95 14 = tol D) {s : Nat → Int32} (hs : stM I s) (hS : WFs D s) (ht1 : tol D = 1) (hfr : s 2 ≤ 0) {v n : Nat} (hv : v ≤ 65536) (h1n : 1 ≤ n) (hn : n ≤ 30) : Ew 7 mX12_lives 0 [.ref 95, .int (nI v), .int (nI n), .null, .null, .null] [] ((SH, nc, ns), I, J, F) (QM nc ns I J F (.int ((gN (fun _ a => livM D s a) 0 n (0, nI v)).1)) 0) := by
  have hD := hW.c
  have hH := hW.h
  have hT := hW.t
  have bt := hT.2
  obtain ⟨b0, b1, b2, b3, b4, b5, b6⟩ := hD.2
  refine we_aload_n (p := 1) dX12_lives_0 rfl rfl ?_
  refine we_callV_v (p := 4) (k' := 0) (a := [.ref 95]) (rr := []) dX12_lives_1 rfl rfl rfl rfl (rc_of rfl rfl (by decide) ⟨rfl, by decide⟩) (Nat.le_of_ble_eq_true rfl) (Nat.le_of_ble_eq_true rfl) (by decide) y_good (Or.inl rfl) rfl ?_
  refine we_aload_n (p := 5) dX12_lives_4 rfl rfl ?_
  refine we_iload_n (p := 6) dX12_lives_5 rfl rfl ?_
  refine we_iload_n (p := 7) dX12_lives_6 rfl rfl ?_
  refine we_iconst (v := 1) (p := 8) dX12_lives_7 (by decide) rfl ?_
  refine we_bipush (v := 30) (p := 10) dX12_lives_8 (by decide) rfl ?_
  refine we_callS_int (p := 13) (k' := 0) (a := [.int (nI n), .int 1, .int 30]) (rr := [.int (nI v), .ref 95]) dX12_lives_10 rfl rfl rfl rfl rfl (rc_st rfl) (Nat.le_of_ble_eq_true rfl) (Nat.le_of_ble_eq_true rfl) (by decide) (Ev.i (in_ok (a := 1) (b := 30) (n := n) (by omega) (by omega) (by omega)) (y_in  )) (Or.inl rfl) rfl ?_
  refine we_callV_int (p := 16) (k' := 1) (a := [.ref 95, .int (nI v), .int 1]) (rr := []) dX12_lives_13 rfl rfl rfl rfl (rc_of rfl rfl (by decide) ⟨rfl, by decide⟩) (Nat.le_of_ble_eq_true rfl) (Nat.le_of_ble_eq_true rfl) (by decide) (Ev.i (show fwS (tol D) (lwS (nI v) 1) (s 2) = 0 by rw [ht1, show lwS (nI v) 1 = 1 from lw_ok hv]; exact fw_ok hfr) (y_lifeWhy hF (oM_u (oM_u hM (by decide)) (by decide)) hW (I_u (I_u hO (by decide)) (by decide)) (stM_u (stM_u hs (by decide)) (by decide)))) (Or.inl rfl) rfl ?_
  refine we_istore_n (ls1 := [.ref 95, .int (nI v), .int (nI n), .int 0, .null, .null]) (p := 17) dX12_lives_16 rfl rfl ?_
  refine we_iload_n (p := 18) dX12_lives_17 rfl rfl ?_
  refine we_if_eq (t := 27) (p := 21) dX12_lives_18 (by decide) rfl rfl (fun hc18 => ?_) (fun hc18 => absurd (by decide) hc18)
  refine we_aload_n (p := 28) dX12_lives_27 rfl rfl ?_
  refine we_iload_n (p := 29) dX12_lives_28 rfl rfl ?_
  refine we_putI (c := 11) (j := 35) (n := 37)  (p := 32) dX12_lives_29 rfl rfl (by decide) (by decide) rfl rfl rfl ?_
  refine we_iconst (v := 0) (p := 33) dX12_lives_32 (by decide) rfl ?_
  refine we_istore (ls1 := [.ref 95, .int (nI v), .int (nI n), .int 0, .int 0, .null]) (p := 35) dX12_lives_33 rfl rfl ?_
  refine we_iconst (v := 0) (p := 36) dX12_lives_35 (by decide) rfl ?_
  refine we_istore (ls1 := [.ref 95, .int (nI v), .int (nI n), .int 0, .int 0, .int 0]) (p := 38) dX12_lives_36 rfl rfl ?_
  refine (y_lives_L hF hW hS ht1 hn n 0 _ 0 (nI v) (by omega) (oM_u (oM_u (oM_u hM (by decide)) (by decide)) (by decide)) (I_u (I_u (I_u hO (by decide)) (by decide)) (by decide)) (stM_u (stM_u (stM_u hs (by decide)) (by decide)) (by decide)) hu_eq).mono ?_
  rintro r h ⟨h1, I2, J2, F2, h2, h3, rfl, h5⟩
  exact ⟨h1, I2, _, F2, h2, (Fm.rf.f (by omega) (by omega)).tr (h3.wd (by omega) (by omega) (by omega) (by omega)), Fr.rf, h5⟩
theorem life_eq {D : oD} {l0 : Int32} (hW : WF D) : ∀ m k a (s : Nat → Int32), 1 ≤ k → k + m ≤ 1000 → s 0 + 1 = l0 + nI k → s 1 = nI a → a < dN D 0 → WFv D s → s 2 ≤ 0 →
    (liveG D m k s).2 = (goG D l0 m k a (s 4) (s 3)).1 ∧ frS ((liveG D m k s).1 2) = (goG D l0 m k a (s 4) (s 3)).2.1 ∧ (liveG D m k s).1 3 = (goG D l0 m k a (s 4) (s 3)).2.2 ∧ ((liveG D m k s).1 2 ≤ 0 ↔ (goG D l0 m k a (s 4) (s 3)).1 ≤ 0)
  | 0, k, a, s, hk, hkm, h0, h1, ha, hv, h2 => ⟨rfl, (hv.fr hW.c).mpr h2, rfl, ⟨fun _ => by show (0 : Int32) ≤ 0; decide, fun _ => h2⟩⟩
  | m + 1, k, a, s, hk, hkm, h0, h1, ha, hv, h2 => by
    have b0 := hW.c.2.1
    have b2 := hW.c.2.2.2.1
    have ea : (s 1).toNatClampNeg = a := by rw [h1, nI_cl (by omega)]
    have ed : dearW D s = dearS D (reachS D a) (s 4) (l0 + nI k) := by
      unfold dearW
      rw [ea, h0]
    rw [goG, liveG]
    rcases dear_of (D := D) (hs := reachS D a) (lo := s 4) (l := l0 + nI k) with e | ⟨w, hw, e⟩
    · have el : lifeL D s = landS D s (s 1) := if_pos (ed.trans e)
      rw [if_pos e, el]
      have e2 : landS D s (s 1) 2 = s 2 := rfl
      rw [e2, if_pos h2]
      have hs := life_eq (l0 := l0) hW m (k + 1) a (landS D s (s 1)) (by omega) (by omega) (by
        show s 0 + 1 + 1 = l0 + nI (k + 1)
        rw [h0, Int32.add_assoc, nI_1]) h1 ha (hv.land hv.1) h2
      exact hs
    · have hne : ¬ dearS D (reachS D a) (s 4) (l0 + nI k) = -2 := fun z => nI_m2 (show w < 1000 by omega) (e.symm.trans z)
      have en : (dearS D (reachS D a) (s 4) (l0 + nI k)).toNatClampNeg = w := by rw [e, nI_cl (by omega)]
      have el : lifeL D s = courtS D (landS D s (D 7 w)) w := by
        unfold lifeL
        rw [ed, if_neg hne, en]
      have hv2 : WFv D (courtS D (landS D s (D 7 w)) w) := (hv.land (hW.h w hw)).court hw
      rw [if_neg hne, en, el]
      have ec : couS D w (landS D s (D 7 w) 0) (landS D s (D 7 w) 3) = couS D w (l0 + nI k) (s 3) := by
        show couS D w (s 0 + 1) (s 3) = _
        rw [h0]
      have e2 : courtS D (landS D s (D 7 w)) w 2 = if (couS D w (l0 + nI k) (s 3)).2 = 0 then s 2 else nI w + 1 := by
        rw [← ec]
        rfl
      have e3 : courtS D (landS D s (D 7 w)) w 3 = (couS D w (l0 + nI k) (s 3)).1 := by
        rw [← ec]
        rfl
      by_cases c : (couS D w (l0 + nI k) (s 3)).2 = 0
      · rw [if_pos c] at e2
        rw [e2, if_pos h2, if_pos c]
        have hs := life_eq (l0 := l0) hW m (k + 1) (hN D w) (courtS D (landS D s (D 7 w)) w) (by omega) (by omega) (by
          show s 0 + 1 + 1 = l0 + nI (k + 1)
          rw [h0, Int32.add_assoc, nI_1]) (hm_eq hW.c hW.h hw) (hm_lt hW.c hW.h hw) hv2 (by rw [e2]; exact h2)
        rw [e3] at hs
        exact hs
      · rw [if_neg c] at e2
        have n0 : ¬ nI w + 1 ≤ 0 := by
          rw [nI_1]
          exact nI_nle (by omega) (by omega)
        rw [e2, if_neg n0, if_neg c, e]
        refine ⟨rfl, ?_, e3, ?_⟩
        · show frS (courtS D (landS D s (D 7 w)) w 2) = nI w
          rw [e2]
          exact frS_1 (by omega)
        · show courtS D (landS D s (D 7 w)) w 2 ≤ 0 ↔ nI k ≤ 0
          rw [e2]
          exact ⟨fun z => absurd z n0, fun z => absurd z (nI_nle (by omega) (by omega))⟩
theorem life_s {D : oD} {s : Nat → Int32} {x : Int32} (hW : WF D) (hS : WFs D s) (h0 : 0 < dN D 0) (h2 : s 2 ≤ 0) {m : Nat} (hm : m ≤ 100) :
    (liveG D m 1 (sdS s x)).2 = (goG D (s 0) m 1 (s 1).toNatClampNeg (s 4) x).1 ∧ frS ((liveG D m 1 (sdS s x)).1 2) = (goG D (s 0) m 1 (s 1).toNatClampNeg (s 4) x).2.1 ∧ (liveG D m 1 (sdS s x)).1 3 = (goG D (s 0) m 1 (s 1).toNatClampNeg (s 4) x).2.2 ∧ ((liveG D m 1 (sdS s x)).1 2 ≤ 0 ↔ (goG D (s 0) m 1 (s 1).toNatClampNeg (s 4) x).1 ≤ 0) :=
  life_eq (l0 := s 0) hW m 1 (s 1).toNatClampNeg (sdS s x) (by omega) (by omega) rfl (hS.at_ h0).1 (hS.at_ h0).2.1 (hS.v h0) h2
theorem lives_eq {D : oD} {s : Nat → Int32} (hW : WF D) (hS : WFs D s) (h0 : 0 < dN D 0) (h2 : s 2 ≤ 0) {n : Nat} {a : Int32 × Int32} : gN (fun _ a => livM D s a) 0 n a = gN (fun _ a => livF D s a) 0 n a := by
  refine gN_c (fun k a _ _ => ?_)
  obtain ⟨-, -, h3, h4⟩ := life_s (x := a.2) hW hS h0 h2 (show 3 ≤ 100 by omega)
  unfold livM livF
  rw [← h3]
  by_cases c : (liveG D 3 1 (sdS s a.2)).1 2 ≤ 0
  · rw [if_pos c, if_pos (h4.mp c), Int32.add_zero]
  · rw [if_neg c, if_neg (fun z => c (h4.mpr z))]
