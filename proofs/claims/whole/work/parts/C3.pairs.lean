/-! Class and reference side by side: sevens, isTrue. -/
set_option maxRecDepth 10000 in
theorem q_sevens_ok {I : Nat → Nat → Int32} {J : Nat → Nat → Int64} {F : Nat → Nat → Option Nat} {nc ns : Nat} {D : oD} (hF : RFok F) (hM : oM I 98 D) (hW : WF D) (hO : I 95 14 = tol D) {a b : Nat} (ha : a < dN D 0) (hb : b < dN D 0)  : Ev 3 mX12_sevens 0 [.ref 95, .int (nI a), .int (nI b)] [] ((SH, nc, ns), I, J, F) (some (.int (apartS D a (nI b)))) ((SH, nc, ns), hp_u (hp_u I 95 0 0) 95 11 0, J, F) := by
  obtain ⟨-, b0, -⟩ := hW.c
  refine e_aload_n (p := 1) dX12_sevens_0 rfl rfl ?_
  refine e_callV_v (p := 4) (k' := 0) (a := [.ref 95]) (rr := []) dX12_sevens_1 rfl rfl rfl rfl (rc_of rfl rfl (by decide) ⟨rfl, by decide⟩) (Nat.le_of_ble_eq_true rfl) (Nat.le_of_ble_eq_true rfl) (by decide) y_good (Or.inl rfl) rfl ?_
  refine e_aload_n (p := 5) dX12_sevens_4 rfl rfl ?_
  refine e_iload_n (p := 6) dX12_sevens_5 rfl rfl ?_
  refine e_callV_int (p := 9) (k' := 1) (a := [.ref 95, .int (nI a)]) (rr := []) dX12_sevens_6 rfl rfl rfl rfl (rc_of rfl rfl (by decide) ⟨rfl, by decide⟩) (Nat.le_of_ble_eq_true rfl) (Nat.le_of_ble_eq_true rfl) (by decide) (Ev.i ((ixB_ok ha (by omega))) (y_isHarbour hF (oM_u (oM_u hM (by decide)) (by decide)) hW (I_u (I_u hO (by decide)) (by decide)) )) (Or.inl rfl) rfl ?_
  refine e_if_eq (t := 29) (p := 12) dX12_sevens_9 (by decide) rfl rfl (fun hc9 => absurd hc9 (by decide)) (fun hc9 => ?_)
  refine e_aload_n (p := 13) dX12_sevens_12 rfl rfl ?_
  refine e_iload_n (p := 14) dX12_sevens_13 rfl rfl ?_
  refine e_callV_int (p := 17) (k' := 1) (a := [.ref 95, .int (nI b)]) (rr := []) dX12_sevens_14 rfl rfl rfl rfl (rc_of rfl rfl (by decide) ⟨rfl, by decide⟩) (Nat.le_of_ble_eq_true rfl) (Nat.le_of_ble_eq_true rfl) (by decide) (Ev.i ((ixB_ok hb (by omega))) (y_isHarbour hF (oM_u (oM_u hM (by decide)) (by decide)) hW (I_u (I_u hO (by decide)) (by decide)) )) (Or.inl rfl) rfl ?_
  refine e_if_eq (t := 29) (p := 20) dX12_sevens_17 (by decide) rfl rfl (fun hc17 => absurd hc17 (by decide)) (fun hc17 => ?_)
  refine e_aload_n (p := 21) dX12_sevens_20 rfl rfl ?_
  refine e_iload_n (p := 22) dX12_sevens_21 rfl rfl ?_
  refine e_iload_n (p := 23) dX12_sevens_22 rfl rfl ?_
  refine e_callV_int (p := 26) (k' := 2) (a := [.ref 95, .int (nI a), .int (nI b)]) (rr := []) dX12_sevens_23 rfl rfl rfl rfl (rc_of rfl rfl (by decide) ⟨rfl, by decide⟩) (Nat.le_of_ble_eq_true rfl) (Nat.le_of_ble_eq_true rfl) (by decide) (y_sevensOf hF (oM_u (oM_u hM (by decide)) (by decide)) hW rfl rfl ha (by omega)) (Or.inl rfl) rfl ?_
  refine e_goto (p := 34) dX12_sevens_26 (by decide) rfl ?_
  exact e_iretE dX12_sevens_34 rfl rfl (by decide) ⟨rfl, rfl⟩
set_option maxRecDepth 10000 in
theorem q_sevens_n0 {I : Nat → Nat → Int32} {J : Nat → Nat → Int64} {F : Nat → Nat → Option Nat} {nc ns : Nat} {D : oD} (hF : RFok F) (hM : oM I 98 D) (hW : WF D) (hO : I 95 14 = tol D) {v u : Int32} (h1 : ixB v (dN D 0) = 0)  : Ev 3 mX12_sevens 0 [.ref 95, .int v, .int u] [] ((SH, nc, ns), I, J, F) (some (.int (-1))) ((SH, nc, ns), hp_u (hp_u I 95 0 0) 95 11 1, J, F) := by
  obtain ⟨-, b0, -⟩ := hW.c
  refine e_aload_n (p := 1) dX12_sevens_0 rfl rfl ?_
  refine e_callV_v (p := 4) (k' := 0) (a := [.ref 95]) (rr := []) dX12_sevens_1 rfl rfl rfl rfl (rc_of rfl rfl (by decide) ⟨rfl, by decide⟩) (Nat.le_of_ble_eq_true rfl) (Nat.le_of_ble_eq_true rfl) (by decide) y_good (Or.inl rfl) rfl ?_
  refine e_aload_n (p := 5) dX12_sevens_4 rfl rfl ?_
  refine e_iload_n (p := 6) dX12_sevens_5 rfl rfl ?_
  refine e_callV_int (p := 9) (k' := 1) (a := [.ref 95, .int v]) (rr := []) dX12_sevens_6 rfl rfl rfl rfl (rc_of rfl rfl (by decide) ⟨rfl, by decide⟩) (Nat.le_of_ble_eq_true rfl) (Nat.le_of_ble_eq_true rfl) (by decide) (Ev.i (h1) (y_isHarbour hF (oM_u (oM_u hM (by decide)) (by decide)) hW (I_u (I_u hO (by decide)) (by decide)) )) (Or.inl rfl) rfl ?_
  refine e_if_eq (t := 29) (p := 12) dX12_sevens_9 (by decide) rfl rfl (fun hc9 => ?_) (fun hc9 => absurd (by decide) hc9)
  refine e_aload_n (p := 30) dX12_sevens_29 rfl rfl ?_
  refine e_iconst (v := 1) (p := 31) dX12_sevens_30 (by decide) rfl ?_
  refine e_callV_int (p := 34) (k' := 0) (a := [.ref 95, .int 1]) (rr := []) dX12_sevens_31 rfl rfl rfl rfl (rc_of rfl rfl (by decide) ⟨rfl, by decide⟩) (Nat.le_of_ble_eq_true rfl) (Nat.le_of_ble_eq_true rfl) (by decide) y_no (Or.inl rfl) rfl ?_
  exact e_iretE dX12_sevens_34 rfl rfl (by decide) ⟨rfl, by rw [hu_hu]⟩
set_option maxRecDepth 10000 in
theorem q_sevens_n1 {I : Nat → Nat → Int32} {J : Nat → Nat → Int64} {F : Nat → Nat → Option Nat} {nc ns : Nat} {D : oD} (hF : RFok F) (hM : oM I 98 D) (hW : WF D) (hO : I 95 14 = tol D) {v u : Int32} (h1 : ixB v (dN D 0) = 1) (h2 : ixB u (dN D 0) = 0)  : Ev 3 mX12_sevens 0 [.ref 95, .int v, .int u] [] ((SH, nc, ns), I, J, F) (some (.int (-1))) ((SH, nc, ns), hp_u (hp_u I 95 0 0) 95 11 1, J, F) := by
  obtain ⟨-, b0, -⟩ := hW.c
  refine e_aload_n (p := 1) dX12_sevens_0 rfl rfl ?_
  refine e_callV_v (p := 4) (k' := 0) (a := [.ref 95]) (rr := []) dX12_sevens_1 rfl rfl rfl rfl (rc_of rfl rfl (by decide) ⟨rfl, by decide⟩) (Nat.le_of_ble_eq_true rfl) (Nat.le_of_ble_eq_true rfl) (by decide) y_good (Or.inl rfl) rfl ?_
  refine e_aload_n (p := 5) dX12_sevens_4 rfl rfl ?_
  refine e_iload_n (p := 6) dX12_sevens_5 rfl rfl ?_
  refine e_callV_int (p := 9) (k' := 1) (a := [.ref 95, .int v]) (rr := []) dX12_sevens_6 rfl rfl rfl rfl (rc_of rfl rfl (by decide) ⟨rfl, by decide⟩) (Nat.le_of_ble_eq_true rfl) (Nat.le_of_ble_eq_true rfl) (by decide) (Ev.i (h1) (y_isHarbour hF (oM_u (oM_u hM (by decide)) (by decide)) hW (I_u (I_u hO (by decide)) (by decide)) )) (Or.inl rfl) rfl ?_
  refine e_if_eq (t := 29) (p := 12) dX12_sevens_9 (by decide) rfl rfl (fun hc9 => absurd hc9 (by decide)) (fun hc9 => ?_)
  refine e_aload_n (p := 13) dX12_sevens_12 rfl rfl ?_
  refine e_iload_n (p := 14) dX12_sevens_13 rfl rfl ?_
  refine e_callV_int (p := 17) (k' := 1) (a := [.ref 95, .int u]) (rr := []) dX12_sevens_14 rfl rfl rfl rfl (rc_of rfl rfl (by decide) ⟨rfl, by decide⟩) (Nat.le_of_ble_eq_true rfl) (Nat.le_of_ble_eq_true rfl) (by decide) (Ev.i (h2) (y_isHarbour hF (oM_u (oM_u hM (by decide)) (by decide)) hW (I_u (I_u hO (by decide)) (by decide)) )) (Or.inl rfl) rfl ?_
  refine e_if_eq (t := 29) (p := 20) dX12_sevens_17 (by decide) rfl rfl (fun hc17 => ?_) (fun hc17 => absurd (by decide) hc17)
  refine e_aload_n (p := 30) dX12_sevens_29 rfl rfl ?_
  refine e_iconst (v := 1) (p := 31) dX12_sevens_30 (by decide) rfl ?_
  refine e_callV_int (p := 34) (k' := 0) (a := [.ref 95, .int 1]) (rr := []) dX12_sevens_31 rfl rfl rfl rfl (rc_of rfl rfl (by decide) ⟨rfl, by decide⟩) (Nat.le_of_ble_eq_true rfl) (Nat.le_of_ble_eq_true rfl) (by decide) y_no (Or.inl rfl) rfl ?_
  exact e_iretE dX12_sevens_34 rfl rfl (by decide) ⟨rfl, by rw [hu_hu]⟩
theorem ixS01 {v : Int32} {n : Nat} : ixS v n = 0 ∨ ixS v n = 1 := if01 z1 (if01 z1 z0)
theorem p_sevens {D : oD} {s : Nat → Int32} (hW : WF D) (hS : WFs D s) {v u : Int32} : PQ D s 3 3 mX11_sevens mX12_sevens [.int v, .int u] [.int v, .int u] := by
  obtain ⟨-, b0, b1, b2, b3, b4, b5, b6⟩ := hW.c
  by_cases h1 : ixS v (dN D 0) = 0
  · by_cases h2 : ixS u (dN D 0) = 0
    · obtain ⟨a, ha, rfl⟩ := ix_of (by omega) h1
      obtain ⟨b, hb, rfl⟩ := ix_of (by omega) h2
      exact ⟨_, 0, (by repeat' (first | exact ix_4 | exact nu_4 | exact to_4 | exact fr_4 | exact ne_4 | exact iv_4 | decide | apply ei_4 | apply if4)), fun I J F nc ns o hc => QC.of (c_sevens_ok hc.1 hc.2.1 hc.2.2.1 hc.2.2.2.1 hW hc.2.2.2.2 hS ha hb), fun I J F nc ns hm => QM.of (q_sevens_ok hm.1 hm.2.1 hW hm.2.2.1 ha hb)⟩
    · have e : eiS (ixS v (dN D 0)) (ixS u (dN D 0)) = 1 := by rw [h1]; exact ixS01.resolve_left h2
      refine ⟨.int (-1), 1, (by repeat' (first | exact ix_4 | exact nu_4 | exact to_4 | exact fr_4 | exact ne_4 | exact iv_4 | decide | apply ei_4 | apply if4)), fun I J F nc ns o hc => ?_, fun I J F nc ns hm => QM.of (q_sevens_n1 hm.1 hm.2.1 hW hm.2.2.1 (if_pos h1) (if_neg h2))⟩
      have q := c_sevens_no (J := J) (nc := nc) (ns := ns) (v := v) (u := u) hc.1 hc.2.1 hc.2.2.1 hc.2.2.2.1 hW hc.2.2.2.2 hS (by rw [e]; decide)
      rw [e] at q
      exact QC.of q
  · have e : eiS (ixS v (dN D 0)) (ixS u (dN D 0)) = 1 := by
      unfold eiS
      rw [if_neg h1]
      exact ixS01.resolve_left h1
    refine ⟨.int (-1), 1, (by repeat' (first | exact ix_4 | exact nu_4 | exact to_4 | exact fr_4 | exact ne_4 | exact iv_4 | decide | apply ei_4 | apply if4)), fun I J F nc ns o hc => ?_, fun I J F nc ns hm => QM.of (q_sevens_n0 hm.1 hm.2.1 hW hm.2.2.1 (if_neg h1))⟩
    have q := c_sevens_no (J := J) (nc := nc) (ns := ns) (v := v) (u := u) hc.1 hc.2.1 hc.2.2.1 hc.2.2.2.1 hW hc.2.2.2.2 hS (by rw [e]; decide)
    rw [e] at q
    exact QC.of q
theorem p_isTrue {D : oD} {s : Nat → Int32} (hW : WF D) (hS : WFs D s) {v l b : Int32} : PQ D s 4 5 mX11_isTrue mX12_isTrue [.int v, .int l, .int b] [.int v, .int l, .int b, .null] := by
  obtain ⟨-, b0, b1, b2, b3, b4, b5, b6⟩ := hW.c
  have e : (whS (ixB v (dN D 2)) l : Int32) = eiS (ixS v (dN D 2)) (nuS l 0 30) := wh_ix (v := v) (l := l) (n := dN D 2)
  by_cases ht : eiS (ixS v (dN D 2)) (nuS l 0 30) = 0
  · obtain ⟨ht1, ht2⟩ := ei_0 ht
    obtain ⟨w, hw, rfl⟩ := ix_of (by omega) ht1
    obtain ⟨l, -, hl, rfl⟩ := nu_of (a := 0) (b := 30) (by omega) (by omega) ht2
    exact ⟨_, 0, (by repeat' (first | exact ix_4 | exact nu_4 | exact to_4 | exact fr_4 | exact ne_4 | exact iv_4 | decide | apply ei_4 | apply if4)), fun I J F nc ns o hc => QC.of (c_isTrue_ok hc.1 hc.2.1 hc.2.2.1 hc.2.2.2.1 hW hc.2.2.2.2 hS hw hl), fun I J F nc ns hm => QM.of ((q_isTrue_ok hm.1 hm.2.1 hW hm.2.2.1 hw hl))⟩
  · refine ⟨_, eiS (ixS v (dN D 2)) (nuS l 0 30), (by repeat' (first | exact ix_4 | exact nu_4 | exact to_4 | exact fr_4 | exact ne_4 | exact iv_4 | decide | apply ei_4 | apply if4)), fun I J F nc ns o hc => QC.of (c_isTrue_no hc.1 hc.2.1 hc.2.2.1 hc.2.2.2.1 hW hc.2.2.2.2 hS ht), fun I J F nc ns hm => ?_⟩
    have q := q_isTrue_no (J := J) (nc := nc) (ns := ns) hm.1 hm.2.1 hW hm.2.2.1 (v := v) (l := l) (b := b) (by first | (rw [e]; exact ht) | (intro z; apply ht; rw [← e]; revert z; (repeat' split) <;> simp))
    rw [e] at q
    exact QM.of q
