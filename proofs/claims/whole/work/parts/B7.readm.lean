/-! The reference reads a line. -/
theorem RmL.fr {nc ns : Nat} {T : Nat → Nat} {n : Nat} {I I1 : Nat → Nat → Int32} {J : Nat → Nat → Int64} {F : Nat → Nat → Option Nat} {S' : pZ} {r : Option Value} {h' : hp_H} (f : FrL I I1) (h : RmL nc ns T n I1 J F S' r h') : RmL nc ns T n I J F S' r h' := by
  obtain ⟨I', e, g, z⟩ := h
  exact ⟨I', e, f.tr g, z⟩
set_option maxRecDepth 10000 in
theorem y_begins_n {I : Nat → Nat → Int32} {J : Nat → Nat → Int64} {F : Nat → Nat → Option Nat} {nc ns : Nat} {T : Nat → Nat} {n p : Nat} (hF : RFok F) (hm : tM T n p I) {j : Nat} (hj : j < 27) (hj2 : 2 ≤ j) {v : Int32} (hq : ¬ tQ T n p = nI (kwS j))  : Ev 3 mX12_begins 0 [.ref 95, .ref (sp_S + j), .int v] [] ((SH, nc, ns), I, J, F) (some (.int 0)) ((SH, nc, ns), I, J, F) := by
  refine e_aload_n (p := 1) dX12_begins_0 rfl rfl ?_
  refine e_aload_n (p := 2) dX12_begins_1 rfl rfl ?_
  refine e_callV_int (p := 5) (k' := 2) (a := [.ref 95, .ref (sp_S + j)]) (rr := []) dX12_begins_2 rfl rfl rfl rfl (rc_of rfl rfl (by decide) ⟨rfl, by decide⟩) (Nat.le_of_ble_eq_true rfl) (Nat.le_of_ble_eq_true rfl) (by decide) (Ev.i (if_neg hq) (y_isWord hF hm hj hj2)) (Or.inl rfl) rfl ?_
  refine e_if_ne (t := 10) (p := 8) dX12_begins_5 (by decide) rfl rfl (fun hc5 => absurd (by decide) hc5) (fun hc5 => ?_)
  refine e_iconst (v := 0) (p := 9) dX12_begins_8 (by decide) rfl ?_
  exact e_iretE dX12_begins_9 rfl (by decide) (by decide) ⟨rfl, rfl⟩
set_option maxRecDepth 10000 in
theorem y_begins_6 {I : Nat → Nat → Int32} {J : Nat → Nat → Int64} {F : Nat → Nat → Option Nat} {nc ns : Nat} {T : Nat → Nat} {n p : Nat} (hF : RFok F) (hm : tM T n p I) {j : Nat} (hj : j < 27) (hj2 : 2 ≤ j) (hq : tQ T n p = nI (kwS j)) (h0 : I 99 0 = 0)  : Ev 3 mX12_begins 0 [.ref 95, .ref (sp_S + j), .int 1] [] ((SH, nc, ns), I, J, F) (some (.int 1)) ((SH, nc, ns), wrI I 6 (tS T n p), J, F) := by
  refine e_aload_n (p := 1) dX12_begins_0 rfl rfl ?_
  refine e_aload_n (p := 2) dX12_begins_1 rfl rfl ?_
  refine e_callV_int (p := 5) (k' := 2) (a := [.ref 95, .ref (sp_S + j)]) (rr := []) dX12_begins_2 rfl rfl rfl rfl (rc_of rfl rfl (by decide) ⟨rfl, by decide⟩) (Nat.le_of_ble_eq_true rfl) (Nat.le_of_ble_eq_true rfl) (by decide) (Ev.i (if_pos hq) (y_isWord hF hm hj hj2)) (Or.inl rfl) rfl ?_
  refine e_if_ne (t := 10) (p := 8) dX12_begins_5 (by decide) rfl rfl (fun hc5 => ?_) (fun hc5 => absurd hc5 (by decide))
  refine e_iload_n (p := 11) dX12_begins_10 rfl rfl ?_
  refine e_if_ne (t := 23) (p := 14) dX12_begins_11 (by decide) rfl rfl (fun hc11 => ?_) (fun hc11 => absurd hc11 (by decide))
  refine e_aload_n (p := 24) dX12_begins_23 rfl rfl ?_
  refine e_getR (c := 11) (j := 16) (n := 37) (b := 99) (p := 27) dX12_begins_24 rfl rfl (by decide) (by decide) rfl (r_95_16 hF) rfl ?_
  refine e_iconst (v := 0) (p := 28) dX12_begins_27 (by decide) rfl ?_
  refine f_iald (n := 276) (i := 0) (v := 0) (p := 29) dX12_begins_28 rfl (by decide) (by decide) (by decide) h0 rfl ?_
  refine e_if_ne (t := 42) (p := 32) dX12_begins_29 (by decide) rfl rfl (fun hc29 => absurd (by decide) hc29) (fun hc29 => ?_)
  refine e_aload_n (p := 33) dX12_begins_32 rfl rfl ?_
  refine e_bipush (v := 6) (p := 35) dX12_begins_33 (by decide) rfl ?_
  refine e_aload_n (p := 36) dX12_begins_35 rfl rfl ?_
  refine f_getI (c := 11) (j := 4) (n := 37) (v := nI (tS T n p)) (p := 39) dX12_begins_36 rfl rfl (by decide) (by decide) (Or.inl rfl) hm.2.2.1.1 rfl ?_
  refine e_callV_v (p := 42) (k' := 0) (a := [.ref 95, .int 6, .int (nI (tS T n p))]) (rr := []) dX12_begins_39 rfl rfl rfl rfl (rc_of rfl rfl (by decide) ⟨rfl, by decide⟩) (Nat.le_of_ble_eq_true rfl) (Nat.le_of_ble_eq_true rfl) (by decide) (y_wrong hF hm.2.2.2.1) (Or.inl rfl) rfl ?_
  refine e_aload_n (p := 43) dX12_begins_42 rfl rfl ?_
  refine f_getI (c := 11) (j := 13) (n := 37) (v := 1) (p := 46) dX12_begins_43 rfl rfl (by decide) (by decide) (Or.inr rfl) wr13 rfl ?_
  refine e_if_ne (t := 53) (p := 49) dX12_begins_46 (by decide) rfl rfl (fun hc46 => ?_) (fun hc46 => absurd hc46 (by decide))
  refine e_iconst (v := 1) (p := 54) dX12_begins_53 (by decide) rfl ?_
  exact e_iretE dX12_begins_54 rfl (by decide) (by decide) ⟨rfl, rfl⟩
theorem wr99 {I : Nat → Nat → Int32} {k : Int32} {p i : Nat} : wrI I k p 99 i = I 99 i := by
  unfold wrI
  rw [hu_ne (by decide), hu_ne (by decide), hu_ne (by decide)]
set_option maxRecDepth 10000 in
theorem y_begins_5 {I : Nat → Nat → Int32} {J : Nat → Nat → Int64} {F : Nat → Nat → Option Nat} {nc ns : Nat} {T : Nat → Nat} {n p : Nat} (hF : RFok F) (hm : tM T n p I) {j : Nat} (hj : j < 27) (hj2 : 2 ≤ j) (hq : tQ T n p = nI (kwS j)) {x : Int32} (h0 : I 99 0 = x) (hx : ¬ x = 0)  : Ev 3 mX12_begins 0 [.ref 95, .ref (sp_S + j), .int 0] [] ((SH, nc, ns), I, J, F) (some (.int 1)) ((SH, nc, ns), wrI I 5 (tS T n p), J, F) := by
  refine e_aload_n (p := 1) dX12_begins_0 rfl rfl ?_
  refine e_aload_n (p := 2) dX12_begins_1 rfl rfl ?_
  refine e_callV_int (p := 5) (k' := 2) (a := [.ref 95, .ref (sp_S + j)]) (rr := []) dX12_begins_2 rfl rfl rfl rfl (rc_of rfl rfl (by decide) ⟨rfl, by decide⟩) (Nat.le_of_ble_eq_true rfl) (Nat.le_of_ble_eq_true rfl) (by decide) (Ev.i (if_pos hq) (y_isWord hF hm hj hj2)) (Or.inl rfl) rfl ?_
  refine e_if_ne (t := 10) (p := 8) dX12_begins_5 (by decide) rfl rfl (fun hc5 => ?_) (fun hc5 => absurd hc5 (by decide))
  refine e_iload_n (p := 11) dX12_begins_10 rfl rfl ?_
  refine e_if_ne (t := 23) (p := 14) dX12_begins_11 (by decide) rfl rfl (fun hc11 => absurd (by decide) hc11) (fun hc11 => ?_)
  refine e_aload_n (p := 15) dX12_begins_14 rfl rfl ?_
  refine e_iconst (v := 5) (p := 16) dX12_begins_15 (by decide) rfl ?_
  refine e_aload_n (p := 17) dX12_begins_16 rfl rfl ?_
  refine f_getI (c := 11) (j := 4) (n := 37) (v := nI (tS T n p)) (p := 20) dX12_begins_17 rfl rfl (by decide) (by decide) (Or.inl rfl) hm.2.2.1.1 rfl ?_
  refine e_callV_v (p := 23) (k' := 0) (a := [.ref 95, .int 5, .int (nI (tS T n p))]) (rr := []) dX12_begins_20 rfl rfl rfl rfl (rc_of rfl rfl (by decide) ⟨rfl, by decide⟩) (Nat.le_of_ble_eq_true rfl) (Nat.le_of_ble_eq_true rfl) (by decide) (y_wrong hF hm.2.2.2.1) (Or.inl rfl) rfl ?_
  refine e_aload_n (p := 24) dX12_begins_23 rfl rfl ?_
  refine e_getR (c := 11) (j := 16) (n := 37) (b := 99) (p := 27) dX12_begins_24 rfl rfl (by decide) (by decide) rfl (r_95_16 hF) rfl ?_
  refine e_iconst (v := 0) (p := 28) dX12_begins_27 (by decide) rfl ?_
  refine f_iald (n := 276) (i := 0) (v := x) (p := 29) dX12_begins_28 rfl (by decide) (by decide) (by decide) (wr99.trans h0) rfl ?_
  refine e_if_ne (t := 42) (p := 32) dX12_begins_29 (by decide) rfl rfl (fun hc29 => ?_) (fun hc29 => absurd hc29 hx)
  refine e_aload_n (p := 43) dX12_begins_42 rfl rfl ?_
  refine f_getI (c := 11) (j := 13) (n := 37) (v := 1) (p := 46) dX12_begins_43 rfl rfl (by decide) (by decide) (Or.inr rfl) wr13 rfl ?_
  refine e_if_ne (t := 53) (p := 49) dX12_begins_46 (by decide) rfl rfl (fun hc46 => ?_) (fun hc46 => absurd hc46 (by decide))
  refine e_iconst (v := 1) (p := 54) dX12_begins_53 (by decide) rfl ?_
  exact e_iretE dX12_begins_54 rfl (by decide) (by decide) ⟨rfl, rfl⟩
set_option maxRecDepth 10000 in
theorem y_begins {I : Nat → Nat → Int32} {J : Nat → Nat → Int64} {F : Nat → Nat → Option Nat} {nc ns : Nat} {T : Nat → Nat} {n p : Nat} (hF : RFok F) (hm : tM T n p I) {j : Nat} (hj : j < 27) (hj2 : 2 ≤ j) (hq : tQ T n p = nI (kwS j)) {x : Int32} (h0 : I 99 0 = x) (hx : ¬ x = 0) : Ew 3 mX12_begins 0 [.ref 95, .ref (sp_S + j), .int 1] [] ((SH, nc, ns), I, J, F) (Ret nc ns (some (.int 1)) (fun I' J' F' => J' = J ∧ F' = F ∧ Fm 97 98 4 9 I I' ∧ tM T n (tE T n p) I')) := by
  refine we_aload_n (p := 1) dX12_begins_0 rfl rfl ?_
  refine we_aload_n (p := 2) dX12_begins_1 rfl rfl ?_
  refine we_callV_int (p := 5) (k' := 2) (a := [.ref 95, .ref (sp_S + j)]) (rr := []) dX12_begins_2 rfl rfl rfl rfl (rc_of rfl rfl (by decide) ⟨rfl, by decide⟩) (Nat.le_of_ble_eq_true rfl) (Nat.le_of_ble_eq_true rfl) (by decide) (Ev.i (if_pos hq) (y_isWord hF hm hj hj2)) (Or.inl rfl) rfl ?_
  refine we_if_ne (t := 10) (p := 8) dX12_begins_5 (by decide) rfl rfl (fun hc5 => ?_) (fun hc5 => absurd hc5 (by decide))
  refine we_iload_n (p := 11) dX12_begins_10 rfl rfl ?_
  refine we_if_ne (t := 23) (p := 14) dX12_begins_11 (by decide) rfl rfl (fun hc11 => ?_) (fun hc11 => absurd hc11 (by decide))
  refine we_aload_n (p := 24) dX12_begins_23 rfl rfl ?_
  refine we_getR (c := 11) (j := 16) (n := 37) (b := 99) (p := 27) dX12_begins_24 rfl rfl (by decide) (by decide) rfl (r_95_16 hF) rfl ?_
  refine we_iconst (v := 0) (p := 28) dX12_begins_27 (by decide) rfl ?_
  refine wf_iald (n := 276) (i := 0) (v := x) (p := 29) dX12_begins_28 rfl (by decide) (by decide) (by decide) h0 rfl ?_
  refine we_if_ne (t := 42) (p := 32) dX12_begins_29 (by decide) rfl rfl (fun hc29 => ?_) (fun hc29 => absurd hc29 hx)
  refine we_aload_n (p := 43) dX12_begins_42 rfl rfl ?_
  refine wf_getI (c := 11) (j := 13) (n := 37) (v := 0) (p := 46) dX12_begins_43 rfl rfl (by decide) (by decide) (Or.inr rfl) hm.2.2.2.1 rfl ?_
  refine we_if_ne (t := 53) (p := 49) dX12_begins_46 (by decide) rfl rfl (fun hc46 => absurd (by decide) hc46) (fun hc46 => ?_)
  refine we_aload_n (p := 50) dX12_begins_49 rfl rfl ?_
  obtain ⟨_, _, e1, rfl, I1, J1, F1, rfl, rfl, rfl, f1, r1⟩ := y_next hF hm.1 (tE_le hm.2.1).1 hm.2.2.1.2.1
  refine we_callV_v (p := 53) (k' := 1) (a := [.ref 95]) (rr := []) dX12_begins_50 rfl rfl rfl rfl (rc_of rfl rfl (by decide) ⟨rfl, by decide⟩) (Nat.le_of_ble_eq_true rfl) (Nat.le_of_ble_eq_true rfl) (by decide) e1 (Or.inl rfl) rfl ?_
  refine we_iconst (v := 1) (p := 54) dX12_begins_53 (by decide) rfl ?_
  exact wi_ret dX12_begins_54 rfl (by decide) (by decide) (⟨rfl, _, _, _, rfl, rfl, rfl, f1, tM.nx hm f1 r1⟩)
set_option maxRecDepth 10000 in
theorem y_harbourLine_f {I : Nat → Nat → Int32} {J : Nat → Nat → Int64} {F : Nat → Nat → Option Nat} {nc ns : Nat} (hF : RFok F) (hf : I 95 13 = 1)  : Ev 0 mX12_harbourLine 0 [.ref 95, .null] [] ((SH, nc, ns), I, J, F) (none) ((SH, nc, ns), I, J, F) := by
  refine e_aload_n (p := 1) dX12_harbourLine_0 rfl rfl ?_
  refine f_getI (c := 11) (j := 13) (n := 37) (v := 1) (p := 4) dX12_harbourLine_1 rfl rfl (by decide) (by decide) (Or.inr rfl) hf rfl ?_
  refine e_if_eq (t := 8) (p := 7) dX12_harbourLine_4 (by decide) rfl rfl (fun hc4 => absurd hc4 (by decide)) (fun hc4 => ?_)
  exact e_vretE dX12_harbourLine_7 rfl rfl
set_option maxRecDepth 10000 in
theorem y_seaLine_f {I : Nat → Nat → Int32} {J : Nat → Nat → Int64} {F : Nat → Nat → Option Nat} {nc ns : Nat} (hF : RFok F) (hf : I 95 13 = 1)  : Ev 0 mX12_seaLine 0 [.ref 95, .null, .null] [] ((SH, nc, ns), I, J, F) (none) ((SH, nc, ns), I, J, F) := by
  refine e_aload_n (p := 1) dX12_seaLine_0 rfl rfl ?_
  refine f_getI (c := 11) (j := 13) (n := 37) (v := 1) (p := 4) dX12_seaLine_1 rfl rfl (by decide) (by decide) (Or.inr rfl) hf rfl ?_
  refine e_if_eq (t := 8) (p := 7) dX12_seaLine_4 (by decide) rfl rfl (fun hc4 => absurd hc4 (by decide)) (fun hc4 => ?_)
  exact e_vretE dX12_seaLine_7 rfl rfl
set_option maxRecDepth 10000 in
theorem y_womanLine_f {I : Nat → Nat → Int32} {J : Nat → Nat → Int64} {F : Nat → Nat → Option Nat} {nc ns : Nat} (hF : RFok F) (hf : I 95 13 = 1)  : Ev 0 mX12_womanLine 0 [.ref 95, .null, .null] [] ((SH, nc, ns), I, J, F) (none) ((SH, nc, ns), I, J, F) := by
  refine e_aload_n (p := 1) dX12_womanLine_0 rfl rfl ?_
  refine f_getI (c := 11) (j := 13) (n := 37) (v := 1) (p := 4) dX12_womanLine_1 rfl rfl (by decide) (by decide) (Or.inr rfl) hf rfl ?_
  refine e_if_eq (t := 8) (p := 7) dX12_womanLine_4 (by decide) rfl rfl (fun hc4 => absurd hc4 (by decide)) (fun hc4 => ?_)
  exact e_vretE dX12_womanLine_7 rfl rfl
set_option maxRecDepth 10000 in
theorem y_rivalLine_f {I : Nat → Nat → Int32} {J : Nat → Nat → Int64} {F : Nat → Nat → Option Nat} {nc ns : Nat} (hF : RFok F) (hf : I 95 13 = 1)  : Ev 0 mX12_rivalLine 0 [.ref 95, .null, .null] [] ((SH, nc, ns), I, J, F) (none) ((SH, nc, ns), I, J, F) := by
  refine e_aload_n (p := 1) dX12_rivalLine_0 rfl rfl ?_
  refine f_getI (c := 11) (j := 13) (n := 37) (v := 1) (p := 4) dX12_rivalLine_1 rfl rfl (by decide) (by decide) (Or.inr rfl) hf rfl ?_
  refine e_if_eq (t := 8) (p := 7) dX12_rivalLine_4 (by decide) rfl rfl (fun hc4 => absurd hc4 (by decide)) (fun hc4 => ?_)
  exact e_vretE dX12_rivalLine_7 rfl rfl
set_option maxRecDepth 10000 in
theorem y_letterLine_f {I : Nat → Nat → Int32} {J : Nat → Nat → Int64} {F : Nat → Nat → Option Nat} {nc ns : Nat} (hF : RFok F) (hf : I 95 13 = 1)  : Ev 0 mX12_letterLine 0 [.ref 95, .null] [] ((SH, nc, ns), I, J, F) (none) ((SH, nc, ns), I, J, F) := by
  refine e_aload_n (p := 1) dX12_letterLine_0 rfl rfl ?_
  refine f_getI (c := 11) (j := 13) (n := 37) (v := 1) (p := 4) dX12_letterLine_1 rfl rfl (by decide) (by decide) (Or.inr rfl) hf rfl ?_
  refine e_if_eq (t := 8) (p := 7) dX12_letterLine_4 (by decide) rfl rfl (fun hc4 => absurd hc4 (by decide)) (fun hc4 => ?_)
  exact e_vretE dX12_letterLine_7 rfl rfl
set_option maxRecDepth 10000 in
theorem y_handLine_f {I : Nat → Nat → Int32} {J : Nat → Nat → Int64} {F : Nat → Nat → Option Nat} {nc ns : Nat} (hF : RFok F) (hf : I 95 13 = 1)  : Ev 0 mX12_handLine 0 [.ref 95, .null] [] ((SH, nc, ns), I, J, F) (none) ((SH, nc, ns), I, J, F) := by
  refine e_aload_n (p := 1) dX12_handLine_0 rfl rfl ?_
  refine f_getI (c := 11) (j := 13) (n := 37) (v := 1) (p := 4) dX12_handLine_1 rfl rfl (by decide) (by decide) (Or.inr rfl) hf rfl ?_
  refine e_if_eq (t := 8) (p := 7) dX12_handLine_4 (by decide) rfl rfl (fun hc4 => absurd hc4 (by decide)) (fun hc4 => ?_)
  exact e_vretE dX12_handLine_7 rfl rfl
set_option maxRecDepth 10000 in
theorem y_nearlyLine_f {I : Nat → Nat → Int32} {J : Nat → Nat → Int64} {F : Nat → Nat → Option Nat} {nc ns : Nat} (hF : RFok F) (hf : I 95 13 = 1)  : Ev 0 mX12_nearlyLine 0 [.ref 95, .null] [] ((SH, nc, ns), I, J, F) (none) ((SH, nc, ns), I, J, F) := by
  refine e_aload_n (p := 1) dX12_nearlyLine_0 rfl rfl ?_
  refine f_getI (c := 11) (j := 13) (n := 37) (v := 1) (p := 4) dX12_nearlyLine_1 rfl rfl (by decide) (by decide) (Or.inr rfl) hf rfl ?_
  refine e_if_eq (t := 8) (p := 7) dX12_nearlyLine_4 (by decide) rfl rfl (fun hc4 => absurd hc4 (by decide)) (fun hc4 => ?_)
  exact e_vretE dX12_nearlyLine_7 rfl rfl
set_option maxRecDepth 10000 in
theorem y_rl_o {I : Nat → Nat → Int32} {J : Nat → Nat → Int64} {F : Nat → Nat → Option Nat} {nc ns : Nat} {T : Nat → Nat} {n : Nat} {S : pZ} (hF : RFok F) (hm : tM T n (zP S) I) (hc : cM T S I) (hI : zI T n S) (hz : zF S = 0) {Q : Option Value → hp_H → Prop} (hq : ¬ tQ T n (zP S) = nI 7) (q0 : Ew 8 mX12_readLine 16 [.ref 95] [] ((SH, nc, ns), I, J, F) Q) : Ew 8 mX12_readLine 0 [.ref 95] [] ((SH, nc, ns), I, J, F) Q := by
  refine we_aload_n (p := 1) dX12_readLine_0 rfl rfl ?_
  refine we_ldcS (j := 2) (p := 3) dX12_readLine_1 rfl rfl rfl ?_
  refine we_callV_int (p := 6) (k' := 2) (a := [.ref 95, .ref (sp_S + 2)]) (rr := []) dX12_readLine_3 rfl rfl rfl rfl (rc_of rfl rfl (by decide) ⟨rfl, by decide⟩) (Nat.le_of_ble_eq_true rfl) (Nat.le_of_ble_eq_true rfl) (by decide) (Ev.i (if_neg hq) (y_isWord (j := 2) hF hm (by decide) (by decide))) (Or.inl rfl) rfl ?_
  refine we_if_eq (t := 16) (p := 9) dX12_readLine_6 (by decide) rfl rfl (fun hc6 => ?_) (fun hc6 => absurd (by decide) hc6)
  exact q0
set_option maxRecDepth 10000 in
theorem y_rl_0 {I : Nat → Nat → Int32} {J : Nat → Nat → Int64} {F : Nat → Nat → Option Nat} {nc ns : Nat} {T : Nat → Nat} {n : Nat} {S : pZ} (hF : RFok F) (hm : tM T n (zP S) I) (hc : cM T S I) (hI : zI T n S) (hz : zF S = 0) {Q : Option Value → hp_H → Prop} (hq : ¬ tQ T n (zP S) = nI 0) (q0 : Ew 8 mX12_readLine 48 [.ref 95] [] ((SH, nc, ns), I, J, F) Q) : Ew 8 mX12_readLine 16 [.ref 95] [] ((SH, nc, ns), I, J, F) Q := by
  refine we_aload_n (p := 17) dX12_readLine_16 rfl rfl ?_
  refine we_ldcS (j := 5) (p := 19) dX12_readLine_17 rfl rfl rfl ?_
  refine we_aload_n (p := 20) dX12_readLine_19 rfl rfl ?_
  refine we_getR (c := 11) (j := 16) (n := 37) (b := 99) (p := 23) dX12_readLine_20 rfl rfl (by decide) (by decide) rfl (r_95_16 hF) rfl ?_
  refine we_iconst (v := 2) (p := 24) dX12_readLine_23 (by decide) rfl ?_
  refine wf_iald (n := 276) (i := 2) (v := nI (dN (zD S) 0)) (p := 25) dX12_readLine_24 rfl (by decide) (by decide) (by decide) ((hc.1.2.2.1 0 (by decide)).trans (hI.2.1.1 0 (by decide))) rfl ?_
  refine we_bipush (v := 6) (p := 27) dX12_readLine_25 (by decide) rfl ?_
  refine we_icmp_ge (t := 34) (p := 30) dX12_readLine_27 (by decide) rfl rfl (fun hc27 => ?_) (fun hc27 => ?_)
  · skip
    refine we_iconst (v := 0) (p := 35) dX12_readLine_34 (by decide) rfl ?_
    refine we_callV_int (p := 38) (k' := 3) (a := [.ref 95, .ref (sp_S + 5), .int 0]) (rr := []) dX12_readLine_35 rfl rfl rfl rfl (rc_of rfl rfl (by decide) ⟨rfl, by decide⟩) (Nat.le_of_ble_eq_true rfl) (Nat.le_of_ble_eq_true rfl) (by decide) (y_begins_n (j := 5) hF hm (by decide) (by decide) hq) (Or.inl rfl) rfl ?_
    refine we_if_eq (t := 48) (p := 41) dX12_readLine_38 (by decide) rfl rfl (fun hc38 => ?_) (fun hc38 => absurd (by decide) hc38)
    exact q0
  · skip
    refine we_iconst (v := 1) (p := 31) dX12_readLine_30 (by decide) rfl ?_
    refine we_goto (p := 35) dX12_readLine_31 (by decide) rfl ?_
    refine we_callV_int (p := 38) (k' := 3) (a := [.ref 95, .ref (sp_S + 5), .int 1]) (rr := []) dX12_readLine_35 rfl rfl rfl rfl (rc_of rfl rfl (by decide) ⟨rfl, by decide⟩) (Nat.le_of_ble_eq_true rfl) (Nat.le_of_ble_eq_true rfl) (by decide) (y_begins_n (j := 5) hF hm (by decide) (by decide) hq) (Or.inl rfl) rfl ?_
    refine we_if_eq (t := 48) (p := 41) dX12_readLine_38 (by decide) rfl rfl (fun hc38 => ?_) (fun hc38 => absurd (by decide) hc38)
    exact q0
set_option maxRecDepth 10000 in
theorem y_rl_1 {I : Nat → Nat → Int32} {J : Nat → Nat → Int64} {F : Nat → Nat → Option Nat} {nc ns : Nat} {T : Nat → Nat} {n : Nat} {S : pZ} (hF : RFok F) (hm : tM T n (zP S) I) (hc : cM T S I) (hI : zI T n S) (hz : zF S = 0) {Q : Option Value → hp_H → Prop} (hq : ¬ tQ T n (zP S) = nI 1) (q0 : Ew 8 mX12_readLine 80 [.ref 95] [] ((SH, nc, ns), I, J, F) Q) : Ew 8 mX12_readLine 48 [.ref 95] [] ((SH, nc, ns), I, J, F) Q := by
  refine we_aload_n (p := 49) dX12_readLine_48 rfl rfl ?_
  refine we_ldcS (j := 6) (p := 51) dX12_readLine_49 rfl rfl rfl ?_
  refine we_aload_n (p := 52) dX12_readLine_51 rfl rfl ?_
  refine we_getR (c := 11) (j := 16) (n := 37) (b := 99) (p := 55) dX12_readLine_52 rfl rfl (by decide) (by decide) rfl (r_95_16 hF) rfl ?_
  refine we_iconst (v := 3) (p := 56) dX12_readLine_55 (by decide) rfl ?_
  refine wf_iald (n := 276) (i := 3) (v := nI (dN (zD S) 1)) (p := 57) dX12_readLine_56 rfl (by decide) (by decide) (by decide) ((hc.1.2.2.1 1 (by decide)).trans (hI.2.1.1 1 (by decide))) rfl ?_
  refine we_bipush (v := 10) (p := 59) dX12_readLine_57 (by decide) rfl ?_
  refine we_icmp_ge (t := 66) (p := 62) dX12_readLine_59 (by decide) rfl rfl (fun hc59 => ?_) (fun hc59 => ?_)
  · skip
    refine we_iconst (v := 0) (p := 67) dX12_readLine_66 (by decide) rfl ?_
    refine we_callV_int (p := 70) (k' := 3) (a := [.ref 95, .ref (sp_S + 6), .int 0]) (rr := []) dX12_readLine_67 rfl rfl rfl rfl (rc_of rfl rfl (by decide) ⟨rfl, by decide⟩) (Nat.le_of_ble_eq_true rfl) (Nat.le_of_ble_eq_true rfl) (by decide) (y_begins_n (j := 6) hF hm (by decide) (by decide) hq) (Or.inl rfl) rfl ?_
    refine we_if_eq (t := 80) (p := 73) dX12_readLine_70 (by decide) rfl rfl (fun hc70 => ?_) (fun hc70 => absurd (by decide) hc70)
    exact q0
  · skip
    refine we_iconst (v := 1) (p := 63) dX12_readLine_62 (by decide) rfl ?_
    refine we_goto (p := 67) dX12_readLine_63 (by decide) rfl ?_
    refine we_callV_int (p := 70) (k' := 3) (a := [.ref 95, .ref (sp_S + 6), .int 1]) (rr := []) dX12_readLine_67 rfl rfl rfl rfl (rc_of rfl rfl (by decide) ⟨rfl, by decide⟩) (Nat.le_of_ble_eq_true rfl) (Nat.le_of_ble_eq_true rfl) (by decide) (y_begins_n (j := 6) hF hm (by decide) (by decide) hq) (Or.inl rfl) rfl ?_
    refine we_if_eq (t := 80) (p := 73) dX12_readLine_70 (by decide) rfl rfl (fun hc70 => ?_) (fun hc70 => absurd (by decide) hc70)
    exact q0
set_option maxRecDepth 10000 in
theorem y_rl_2 {I : Nat → Nat → Int32} {J : Nat → Nat → Int64} {F : Nat → Nat → Option Nat} {nc ns : Nat} {T : Nat → Nat} {n : Nat} {S : pZ} (hF : RFok F) (hm : tM T n (zP S) I) (hc : cM T S I) (hI : zI T n S) (hz : zF S = 0) {Q : Option Value → hp_H → Prop} (hq : ¬ tQ T n (zP S) = nI 2) (q0 : Ew 8 mX12_readLine 112 [.ref 95] [] ((SH, nc, ns), I, J, F) Q) : Ew 8 mX12_readLine 80 [.ref 95] [] ((SH, nc, ns), I, J, F) Q := by
  refine we_aload_n (p := 81) dX12_readLine_80 rfl rfl ?_
  refine we_ldcS (j := 7) (p := 83) dX12_readLine_81 rfl rfl rfl ?_
  refine we_aload_n (p := 84) dX12_readLine_83 rfl rfl ?_
  refine we_getR (c := 11) (j := 16) (n := 37) (b := 99) (p := 87) dX12_readLine_84 rfl rfl (by decide) (by decide) rfl (r_95_16 hF) rfl ?_
  refine we_iconst (v := 4) (p := 88) dX12_readLine_87 (by decide) rfl ?_
  refine wf_iald (n := 276) (i := 4) (v := nI (dN (zD S) 2)) (p := 89) dX12_readLine_88 rfl (by decide) (by decide) (by decide) ((hc.1.2.2.1 2 (by decide)).trans (hI.2.1.1 2 (by decide))) rfl ?_
  refine we_bipush (v := 8) (p := 91) dX12_readLine_89 (by decide) rfl ?_
  refine we_icmp_ge (t := 98) (p := 94) dX12_readLine_91 (by decide) rfl rfl (fun hc91 => ?_) (fun hc91 => ?_)
  · skip
    refine we_iconst (v := 0) (p := 99) dX12_readLine_98 (by decide) rfl ?_
    refine we_callV_int (p := 102) (k' := 3) (a := [.ref 95, .ref (sp_S + 7), .int 0]) (rr := []) dX12_readLine_99 rfl rfl rfl rfl (rc_of rfl rfl (by decide) ⟨rfl, by decide⟩) (Nat.le_of_ble_eq_true rfl) (Nat.le_of_ble_eq_true rfl) (by decide) (y_begins_n (j := 7) hF hm (by decide) (by decide) hq) (Or.inl rfl) rfl ?_
    refine we_if_eq (t := 112) (p := 105) dX12_readLine_102 (by decide) rfl rfl (fun hc102 => ?_) (fun hc102 => absurd (by decide) hc102)
    exact q0
  · skip
    refine we_iconst (v := 1) (p := 95) dX12_readLine_94 (by decide) rfl ?_
    refine we_goto (p := 99) dX12_readLine_95 (by decide) rfl ?_
    refine we_callV_int (p := 102) (k' := 3) (a := [.ref 95, .ref (sp_S + 7), .int 1]) (rr := []) dX12_readLine_99 rfl rfl rfl rfl (rc_of rfl rfl (by decide) ⟨rfl, by decide⟩) (Nat.le_of_ble_eq_true rfl) (Nat.le_of_ble_eq_true rfl) (by decide) (y_begins_n (j := 7) hF hm (by decide) (by decide) hq) (Or.inl rfl) rfl ?_
    refine we_if_eq (t := 112) (p := 105) dX12_readLine_102 (by decide) rfl rfl (fun hc102 => ?_) (fun hc102 => absurd (by decide) hc102)
    exact q0
set_option maxRecDepth 10000 in
theorem y_rl_3 {I : Nat → Nat → Int32} {J : Nat → Nat → Int64} {F : Nat → Nat → Option Nat} {nc ns : Nat} {T : Nat → Nat} {n : Nat} {S : pZ} (hF : RFok F) (hm : tM T n (zP S) I) (hc : cM T S I) (hI : zI T n S) (hz : zF S = 0) {Q : Option Value → hp_H → Prop} (hq : ¬ tQ T n (zP S) = nI 3) (q0 : Ew 8 mX12_readLine 144 [.ref 95] [] ((SH, nc, ns), I, J, F) Q) : Ew 8 mX12_readLine 112 [.ref 95] [] ((SH, nc, ns), I, J, F) Q := by
  refine we_aload_n (p := 113) dX12_readLine_112 rfl rfl ?_
  refine we_ldcS (j := 8) (p := 115) dX12_readLine_113 rfl rfl rfl ?_
  refine we_aload_n (p := 116) dX12_readLine_115 rfl rfl ?_
  refine we_getR (c := 11) (j := 16) (n := 37) (b := 99) (p := 119) dX12_readLine_116 rfl rfl (by decide) (by decide) rfl (r_95_16 hF) rfl ?_
  refine we_iconst (v := 5) (p := 120) dX12_readLine_119 (by decide) rfl ?_
  refine wf_iald (n := 276) (i := 5) (v := nI (dN (zD S) 3)) (p := 121) dX12_readLine_120 rfl (by decide) (by decide) (by decide) ((hc.1.2.2.1 3 (by decide)).trans (hI.2.1.1 3 (by decide))) rfl ?_
  refine we_bipush (v := 8) (p := 123) dX12_readLine_121 (by decide) rfl ?_
  refine we_icmp_ge (t := 130) (p := 126) dX12_readLine_123 (by decide) rfl rfl (fun hc123 => ?_) (fun hc123 => ?_)
  · skip
    refine we_iconst (v := 0) (p := 131) dX12_readLine_130 (by decide) rfl ?_
    refine we_callV_int (p := 134) (k' := 3) (a := [.ref 95, .ref (sp_S + 8), .int 0]) (rr := []) dX12_readLine_131 rfl rfl rfl rfl (rc_of rfl rfl (by decide) ⟨rfl, by decide⟩) (Nat.le_of_ble_eq_true rfl) (Nat.le_of_ble_eq_true rfl) (by decide) (y_begins_n (j := 8) hF hm (by decide) (by decide) hq) (Or.inl rfl) rfl ?_
    refine we_if_eq (t := 144) (p := 137) dX12_readLine_134 (by decide) rfl rfl (fun hc134 => ?_) (fun hc134 => absurd (by decide) hc134)
    exact q0
  · skip
    refine we_iconst (v := 1) (p := 127) dX12_readLine_126 (by decide) rfl ?_
    refine we_goto (p := 131) dX12_readLine_127 (by decide) rfl ?_
    refine we_callV_int (p := 134) (k' := 3) (a := [.ref 95, .ref (sp_S + 8), .int 1]) (rr := []) dX12_readLine_131 rfl rfl rfl rfl (rc_of rfl rfl (by decide) ⟨rfl, by decide⟩) (Nat.le_of_ble_eq_true rfl) (Nat.le_of_ble_eq_true rfl) (by decide) (y_begins_n (j := 8) hF hm (by decide) (by decide) hq) (Or.inl rfl) rfl ?_
    refine we_if_eq (t := 144) (p := 137) dX12_readLine_134 (by decide) rfl rfl (fun hc134 => ?_) (fun hc134 => absurd (by decide) hc134)
    exact q0
set_option maxRecDepth 10000 in
theorem y_rl_4 {I : Nat → Nat → Int32} {J : Nat → Nat → Int64} {F : Nat → Nat → Option Nat} {nc ns : Nat} {T : Nat → Nat} {n : Nat} {S : pZ} (hF : RFok F) (hm : tM T n (zP S) I) (hc : cM T S I) (hI : zI T n S) (hz : zF S = 0) {Q : Option Value → hp_H → Prop} (hq : ¬ tQ T n (zP S) = nI 4) (q0 : Ew 8 mX12_readLine 177 [.ref 95] [] ((SH, nc, ns), I, J, F) Q) : Ew 8 mX12_readLine 144 [.ref 95] [] ((SH, nc, ns), I, J, F) Q := by
  refine we_aload_n (p := 145) dX12_readLine_144 rfl rfl ?_
  refine we_ldcS (j := 9) (p := 147) dX12_readLine_145 rfl rfl rfl ?_
  refine we_aload_n (p := 148) dX12_readLine_147 rfl rfl ?_
  refine we_getR (c := 11) (j := 16) (n := 37) (b := 99) (p := 151) dX12_readLine_148 rfl rfl (by decide) (by decide) rfl (r_95_16 hF) rfl ?_
  refine we_bipush (v := 6) (p := 153) dX12_readLine_151 (by decide) rfl ?_
  refine wf_iald (n := 276) (i := 6) (v := nI (dN (zD S) 4)) (p := 154) dX12_readLine_153 rfl (by decide) (by decide) (by decide) ((hc.1.2.2.1 4 (by decide)).trans (hI.2.1.1 4 (by decide))) rfl ?_
  refine we_bipush (v := 6) (p := 156) dX12_readLine_154 (by decide) rfl ?_
  refine we_icmp_ge (t := 163) (p := 159) dX12_readLine_156 (by decide) rfl rfl (fun hc156 => ?_) (fun hc156 => ?_)
  · skip
    refine we_iconst (v := 0) (p := 164) dX12_readLine_163 (by decide) rfl ?_
    refine we_callV_int (p := 167) (k' := 3) (a := [.ref 95, .ref (sp_S + 9), .int 0]) (rr := []) dX12_readLine_164 rfl rfl rfl rfl (rc_of rfl rfl (by decide) ⟨rfl, by decide⟩) (Nat.le_of_ble_eq_true rfl) (Nat.le_of_ble_eq_true rfl) (by decide) (y_begins_n (j := 9) hF hm (by decide) (by decide) hq) (Or.inl rfl) rfl ?_
    refine we_if_eq (t := 177) (p := 170) dX12_readLine_167 (by decide) rfl rfl (fun hc167 => ?_) (fun hc167 => absurd (by decide) hc167)
    exact q0
  · skip
    refine we_iconst (v := 1) (p := 160) dX12_readLine_159 (by decide) rfl ?_
    refine we_goto (p := 164) dX12_readLine_160 (by decide) rfl ?_
    refine we_callV_int (p := 167) (k' := 3) (a := [.ref 95, .ref (sp_S + 9), .int 1]) (rr := []) dX12_readLine_164 rfl rfl rfl rfl (rc_of rfl rfl (by decide) ⟨rfl, by decide⟩) (Nat.le_of_ble_eq_true rfl) (Nat.le_of_ble_eq_true rfl) (by decide) (y_begins_n (j := 9) hF hm (by decide) (by decide) hq) (Or.inl rfl) rfl ?_
    refine we_if_eq (t := 177) (p := 170) dX12_readLine_167 (by decide) rfl rfl (fun hc167 => ?_) (fun hc167 => absurd (by decide) hc167)
    exact q0
set_option maxRecDepth 10000 in
theorem y_rl_5 {I : Nat → Nat → Int32} {J : Nat → Nat → Int64} {F : Nat → Nat → Option Nat} {nc ns : Nat} {T : Nat → Nat} {n : Nat} {S : pZ} (hF : RFok F) (hm : tM T n (zP S) I) (hc : cM T S I) (hI : zI T n S) (hz : zF S = 0) {Q : Option Value → hp_H → Prop} (hq : ¬ tQ T n (zP S) = nI 5) (q0 : Ew 8 mX12_readLine 209 [.ref 95] [] ((SH, nc, ns), I, J, F) Q) : Ew 8 mX12_readLine 177 [.ref 95] [] ((SH, nc, ns), I, J, F) Q := by
  refine we_aload_n (p := 178) dX12_readLine_177 rfl rfl ?_
  refine we_ldcS (j := 10) (p := 180) dX12_readLine_178 rfl rfl rfl ?_
  refine we_aload_n (p := 181) dX12_readLine_180 rfl rfl ?_
  refine we_getR (c := 11) (j := 16) (n := 37) (b := 99) (p := 184) dX12_readLine_181 rfl rfl (by decide) (by decide) rfl (r_95_16 hF) rfl ?_
  refine we_bipush (v := 7) (p := 186) dX12_readLine_184 (by decide) rfl ?_
  refine wf_iald (n := 276) (i := 7) (v := nI (dN (zD S) 5)) (p := 187) dX12_readLine_186 rfl (by decide) (by decide) (by decide) ((hc.1.2.2.1 5 (by decide)).trans (hI.2.1.1 5 (by decide))) rfl ?_
  refine we_iconst (v := 5) (p := 188) dX12_readLine_187 (by decide) rfl ?_
  refine we_icmp_ge (t := 195) (p := 191) dX12_readLine_188 (by decide) rfl rfl (fun hc188 => ?_) (fun hc188 => ?_)
  · skip
    refine we_iconst (v := 0) (p := 196) dX12_readLine_195 (by decide) rfl ?_
    refine we_callV_int (p := 199) (k' := 3) (a := [.ref 95, .ref (sp_S + 10), .int 0]) (rr := []) dX12_readLine_196 rfl rfl rfl rfl (rc_of rfl rfl (by decide) ⟨rfl, by decide⟩) (Nat.le_of_ble_eq_true rfl) (Nat.le_of_ble_eq_true rfl) (by decide) (y_begins_n (j := 10) hF hm (by decide) (by decide) hq) (Or.inl rfl) rfl ?_
    refine we_if_eq (t := 209) (p := 202) dX12_readLine_199 (by decide) rfl rfl (fun hc199 => ?_) (fun hc199 => absurd (by decide) hc199)
    exact q0
  · skip
    refine we_iconst (v := 1) (p := 192) dX12_readLine_191 (by decide) rfl ?_
    refine we_goto (p := 196) dX12_readLine_192 (by decide) rfl ?_
    refine we_callV_int (p := 199) (k' := 3) (a := [.ref 95, .ref (sp_S + 10), .int 1]) (rr := []) dX12_readLine_196 rfl rfl rfl rfl (rc_of rfl rfl (by decide) ⟨rfl, by decide⟩) (Nat.le_of_ble_eq_true rfl) (Nat.le_of_ble_eq_true rfl) (by decide) (y_begins_n (j := 10) hF hm (by decide) (by decide) hq) (Or.inl rfl) rfl ?_
    refine we_if_eq (t := 209) (p := 202) dX12_readLine_199 (by decide) rfl rfl (fun hc199 => ?_) (fun hc199 => absurd (by decide) hc199)
    exact q0
set_option maxRecDepth 10000 in
theorem y_rl_6 {I : Nat → Nat → Int32} {J : Nat → Nat → Int64} {F : Nat → Nat → Option Nat} {nc ns : Nat} {T : Nat → Nat} {n : Nat} {S : pZ} (hF : RFok F) (hm : tM T n (zP S) I) (hc : cM T S I) (hI : zI T n S) (hz : zF S = 0) {Q : Option Value → hp_H → Prop} (hq : ¬ tQ T n (zP S) = nI 6) (q0 : Ew 8 mX12_readLine 241 [.ref 95] [] ((SH, nc, ns), I, J, F) Q) : Ew 8 mX12_readLine 209 [.ref 95] [] ((SH, nc, ns), I, J, F) Q := by
  refine we_aload_n (p := 210) dX12_readLine_209 rfl rfl ?_
  refine we_ldcS (j := 11) (p := 212) dX12_readLine_210 rfl rfl rfl ?_
  refine we_aload_n (p := 213) dX12_readLine_212 rfl rfl ?_
  refine we_getR (c := 11) (j := 16) (n := 37) (b := 99) (p := 216) dX12_readLine_213 rfl rfl (by decide) (by decide) rfl (r_95_16 hF) rfl ?_
  refine we_bipush (v := 8) (p := 218) dX12_readLine_216 (by decide) rfl ?_
  refine wf_iald (n := 276) (i := 8) (v := nI (dN (zD S) 6)) (p := 219) dX12_readLine_218 rfl (by decide) (by decide) (by decide) ((hc.1.2.2.1 6 (by decide)).trans (hI.2.1.1 6 (by decide))) rfl ?_
  refine we_iconst (v := 4) (p := 220) dX12_readLine_219 (by decide) rfl ?_
  refine we_icmp_ge (t := 227) (p := 223) dX12_readLine_220 (by decide) rfl rfl (fun hc220 => ?_) (fun hc220 => ?_)
  · skip
    refine we_iconst (v := 0) (p := 228) dX12_readLine_227 (by decide) rfl ?_
    refine we_callV_int (p := 231) (k' := 3) (a := [.ref 95, .ref (sp_S + 11), .int 0]) (rr := []) dX12_readLine_228 rfl rfl rfl rfl (rc_of rfl rfl (by decide) ⟨rfl, by decide⟩) (Nat.le_of_ble_eq_true rfl) (Nat.le_of_ble_eq_true rfl) (by decide) (y_begins_n (j := 11) hF hm (by decide) (by decide) hq) (Or.inl rfl) rfl ?_
    refine we_if_eq (t := 241) (p := 234) dX12_readLine_231 (by decide) rfl rfl (fun hc231 => ?_) (fun hc231 => absurd (by decide) hc231)
    exact q0
  · skip
    refine we_iconst (v := 1) (p := 224) dX12_readLine_223 (by decide) rfl ?_
    refine we_goto (p := 228) dX12_readLine_224 (by decide) rfl ?_
    refine we_callV_int (p := 231) (k' := 3) (a := [.ref 95, .ref (sp_S + 11), .int 1]) (rr := []) dX12_readLine_228 rfl rfl rfl rfl (rc_of rfl rfl (by decide) ⟨rfl, by decide⟩) (Nat.le_of_ble_eq_true rfl) (Nat.le_of_ble_eq_true rfl) (by decide) (y_begins_n (j := 11) hF hm (by decide) (by decide) hq) (Or.inl rfl) rfl ?_
    refine we_if_eq (t := 241) (p := 234) dX12_readLine_231 (by decide) rfl rfl (fun hc231 => ?_) (fun hc231 => absurd (by decide) hc231)
    exact q0
theorem pL_of {T : Nat → Nat} {n k : Nat} {S : pZ} (hk : k < 7) (hq : tQ T n (zP S) = nI k) : pL T n S = pB (pLn T n k S) (pIn k) := by
  have h1 : ¬ tQ T n (zP S) < 0 := by rw [hq]; exact nI_nlt (a := k) (b := 0) (by omega) (by omega)
  have h2 : ¬ 7 < tQ T n (zP S) := by rw [hq]; exact nI_nlt (a := 7) (b := k) (by omega) (by omega)
  have h3 : ¬ 7 ≤ tQ T n (zP S) := by rw [hq]; exact nI_ge (a := k) (b := 7) (by omega) (by omega)
  unfold pL pLs
  simp only [if_neg h1, if_neg h2, if_neg h3]
  rw [hq, nI_cl (by omega)]
theorem pL_6 {T : Nat → Nat} {n k : Nat} {S : pZ} (hk : k < 7) (hq : tQ T n (zP S) = nI k) (h : zD S 0 0 ≤ 0) : pL T n S = pFl 6 S := by
  rw [pL_of hk hq]
  unfold pLn
  rw [if_neg (by omega), if_pos h]
  exact pB_n (show ¬ (6 : Nat) = 0 by decide)
theorem pL_5 {T : Nat → Nat} {n k : Nat} {S : pZ} (hk : k < 7) (hq : tQ T n (zP S) = nI k) (h : ¬ zD S 0 0 ≤ 0) (h2 : rmN k ≤ dN (zD S) k) : pL T n S = pFl 5 S := by
  rw [pL_of hk hq]
  unfold pLn
  rw [if_neg (by omega), if_neg h, if_pos h2]
  exact pB_n (show ¬ (5 : Nat) = 0 by decide)
theorem pL_y {T : Nat → Nat} {n k : Nat} {S : pZ} (hk : k < 7) (hq : tQ T n (zP S) = nI k) (h : ¬ zD S 0 0 ≤ 0) (h2 : ¬ rmN k ≤ dN (zD S) k) : pL T n S = pB (pLk T n k (dN (zD S) k) (pAv T n S)) (pIn k) := by
  rw [pL_of hk hq]
  unfold pLn
  rw [if_neg (by omega), if_neg h, if_neg h2]
theorem pL_1 {T : Nat → Nat} {n : Nat} {S : pZ} (h : tQ T n (zP S) < 0 ∨ 7 < tQ T n (zP S)) : pL T n S = pFl 1 S := by
  have e : pLs T n S = pFl 1 S := by
    unfold pLs
    by_cases c : tQ T n (zP S) < 0
    · rw [if_pos c]
    · rw [if_neg c, if_pos (h.resolve_left c)]
  unfold pL
  rw [e]
  exact pB_n (show ¬ (1 : Nat) = 0 by decide)
theorem pL_7 {T : Nat → Nat} {n : Nat} {S : pZ} (hq : tQ T n (zP S) = nI 7) : pL T n S = pOath T n S := by
  have h1 : ¬ tQ T n (zP S) < 0 := by rw [hq]; decide
  have h2 : ¬ 7 < tQ T n (zP S) := by rw [hq]; decide
  have h3 : 7 ≤ tQ T n (zP S) := by rw [hq]; decide
  have h4 : (tQ T n (zP S)).toNatClampNeg = 7 := by rw [hq]; rfl
  unfold pL pLs
  simp only [if_neg h1, if_neg h2, if_pos h3, h4]
  unfold pLn pB
  rw [if_pos rfl]
  split <;> rfl
theorem yr_0 {D : oD} (h : yrI D) (h0 : D 0 0 ≤ 0) : D 0 0 = 0 ∧ ∀ i, i < 7 → dN D i = 0 := by
  rcases h with h | ⟨⟨y, a, b, e⟩, -⟩
  · exact h
  · rw [e] at h0
    exact absurd h0 (nI_ge (a := 0) (b := y) (by omega) (by omega))
theorem yr_1 {D : oD} (h0 : ¬ D 0 0 ≤ 0) : ¬ D 0 0 = 0 := fun z => h0 (by rw [z]; decide)
theorem lM_0 {T : Nat → Nat} {n k : Nat} {S : pZ} {I I' : Nat → Nat → Int32} (hc : cM T S I) (hI : zI T n S) (hz : zF S = 0) (f : Fm 97 98 4 9 I I') (t : tM T n (tE T n (zP S)) I') : lM T n (pAv T n S) I' I' k (dN (zD S) k) [] := ⟨FrL.rf, hz, t, hc.sm (f.1 99 (by decide) (by omega)) rfl rfl rfl, hI.2.1, rfl, fun j hj => absurd hj (by simp)⟩
theorem free_of {T : Nat → Nat} {n so : Nat} {S : pZ} (hI : zI T n S) (hso : rwO so (dN (zD S) so)) : ∀ i, i < zC S → ¬ slt (zN S i) = slO so (dN (zD S) so) := by
  intro i hi z
  obtain ⟨-, -, -, -, h5, h6⟩ := hI.2.2.2.2.2.2.2.1 i hi
  obtain ⟨-, b0, -, b2, -, -, b5, -⟩ := hI.2.1
  rw [show slO so (dN (zD S) so) = (if so = 0 then dN (zD S) so else if so = 2 then 6 + dN (zD S) so else 14 + dN (zD S) so) from rfl] at z
  unfold slt at z
  rcases h5 with e | e | e <;> rcases hso with ⟨rfl, hr⟩ | ⟨rfl, hr⟩ | ⟨rfl, hr⟩ <;> simp [e] at z h6 <;> omega
set_option maxRecDepth 10000 in
theorem y_rh_0 {I : Nat → Nat → Int32} {J : Nat → Nat → Int64} {F : Nat → Nat → Option Nat} {nc ns : Nat} {T : Nat → Nat} {n : Nat} {S : pZ} (hF : RFok F) (hm : tM T n (zP S) I) (hc : cM T S I) (hI : zI T n S) (hz : zF S = 0) (hq : tQ T n (zP S) = nI 0) : Ew 8 mX12_readLine 16 [.ref 95] [] ((SH, nc, ns), I, J, F) (RmL nc ns T n I J F (pL T n S)) := by
  obtain ⟨-, b0, b1, b2, b3, b4, b5, b6⟩ := hI.2.1
  by_cases h0 : zD S 0 0 ≤ 0
  · have hE : pL T n S = pFl 6 S := pL_6 (k := 0) (by decide) hq h0
    have h00 := yr_0 hI.2.2.2.2.1 h0
    have hd := h00.2 0 (by decide)
    refine we_aload_n (p := 17) dX12_readLine_16 rfl rfl ?_
    refine we_ldcS (j := 5) (p := 19) dX12_readLine_17 rfl rfl rfl ?_
    refine we_aload_n (p := 20) dX12_readLine_19 rfl rfl ?_
    refine we_getR (c := 11) (j := 16) (n := 37) (b := 99) (p := 23) dX12_readLine_20 rfl rfl (by decide) (by decide) rfl (r_95_16 hF) rfl ?_
    refine we_iconst (v := 2) (p := 24) dX12_readLine_23 (by decide) rfl ?_
    refine wf_iald (n := 276) (i := 2) (v := nI (dN (zD S) 0)) (p := 25) dX12_readLine_24 rfl (by decide) (by decide) (by decide) ((hc.1.2.2.1 0 (by decide)).trans (hI.2.1.1 0 (by decide))) rfl ?_
    refine we_bipush (v := 6) (p := 27) dX12_readLine_25 (by decide) rfl ?_
    refine we_icmp_ge (t := 34) (p := 30) dX12_readLine_27 (by decide) rfl rfl (fun hc27 => absurd hc27 (nI_ge (a := dN (zD S) 0) (b := 6) (by omega) (by omega))) (fun hc27 => ?_)
    refine we_iconst (v := 1) (p := 31) dX12_readLine_30 (by decide) rfl ?_
    refine we_goto (p := 35) dX12_readLine_31 (by decide) rfl ?_
    refine we_callV_int (p := 38) (k' := 3) (a := [.ref 95, .ref (sp_S + 5), .int 1]) (rr := []) dX12_readLine_35 rfl rfl rfl rfl (rc_of rfl rfl (by decide) ⟨rfl, by decide⟩) (Nat.le_of_ble_eq_true rfl) (Nat.le_of_ble_eq_true rfl) (by decide) (y_begins_6 (j := 5) hF hm (by decide) (by decide) hq (hc.1.1.trans h00.1)) (Or.inl rfl) rfl ?_
    refine we_if_eq (t := 48) (p := 41) dX12_readLine_38 (by decide) rfl rfl (fun hc38 => absurd hc38 (by decide)) (fun hc38 => ?_)
    refine we_aload_n (p := 42) dX12_readLine_41 rfl rfl ?_
    refine we_callV_v (p := 45) (k' := 0) (a := [.ref 95]) (rr := []) dX12_readLine_42 rfl rfl rfl rfl (rc_of rfl rfl (by decide) ⟨rfl, by decide⟩) (Nat.le_of_ble_eq_true rfl) (Nat.le_of_ble_eq_true rfl) (by decide) (y_harbourLine_f hF wr13) (Or.inl rfl) rfl ?_
    refine we_goto (p := 250) dX12_readLine_45 (by decide) rfl ?_
    exact wv_ret dX12_readLine_250 rfl (⟨_, rfl, FrT.wr.l, Or.inr ⟨by rw [hE]; show ¬ (6 : Nat) = 0; decide, rfl, by rw [hE]; exact mF.wr (k := 6) rfl rfl⟩⟩)
  · have h00 := h0
    by_cases hf : 6 ≤ dN (zD S) 0
    · have hE : pL T n S = pFl 5 S := pL_5 (k := 0) (by decide) hq h0 hf
      refine we_aload_n (p := 17) dX12_readLine_16 rfl rfl ?_
      refine we_ldcS (j := 5) (p := 19) dX12_readLine_17 rfl rfl rfl ?_
      refine we_aload_n (p := 20) dX12_readLine_19 rfl rfl ?_
      refine we_getR (c := 11) (j := 16) (n := 37) (b := 99) (p := 23) dX12_readLine_20 rfl rfl (by decide) (by decide) rfl (r_95_16 hF) rfl ?_
      refine we_iconst (v := 2) (p := 24) dX12_readLine_23 (by decide) rfl ?_
      refine wf_iald (n := 276) (i := 2) (v := nI (dN (zD S) 0)) (p := 25) dX12_readLine_24 rfl (by decide) (by decide) (by decide) ((hc.1.2.2.1 0 (by decide)).trans (hI.2.1.1 0 (by decide))) rfl ?_
      refine we_bipush (v := 6) (p := 27) dX12_readLine_25 (by decide) rfl ?_
      refine we_icmp_ge (t := 34) (p := 30) dX12_readLine_27 (by decide) rfl rfl (fun hc27 => ?_) (fun hc27 => absurd (nI_le (a := 6) (b := dN (zD S) 0) (by omega) (by omega)) hc27)
      refine we_iconst (v := 0) (p := 35) dX12_readLine_34 (by decide) rfl ?_
      refine we_callV_int (p := 38) (k' := 3) (a := [.ref 95, .ref (sp_S + 5), .int 0]) (rr := []) dX12_readLine_35 rfl rfl rfl rfl (rc_of rfl rfl (by decide) ⟨rfl, by decide⟩) (Nat.le_of_ble_eq_true rfl) (Nat.le_of_ble_eq_true rfl) (by decide) (y_begins_5 (j := 5) hF hm (by decide) (by decide) hq hc.1.1 (yr_1 h00)) (Or.inl rfl) rfl ?_
      refine we_if_eq (t := 48) (p := 41) dX12_readLine_38 (by decide) rfl rfl (fun hc38 => absurd hc38 (by decide)) (fun hc38 => ?_)
      refine we_aload_n (p := 42) dX12_readLine_41 rfl rfl ?_
      refine we_callV_v (p := 45) (k' := 0) (a := [.ref 95]) (rr := []) dX12_readLine_42 rfl rfl rfl rfl (rc_of rfl rfl (by decide) ⟨rfl, by decide⟩) (Nat.le_of_ble_eq_true rfl) (Nat.le_of_ble_eq_true rfl) (by decide) (y_harbourLine_f hF wr13) (Or.inl rfl) rfl ?_
      refine we_goto (p := 250) dX12_readLine_45 (by decide) rfl ?_
      exact wv_ret dX12_readLine_250 rfl (⟨_, rfl, FrT.wr.l, Or.inr ⟨by rw [hE]; show ¬ (5 : Nat) = 0; decide, rfl, by rw [hE]; exact mF.wr (k := 5) rfl rfl⟩⟩)
    · have hE : pL T n S = pB (pLk T n 0 (dN (zD S) 0) (pAv T n S)) (pIn 0) := pL_y (k := 0) (by decide) hq h0 hf
      refine we_aload_n (p := 17) dX12_readLine_16 rfl rfl ?_
      refine we_ldcS (j := 5) (p := 19) dX12_readLine_17 rfl rfl rfl ?_
      refine we_aload_n (p := 20) dX12_readLine_19 rfl rfl ?_
      refine we_getR (c := 11) (j := 16) (n := 37) (b := 99) (p := 23) dX12_readLine_20 rfl rfl (by decide) (by decide) rfl (r_95_16 hF) rfl ?_
      refine we_iconst (v := 2) (p := 24) dX12_readLine_23 (by decide) rfl ?_
      refine wf_iald (n := 276) (i := 2) (v := nI (dN (zD S) 0)) (p := 25) dX12_readLine_24 rfl (by decide) (by decide) (by decide) ((hc.1.2.2.1 0 (by decide)).trans (hI.2.1.1 0 (by decide))) rfl ?_
      refine we_bipush (v := 6) (p := 27) dX12_readLine_25 (by decide) rfl ?_
      refine we_icmp_ge (t := 34) (p := 30) dX12_readLine_27 (by decide) rfl rfl (fun hc27 => absurd hc27 (nI_ge (a := dN (zD S) 0) (b := 6) (by omega) (by omega))) (fun hc27 => ?_)
      refine we_iconst (v := 1) (p := 31) dX12_readLine_30 (by decide) rfl ?_
      refine we_goto (p := 35) dX12_readLine_31 (by decide) rfl ?_
      obtain ⟨_, _, e1, rfl, I1, J1, F1, rfl, rfl, rfl, f1, t1⟩ := y_begins (j := 5) hF hm (by decide) (by decide) hq hc.1.1 (yr_1 h00)
      refine we_callV_int (p := 38) (k' := 3) (a := [.ref 95, .ref (sp_S + 5), .int 1]) (rr := []) dX12_readLine_35 rfl rfl rfl rfl (rc_of rfl rfl (by decide) ⟨rfl, by decide⟩) (Nat.le_of_ble_eq_true rfl) (Nat.le_of_ble_eq_true rfl) (by decide) e1 (Or.inl rfl) rfl ?_
      refine we_if_eq (t := 48) (p := 41) dX12_readLine_38 (by decide) rfl rfl (fun hc38 => absurd hc38 (by decide)) (fun hc38 => ?_)
      refine we_aload_n (p := 42) dX12_readLine_41 rfl rfl ?_
      obtain ⟨_, _, e2, I2, rfl, f2, ⟨z2, rfl, t2⟩ | ⟨z2, rfl, g2⟩⟩ := y_harbourLine (S := pAv T n S) (row := dN (zD S) 0) hF (lM_0 hc hI hz f1 t1) (by omega) (free_of (S := S) hI (Or.inl ⟨rfl, by omega⟩))
      · skip
        refine we_callV_v (p := 45) (k' := 6) (a := [.ref 95]) (rr := []) dX12_readLine_42 rfl rfl rfl rfl (rc_of rfl rfl (by decide) ⟨rfl, by decide⟩) (Nat.le_of_ble_eq_true rfl) (Nat.le_of_ble_eq_true rfl) (by decide) e2 (Or.inl rfl) rfl ?_
        refine we_goto (p := 250) dX12_readLine_45 (by decide) rfl ?_
        exact wv_ret dX12_readLine_250 rfl (RmL.fr (FrT.fm f1).l (by rw [hE]; exact ⟨_, rfl, f2, Or.inl ⟨z2, rfl, t2⟩⟩))
      · skip
        refine we_callV_v (p := 45) (k' := 6) (a := [.ref 95]) (rr := []) dX12_readLine_42 rfl rfl rfl rfl (rc_of rfl rfl (by decide) ⟨rfl, by decide⟩) (Nat.le_of_ble_eq_true rfl) (Nat.le_of_ble_eq_true rfl) (by decide) e2 (Or.inl rfl) rfl ?_
        refine we_goto (p := 250) dX12_readLine_45 (by decide) rfl ?_
        exact wv_ret dX12_readLine_250 rfl (RmL.fr (FrT.fm f1).l (by rw [hE]; exact ⟨_, rfl, f2, Or.inr ⟨z2, rfl, g2⟩⟩))
set_option maxRecDepth 10000 in
theorem y_rh_1 {I : Nat → Nat → Int32} {J : Nat → Nat → Int64} {F : Nat → Nat → Option Nat} {nc ns : Nat} {T : Nat → Nat} {n : Nat} {S : pZ} (hF : RFok F) (hm : tM T n (zP S) I) (hc : cM T S I) (hI : zI T n S) (hz : zF S = 0) (hq : tQ T n (zP S) = nI 1) : Ew 8 mX12_readLine 48 [.ref 95] [] ((SH, nc, ns), I, J, F) (RmL nc ns T n I J F (pL T n S)) := by
  obtain ⟨-, b0, b1, b2, b3, b4, b5, b6⟩ := hI.2.1
  by_cases h0 : zD S 0 0 ≤ 0
  · have hE : pL T n S = pFl 6 S := pL_6 (k := 1) (by decide) hq h0
    have h00 := yr_0 hI.2.2.2.2.1 h0
    have hd := h00.2 1 (by decide)
    refine we_aload_n (p := 49) dX12_readLine_48 rfl rfl ?_
    refine we_ldcS (j := 6) (p := 51) dX12_readLine_49 rfl rfl rfl ?_
    refine we_aload_n (p := 52) dX12_readLine_51 rfl rfl ?_
    refine we_getR (c := 11) (j := 16) (n := 37) (b := 99) (p := 55) dX12_readLine_52 rfl rfl (by decide) (by decide) rfl (r_95_16 hF) rfl ?_
    refine we_iconst (v := 3) (p := 56) dX12_readLine_55 (by decide) rfl ?_
    refine wf_iald (n := 276) (i := 3) (v := nI (dN (zD S) 1)) (p := 57) dX12_readLine_56 rfl (by decide) (by decide) (by decide) ((hc.1.2.2.1 1 (by decide)).trans (hI.2.1.1 1 (by decide))) rfl ?_
    refine we_bipush (v := 10) (p := 59) dX12_readLine_57 (by decide) rfl ?_
    refine we_icmp_ge (t := 66) (p := 62) dX12_readLine_59 (by decide) rfl rfl (fun hc59 => absurd hc59 (nI_ge (a := dN (zD S) 1) (b := 10) (by omega) (by omega))) (fun hc59 => ?_)
    refine we_iconst (v := 1) (p := 63) dX12_readLine_62 (by decide) rfl ?_
    refine we_goto (p := 67) dX12_readLine_63 (by decide) rfl ?_
    refine we_callV_int (p := 70) (k' := 3) (a := [.ref 95, .ref (sp_S + 6), .int 1]) (rr := []) dX12_readLine_67 rfl rfl rfl rfl (rc_of rfl rfl (by decide) ⟨rfl, by decide⟩) (Nat.le_of_ble_eq_true rfl) (Nat.le_of_ble_eq_true rfl) (by decide) (y_begins_6 (j := 6) hF hm (by decide) (by decide) hq (hc.1.1.trans h00.1)) (Or.inl rfl) rfl ?_
    refine we_if_eq (t := 80) (p := 73) dX12_readLine_70 (by decide) rfl rfl (fun hc70 => absurd hc70 (by decide)) (fun hc70 => ?_)
    refine we_aload_n (p := 74) dX12_readLine_73 rfl rfl ?_
    refine we_callV_v (p := 77) (k' := 0) (a := [.ref 95]) (rr := []) dX12_readLine_74 rfl rfl rfl rfl (rc_of rfl rfl (by decide) ⟨rfl, by decide⟩) (Nat.le_of_ble_eq_true rfl) (Nat.le_of_ble_eq_true rfl) (by decide) (y_seaLine_f hF wr13) (Or.inl rfl) rfl ?_
    refine we_goto (p := 250) dX12_readLine_77 (by decide) rfl ?_
    exact wv_ret dX12_readLine_250 rfl (⟨_, rfl, FrT.wr.l, Or.inr ⟨by rw [hE]; show ¬ (6 : Nat) = 0; decide, rfl, by rw [hE]; exact mF.wr (k := 6) rfl rfl⟩⟩)
  · have h00 := h0
    by_cases hf : 10 ≤ dN (zD S) 1
    · have hE : pL T n S = pFl 5 S := pL_5 (k := 1) (by decide) hq h0 hf
      refine we_aload_n (p := 49) dX12_readLine_48 rfl rfl ?_
      refine we_ldcS (j := 6) (p := 51) dX12_readLine_49 rfl rfl rfl ?_
      refine we_aload_n (p := 52) dX12_readLine_51 rfl rfl ?_
      refine we_getR (c := 11) (j := 16) (n := 37) (b := 99) (p := 55) dX12_readLine_52 rfl rfl (by decide) (by decide) rfl (r_95_16 hF) rfl ?_
      refine we_iconst (v := 3) (p := 56) dX12_readLine_55 (by decide) rfl ?_
      refine wf_iald (n := 276) (i := 3) (v := nI (dN (zD S) 1)) (p := 57) dX12_readLine_56 rfl (by decide) (by decide) (by decide) ((hc.1.2.2.1 1 (by decide)).trans (hI.2.1.1 1 (by decide))) rfl ?_
      refine we_bipush (v := 10) (p := 59) dX12_readLine_57 (by decide) rfl ?_
      refine we_icmp_ge (t := 66) (p := 62) dX12_readLine_59 (by decide) rfl rfl (fun hc59 => ?_) (fun hc59 => absurd (nI_le (a := 10) (b := dN (zD S) 1) (by omega) (by omega)) hc59)
      refine we_iconst (v := 0) (p := 67) dX12_readLine_66 (by decide) rfl ?_
      refine we_callV_int (p := 70) (k' := 3) (a := [.ref 95, .ref (sp_S + 6), .int 0]) (rr := []) dX12_readLine_67 rfl rfl rfl rfl (rc_of rfl rfl (by decide) ⟨rfl, by decide⟩) (Nat.le_of_ble_eq_true rfl) (Nat.le_of_ble_eq_true rfl) (by decide) (y_begins_5 (j := 6) hF hm (by decide) (by decide) hq hc.1.1 (yr_1 h00)) (Or.inl rfl) rfl ?_
      refine we_if_eq (t := 80) (p := 73) dX12_readLine_70 (by decide) rfl rfl (fun hc70 => absurd hc70 (by decide)) (fun hc70 => ?_)
      refine we_aload_n (p := 74) dX12_readLine_73 rfl rfl ?_
      refine we_callV_v (p := 77) (k' := 0) (a := [.ref 95]) (rr := []) dX12_readLine_74 rfl rfl rfl rfl (rc_of rfl rfl (by decide) ⟨rfl, by decide⟩) (Nat.le_of_ble_eq_true rfl) (Nat.le_of_ble_eq_true rfl) (by decide) (y_seaLine_f hF wr13) (Or.inl rfl) rfl ?_
      refine we_goto (p := 250) dX12_readLine_77 (by decide) rfl ?_
      exact wv_ret dX12_readLine_250 rfl (⟨_, rfl, FrT.wr.l, Or.inr ⟨by rw [hE]; show ¬ (5 : Nat) = 0; decide, rfl, by rw [hE]; exact mF.wr (k := 5) rfl rfl⟩⟩)
    · have hE : pL T n S = pB (pLk T n 1 (dN (zD S) 1) (pAv T n S)) (pIn 1) := pL_y (k := 1) (by decide) hq h0 hf
      refine we_aload_n (p := 49) dX12_readLine_48 rfl rfl ?_
      refine we_ldcS (j := 6) (p := 51) dX12_readLine_49 rfl rfl rfl ?_
      refine we_aload_n (p := 52) dX12_readLine_51 rfl rfl ?_
      refine we_getR (c := 11) (j := 16) (n := 37) (b := 99) (p := 55) dX12_readLine_52 rfl rfl (by decide) (by decide) rfl (r_95_16 hF) rfl ?_
      refine we_iconst (v := 3) (p := 56) dX12_readLine_55 (by decide) rfl ?_
      refine wf_iald (n := 276) (i := 3) (v := nI (dN (zD S) 1)) (p := 57) dX12_readLine_56 rfl (by decide) (by decide) (by decide) ((hc.1.2.2.1 1 (by decide)).trans (hI.2.1.1 1 (by decide))) rfl ?_
      refine we_bipush (v := 10) (p := 59) dX12_readLine_57 (by decide) rfl ?_
      refine we_icmp_ge (t := 66) (p := 62) dX12_readLine_59 (by decide) rfl rfl (fun hc59 => absurd hc59 (nI_ge (a := dN (zD S) 1) (b := 10) (by omega) (by omega))) (fun hc59 => ?_)
      refine we_iconst (v := 1) (p := 63) dX12_readLine_62 (by decide) rfl ?_
      refine we_goto (p := 67) dX12_readLine_63 (by decide) rfl ?_
      obtain ⟨_, _, e1, rfl, I1, J1, F1, rfl, rfl, rfl, f1, t1⟩ := y_begins (j := 6) hF hm (by decide) (by decide) hq hc.1.1 (yr_1 h00)
      refine we_callV_int (p := 70) (k' := 3) (a := [.ref 95, .ref (sp_S + 6), .int 1]) (rr := []) dX12_readLine_67 rfl rfl rfl rfl (rc_of rfl rfl (by decide) ⟨rfl, by decide⟩) (Nat.le_of_ble_eq_true rfl) (Nat.le_of_ble_eq_true rfl) (by decide) e1 (Or.inl rfl) rfl ?_
      refine we_if_eq (t := 80) (p := 73) dX12_readLine_70 (by decide) rfl rfl (fun hc70 => absurd hc70 (by decide)) (fun hc70 => ?_)
      refine we_aload_n (p := 74) dX12_readLine_73 rfl rfl ?_
      obtain ⟨_, _, e2, I2, rfl, f2, ⟨z2, rfl, t2⟩ | ⟨z2, rfl, g2⟩⟩ := y_seaLine (S := pAv T n S) (row := dN (zD S) 1) hF (lM_0 hc hI hz f1 t1) (by omega)
      · skip
        refine we_callV_v (p := 77) (k' := 7) (a := [.ref 95]) (rr := []) dX12_readLine_74 rfl rfl rfl rfl (rc_of rfl rfl (by decide) ⟨rfl, by decide⟩) (Nat.le_of_ble_eq_true rfl) (Nat.le_of_ble_eq_true rfl) (by decide) e2 (Or.inl rfl) rfl ?_
        refine we_goto (p := 250) dX12_readLine_77 (by decide) rfl ?_
        exact wv_ret dX12_readLine_250 rfl (RmL.fr (FrT.fm f1).l (by rw [hE]; exact ⟨_, rfl, f2, Or.inl ⟨z2, rfl, t2⟩⟩))
      · skip
        refine we_callV_v (p := 77) (k' := 7) (a := [.ref 95]) (rr := []) dX12_readLine_74 rfl rfl rfl rfl (rc_of rfl rfl (by decide) ⟨rfl, by decide⟩) (Nat.le_of_ble_eq_true rfl) (Nat.le_of_ble_eq_true rfl) (by decide) e2 (Or.inl rfl) rfl ?_
        refine we_goto (p := 250) dX12_readLine_77 (by decide) rfl ?_
        exact wv_ret dX12_readLine_250 rfl (RmL.fr (FrT.fm f1).l (by rw [hE]; exact ⟨_, rfl, f2, Or.inr ⟨z2, rfl, g2⟩⟩))
set_option maxRecDepth 10000 in
theorem y_rh_2 {I : Nat → Nat → Int32} {J : Nat → Nat → Int64} {F : Nat → Nat → Option Nat} {nc ns : Nat} {T : Nat → Nat} {n : Nat} {S : pZ} (hF : RFok F) (hm : tM T n (zP S) I) (hc : cM T S I) (hI : zI T n S) (hz : zF S = 0) (hq : tQ T n (zP S) = nI 2) : Ew 8 mX12_readLine 80 [.ref 95] [] ((SH, nc, ns), I, J, F) (RmL nc ns T n I J F (pL T n S)) := by
  obtain ⟨-, b0, b1, b2, b3, b4, b5, b6⟩ := hI.2.1
  by_cases h0 : zD S 0 0 ≤ 0
  · have hE : pL T n S = pFl 6 S := pL_6 (k := 2) (by decide) hq h0
    have h00 := yr_0 hI.2.2.2.2.1 h0
    have hd := h00.2 2 (by decide)
    refine we_aload_n (p := 81) dX12_readLine_80 rfl rfl ?_
    refine we_ldcS (j := 7) (p := 83) dX12_readLine_81 rfl rfl rfl ?_
    refine we_aload_n (p := 84) dX12_readLine_83 rfl rfl ?_
    refine we_getR (c := 11) (j := 16) (n := 37) (b := 99) (p := 87) dX12_readLine_84 rfl rfl (by decide) (by decide) rfl (r_95_16 hF) rfl ?_
    refine we_iconst (v := 4) (p := 88) dX12_readLine_87 (by decide) rfl ?_
    refine wf_iald (n := 276) (i := 4) (v := nI (dN (zD S) 2)) (p := 89) dX12_readLine_88 rfl (by decide) (by decide) (by decide) ((hc.1.2.2.1 2 (by decide)).trans (hI.2.1.1 2 (by decide))) rfl ?_
    refine we_bipush (v := 8) (p := 91) dX12_readLine_89 (by decide) rfl ?_
    refine we_icmp_ge (t := 98) (p := 94) dX12_readLine_91 (by decide) rfl rfl (fun hc91 => absurd hc91 (nI_ge (a := dN (zD S) 2) (b := 8) (by omega) (by omega))) (fun hc91 => ?_)
    refine we_iconst (v := 1) (p := 95) dX12_readLine_94 (by decide) rfl ?_
    refine we_goto (p := 99) dX12_readLine_95 (by decide) rfl ?_
    refine we_callV_int (p := 102) (k' := 3) (a := [.ref 95, .ref (sp_S + 7), .int 1]) (rr := []) dX12_readLine_99 rfl rfl rfl rfl (rc_of rfl rfl (by decide) ⟨rfl, by decide⟩) (Nat.le_of_ble_eq_true rfl) (Nat.le_of_ble_eq_true rfl) (by decide) (y_begins_6 (j := 7) hF hm (by decide) (by decide) hq (hc.1.1.trans h00.1)) (Or.inl rfl) rfl ?_
    refine we_if_eq (t := 112) (p := 105) dX12_readLine_102 (by decide) rfl rfl (fun hc102 => absurd hc102 (by decide)) (fun hc102 => ?_)
    refine we_aload_n (p := 106) dX12_readLine_105 rfl rfl ?_
    refine we_callV_v (p := 109) (k' := 0) (a := [.ref 95]) (rr := []) dX12_readLine_106 rfl rfl rfl rfl (rc_of rfl rfl (by decide) ⟨rfl, by decide⟩) (Nat.le_of_ble_eq_true rfl) (Nat.le_of_ble_eq_true rfl) (by decide) (y_womanLine_f hF wr13) (Or.inl rfl) rfl ?_
    refine we_goto (p := 250) dX12_readLine_109 (by decide) rfl ?_
    exact wv_ret dX12_readLine_250 rfl (⟨_, rfl, FrT.wr.l, Or.inr ⟨by rw [hE]; show ¬ (6 : Nat) = 0; decide, rfl, by rw [hE]; exact mF.wr (k := 6) rfl rfl⟩⟩)
  · have h00 := h0
    by_cases hf : 8 ≤ dN (zD S) 2
    · have hE : pL T n S = pFl 5 S := pL_5 (k := 2) (by decide) hq h0 hf
      refine we_aload_n (p := 81) dX12_readLine_80 rfl rfl ?_
      refine we_ldcS (j := 7) (p := 83) dX12_readLine_81 rfl rfl rfl ?_
      refine we_aload_n (p := 84) dX12_readLine_83 rfl rfl ?_
      refine we_getR (c := 11) (j := 16) (n := 37) (b := 99) (p := 87) dX12_readLine_84 rfl rfl (by decide) (by decide) rfl (r_95_16 hF) rfl ?_
      refine we_iconst (v := 4) (p := 88) dX12_readLine_87 (by decide) rfl ?_
      refine wf_iald (n := 276) (i := 4) (v := nI (dN (zD S) 2)) (p := 89) dX12_readLine_88 rfl (by decide) (by decide) (by decide) ((hc.1.2.2.1 2 (by decide)).trans (hI.2.1.1 2 (by decide))) rfl ?_
      refine we_bipush (v := 8) (p := 91) dX12_readLine_89 (by decide) rfl ?_
      refine we_icmp_ge (t := 98) (p := 94) dX12_readLine_91 (by decide) rfl rfl (fun hc91 => ?_) (fun hc91 => absurd (nI_le (a := 8) (b := dN (zD S) 2) (by omega) (by omega)) hc91)
      refine we_iconst (v := 0) (p := 99) dX12_readLine_98 (by decide) rfl ?_
      refine we_callV_int (p := 102) (k' := 3) (a := [.ref 95, .ref (sp_S + 7), .int 0]) (rr := []) dX12_readLine_99 rfl rfl rfl rfl (rc_of rfl rfl (by decide) ⟨rfl, by decide⟩) (Nat.le_of_ble_eq_true rfl) (Nat.le_of_ble_eq_true rfl) (by decide) (y_begins_5 (j := 7) hF hm (by decide) (by decide) hq hc.1.1 (yr_1 h00)) (Or.inl rfl) rfl ?_
      refine we_if_eq (t := 112) (p := 105) dX12_readLine_102 (by decide) rfl rfl (fun hc102 => absurd hc102 (by decide)) (fun hc102 => ?_)
      refine we_aload_n (p := 106) dX12_readLine_105 rfl rfl ?_
      refine we_callV_v (p := 109) (k' := 0) (a := [.ref 95]) (rr := []) dX12_readLine_106 rfl rfl rfl rfl (rc_of rfl rfl (by decide) ⟨rfl, by decide⟩) (Nat.le_of_ble_eq_true rfl) (Nat.le_of_ble_eq_true rfl) (by decide) (y_womanLine_f hF wr13) (Or.inl rfl) rfl ?_
      refine we_goto (p := 250) dX12_readLine_109 (by decide) rfl ?_
      exact wv_ret dX12_readLine_250 rfl (⟨_, rfl, FrT.wr.l, Or.inr ⟨by rw [hE]; show ¬ (5 : Nat) = 0; decide, rfl, by rw [hE]; exact mF.wr (k := 5) rfl rfl⟩⟩)
    · have hE : pL T n S = pB (pLk T n 2 (dN (zD S) 2) (pAv T n S)) (pIn 2) := pL_y (k := 2) (by decide) hq h0 hf
      refine we_aload_n (p := 81) dX12_readLine_80 rfl rfl ?_
      refine we_ldcS (j := 7) (p := 83) dX12_readLine_81 rfl rfl rfl ?_
      refine we_aload_n (p := 84) dX12_readLine_83 rfl rfl ?_
      refine we_getR (c := 11) (j := 16) (n := 37) (b := 99) (p := 87) dX12_readLine_84 rfl rfl (by decide) (by decide) rfl (r_95_16 hF) rfl ?_
      refine we_iconst (v := 4) (p := 88) dX12_readLine_87 (by decide) rfl ?_
      refine wf_iald (n := 276) (i := 4) (v := nI (dN (zD S) 2)) (p := 89) dX12_readLine_88 rfl (by decide) (by decide) (by decide) ((hc.1.2.2.1 2 (by decide)).trans (hI.2.1.1 2 (by decide))) rfl ?_
      refine we_bipush (v := 8) (p := 91) dX12_readLine_89 (by decide) rfl ?_
      refine we_icmp_ge (t := 98) (p := 94) dX12_readLine_91 (by decide) rfl rfl (fun hc91 => absurd hc91 (nI_ge (a := dN (zD S) 2) (b := 8) (by omega) (by omega))) (fun hc91 => ?_)
      refine we_iconst (v := 1) (p := 95) dX12_readLine_94 (by decide) rfl ?_
      refine we_goto (p := 99) dX12_readLine_95 (by decide) rfl ?_
      obtain ⟨_, _, e1, rfl, I1, J1, F1, rfl, rfl, rfl, f1, t1⟩ := y_begins (j := 7) hF hm (by decide) (by decide) hq hc.1.1 (yr_1 h00)
      refine we_callV_int (p := 102) (k' := 3) (a := [.ref 95, .ref (sp_S + 7), .int 1]) (rr := []) dX12_readLine_99 rfl rfl rfl rfl (rc_of rfl rfl (by decide) ⟨rfl, by decide⟩) (Nat.le_of_ble_eq_true rfl) (Nat.le_of_ble_eq_true rfl) (by decide) e1 (Or.inl rfl) rfl ?_
      refine we_if_eq (t := 112) (p := 105) dX12_readLine_102 (by decide) rfl rfl (fun hc102 => absurd hc102 (by decide)) (fun hc102 => ?_)
      refine we_aload_n (p := 106) dX12_readLine_105 rfl rfl ?_
      obtain ⟨_, _, e2, I2, rfl, f2, ⟨z2, rfl, t2⟩ | ⟨z2, rfl, g2⟩⟩ := y_womanLine (S := pAv T n S) (row := dN (zD S) 2) hF (lM_0 hc hI hz f1 t1) (by omega) (free_of (S := S) hI (Or.inr (Or.inl ⟨rfl, by omega⟩)))
      · skip
        refine we_callV_v (p := 109) (k' := 7) (a := [.ref 95]) (rr := []) dX12_readLine_106 rfl rfl rfl rfl (rc_of rfl rfl (by decide) ⟨rfl, by decide⟩) (Nat.le_of_ble_eq_true rfl) (Nat.le_of_ble_eq_true rfl) (by decide) e2 (Or.inl rfl) rfl ?_
        refine we_goto (p := 250) dX12_readLine_109 (by decide) rfl ?_
        exact wv_ret dX12_readLine_250 rfl (RmL.fr (FrT.fm f1).l (by rw [hE]; exact ⟨_, rfl, f2, Or.inl ⟨z2, rfl, t2⟩⟩))
      · skip
        refine we_callV_v (p := 109) (k' := 7) (a := [.ref 95]) (rr := []) dX12_readLine_106 rfl rfl rfl rfl (rc_of rfl rfl (by decide) ⟨rfl, by decide⟩) (Nat.le_of_ble_eq_true rfl) (Nat.le_of_ble_eq_true rfl) (by decide) e2 (Or.inl rfl) rfl ?_
        refine we_goto (p := 250) dX12_readLine_109 (by decide) rfl ?_
        exact wv_ret dX12_readLine_250 rfl (RmL.fr (FrT.fm f1).l (by rw [hE]; exact ⟨_, rfl, f2, Or.inr ⟨z2, rfl, g2⟩⟩))
set_option maxRecDepth 10000 in
theorem y_rh_3 {I : Nat → Nat → Int32} {J : Nat → Nat → Int64} {F : Nat → Nat → Option Nat} {nc ns : Nat} {T : Nat → Nat} {n : Nat} {S : pZ} (hF : RFok F) (hm : tM T n (zP S) I) (hc : cM T S I) (hI : zI T n S) (hz : zF S = 0) (hq : tQ T n (zP S) = nI 3) : Ew 8 mX12_readLine 112 [.ref 95] [] ((SH, nc, ns), I, J, F) (RmL nc ns T n I J F (pL T n S)) := by
  obtain ⟨-, b0, b1, b2, b3, b4, b5, b6⟩ := hI.2.1
  by_cases h0 : zD S 0 0 ≤ 0
  · have hE : pL T n S = pFl 6 S := pL_6 (k := 3) (by decide) hq h0
    have h00 := yr_0 hI.2.2.2.2.1 h0
    have hd := h00.2 3 (by decide)
    refine we_aload_n (p := 113) dX12_readLine_112 rfl rfl ?_
    refine we_ldcS (j := 8) (p := 115) dX12_readLine_113 rfl rfl rfl ?_
    refine we_aload_n (p := 116) dX12_readLine_115 rfl rfl ?_
    refine we_getR (c := 11) (j := 16) (n := 37) (b := 99) (p := 119) dX12_readLine_116 rfl rfl (by decide) (by decide) rfl (r_95_16 hF) rfl ?_
    refine we_iconst (v := 5) (p := 120) dX12_readLine_119 (by decide) rfl ?_
    refine wf_iald (n := 276) (i := 5) (v := nI (dN (zD S) 3)) (p := 121) dX12_readLine_120 rfl (by decide) (by decide) (by decide) ((hc.1.2.2.1 3 (by decide)).trans (hI.2.1.1 3 (by decide))) rfl ?_
    refine we_bipush (v := 8) (p := 123) dX12_readLine_121 (by decide) rfl ?_
    refine we_icmp_ge (t := 130) (p := 126) dX12_readLine_123 (by decide) rfl rfl (fun hc123 => absurd hc123 (nI_ge (a := dN (zD S) 3) (b := 8) (by omega) (by omega))) (fun hc123 => ?_)
    refine we_iconst (v := 1) (p := 127) dX12_readLine_126 (by decide) rfl ?_
    refine we_goto (p := 131) dX12_readLine_127 (by decide) rfl ?_
    refine we_callV_int (p := 134) (k' := 3) (a := [.ref 95, .ref (sp_S + 8), .int 1]) (rr := []) dX12_readLine_131 rfl rfl rfl rfl (rc_of rfl rfl (by decide) ⟨rfl, by decide⟩) (Nat.le_of_ble_eq_true rfl) (Nat.le_of_ble_eq_true rfl) (by decide) (y_begins_6 (j := 8) hF hm (by decide) (by decide) hq (hc.1.1.trans h00.1)) (Or.inl rfl) rfl ?_
    refine we_if_eq (t := 144) (p := 137) dX12_readLine_134 (by decide) rfl rfl (fun hc134 => absurd hc134 (by decide)) (fun hc134 => ?_)
    refine we_aload_n (p := 138) dX12_readLine_137 rfl rfl ?_
    refine we_callV_v (p := 141) (k' := 0) (a := [.ref 95]) (rr := []) dX12_readLine_138 rfl rfl rfl rfl (rc_of rfl rfl (by decide) ⟨rfl, by decide⟩) (Nat.le_of_ble_eq_true rfl) (Nat.le_of_ble_eq_true rfl) (by decide) (y_rivalLine_f hF wr13) (Or.inl rfl) rfl ?_
    refine we_goto (p := 250) dX12_readLine_141 (by decide) rfl ?_
    exact wv_ret dX12_readLine_250 rfl (⟨_, rfl, FrT.wr.l, Or.inr ⟨by rw [hE]; show ¬ (6 : Nat) = 0; decide, rfl, by rw [hE]; exact mF.wr (k := 6) rfl rfl⟩⟩)
  · have h00 := h0
    by_cases hf : 8 ≤ dN (zD S) 3
    · have hE : pL T n S = pFl 5 S := pL_5 (k := 3) (by decide) hq h0 hf
      refine we_aload_n (p := 113) dX12_readLine_112 rfl rfl ?_
      refine we_ldcS (j := 8) (p := 115) dX12_readLine_113 rfl rfl rfl ?_
      refine we_aload_n (p := 116) dX12_readLine_115 rfl rfl ?_
      refine we_getR (c := 11) (j := 16) (n := 37) (b := 99) (p := 119) dX12_readLine_116 rfl rfl (by decide) (by decide) rfl (r_95_16 hF) rfl ?_
      refine we_iconst (v := 5) (p := 120) dX12_readLine_119 (by decide) rfl ?_
      refine wf_iald (n := 276) (i := 5) (v := nI (dN (zD S) 3)) (p := 121) dX12_readLine_120 rfl (by decide) (by decide) (by decide) ((hc.1.2.2.1 3 (by decide)).trans (hI.2.1.1 3 (by decide))) rfl ?_
      refine we_bipush (v := 8) (p := 123) dX12_readLine_121 (by decide) rfl ?_
      refine we_icmp_ge (t := 130) (p := 126) dX12_readLine_123 (by decide) rfl rfl (fun hc123 => ?_) (fun hc123 => absurd (nI_le (a := 8) (b := dN (zD S) 3) (by omega) (by omega)) hc123)
      refine we_iconst (v := 0) (p := 131) dX12_readLine_130 (by decide) rfl ?_
      refine we_callV_int (p := 134) (k' := 3) (a := [.ref 95, .ref (sp_S + 8), .int 0]) (rr := []) dX12_readLine_131 rfl rfl rfl rfl (rc_of rfl rfl (by decide) ⟨rfl, by decide⟩) (Nat.le_of_ble_eq_true rfl) (Nat.le_of_ble_eq_true rfl) (by decide) (y_begins_5 (j := 8) hF hm (by decide) (by decide) hq hc.1.1 (yr_1 h00)) (Or.inl rfl) rfl ?_
      refine we_if_eq (t := 144) (p := 137) dX12_readLine_134 (by decide) rfl rfl (fun hc134 => absurd hc134 (by decide)) (fun hc134 => ?_)
      refine we_aload_n (p := 138) dX12_readLine_137 rfl rfl ?_
      refine we_callV_v (p := 141) (k' := 0) (a := [.ref 95]) (rr := []) dX12_readLine_138 rfl rfl rfl rfl (rc_of rfl rfl (by decide) ⟨rfl, by decide⟩) (Nat.le_of_ble_eq_true rfl) (Nat.le_of_ble_eq_true rfl) (by decide) (y_rivalLine_f hF wr13) (Or.inl rfl) rfl ?_
      refine we_goto (p := 250) dX12_readLine_141 (by decide) rfl ?_
      exact wv_ret dX12_readLine_250 rfl (⟨_, rfl, FrT.wr.l, Or.inr ⟨by rw [hE]; show ¬ (5 : Nat) = 0; decide, rfl, by rw [hE]; exact mF.wr (k := 5) rfl rfl⟩⟩)
    · have hE : pL T n S = pB (pLk T n 3 (dN (zD S) 3) (pAv T n S)) (pIn 3) := pL_y (k := 3) (by decide) hq h0 hf
      refine we_aload_n (p := 113) dX12_readLine_112 rfl rfl ?_
      refine we_ldcS (j := 8) (p := 115) dX12_readLine_113 rfl rfl rfl ?_
      refine we_aload_n (p := 116) dX12_readLine_115 rfl rfl ?_
      refine we_getR (c := 11) (j := 16) (n := 37) (b := 99) (p := 119) dX12_readLine_116 rfl rfl (by decide) (by decide) rfl (r_95_16 hF) rfl ?_
      refine we_iconst (v := 5) (p := 120) dX12_readLine_119 (by decide) rfl ?_
      refine wf_iald (n := 276) (i := 5) (v := nI (dN (zD S) 3)) (p := 121) dX12_readLine_120 rfl (by decide) (by decide) (by decide) ((hc.1.2.2.1 3 (by decide)).trans (hI.2.1.1 3 (by decide))) rfl ?_
      refine we_bipush (v := 8) (p := 123) dX12_readLine_121 (by decide) rfl ?_
      refine we_icmp_ge (t := 130) (p := 126) dX12_readLine_123 (by decide) rfl rfl (fun hc123 => absurd hc123 (nI_ge (a := dN (zD S) 3) (b := 8) (by omega) (by omega))) (fun hc123 => ?_)
      refine we_iconst (v := 1) (p := 127) dX12_readLine_126 (by decide) rfl ?_
      refine we_goto (p := 131) dX12_readLine_127 (by decide) rfl ?_
      obtain ⟨_, _, e1, rfl, I1, J1, F1, rfl, rfl, rfl, f1, t1⟩ := y_begins (j := 8) hF hm (by decide) (by decide) hq hc.1.1 (yr_1 h00)
      refine we_callV_int (p := 134) (k' := 3) (a := [.ref 95, .ref (sp_S + 8), .int 1]) (rr := []) dX12_readLine_131 rfl rfl rfl rfl (rc_of rfl rfl (by decide) ⟨rfl, by decide⟩) (Nat.le_of_ble_eq_true rfl) (Nat.le_of_ble_eq_true rfl) (by decide) e1 (Or.inl rfl) rfl ?_
      refine we_if_eq (t := 144) (p := 137) dX12_readLine_134 (by decide) rfl rfl (fun hc134 => absurd hc134 (by decide)) (fun hc134 => ?_)
      refine we_aload_n (p := 138) dX12_readLine_137 rfl rfl ?_
      obtain ⟨_, _, e2, I2, rfl, f2, ⟨z2, rfl, t2⟩ | ⟨z2, rfl, g2⟩⟩ := y_rivalLine (S := pAv T n S) (row := dN (zD S) 3) hF (lM_0 hc hI hz f1 t1) (by omega)
      · skip
        refine we_callV_v (p := 141) (k' := 6) (a := [.ref 95]) (rr := []) dX12_readLine_138 rfl rfl rfl rfl (rc_of rfl rfl (by decide) ⟨rfl, by decide⟩) (Nat.le_of_ble_eq_true rfl) (Nat.le_of_ble_eq_true rfl) (by decide) e2 (Or.inl rfl) rfl ?_
        refine we_goto (p := 250) dX12_readLine_141 (by decide) rfl ?_
        exact wv_ret dX12_readLine_250 rfl (RmL.fr (FrT.fm f1).l (by rw [hE]; exact ⟨_, rfl, f2, Or.inl ⟨z2, rfl, t2⟩⟩))
      · skip
        refine we_callV_v (p := 141) (k' := 6) (a := [.ref 95]) (rr := []) dX12_readLine_138 rfl rfl rfl rfl (rc_of rfl rfl (by decide) ⟨rfl, by decide⟩) (Nat.le_of_ble_eq_true rfl) (Nat.le_of_ble_eq_true rfl) (by decide) e2 (Or.inl rfl) rfl ?_
        refine we_goto (p := 250) dX12_readLine_141 (by decide) rfl ?_
        exact wv_ret dX12_readLine_250 rfl (RmL.fr (FrT.fm f1).l (by rw [hE]; exact ⟨_, rfl, f2, Or.inr ⟨z2, rfl, g2⟩⟩))
set_option maxRecDepth 10000 in
theorem y_rh_4 {I : Nat → Nat → Int32} {J : Nat → Nat → Int64} {F : Nat → Nat → Option Nat} {nc ns : Nat} {T : Nat → Nat} {n : Nat} {S : pZ} (hF : RFok F) (hm : tM T n (zP S) I) (hc : cM T S I) (hI : zI T n S) (hz : zF S = 0) (hq : tQ T n (zP S) = nI 4) : Ew 8 mX12_readLine 144 [.ref 95] [] ((SH, nc, ns), I, J, F) (RmL nc ns T n I J F (pL T n S)) := by
  obtain ⟨-, b0, b1, b2, b3, b4, b5, b6⟩ := hI.2.1
  by_cases h0 : zD S 0 0 ≤ 0
  · have hE : pL T n S = pFl 6 S := pL_6 (k := 4) (by decide) hq h0
    have h00 := yr_0 hI.2.2.2.2.1 h0
    have hd := h00.2 4 (by decide)
    refine we_aload_n (p := 145) dX12_readLine_144 rfl rfl ?_
    refine we_ldcS (j := 9) (p := 147) dX12_readLine_145 rfl rfl rfl ?_
    refine we_aload_n (p := 148) dX12_readLine_147 rfl rfl ?_
    refine we_getR (c := 11) (j := 16) (n := 37) (b := 99) (p := 151) dX12_readLine_148 rfl rfl (by decide) (by decide) rfl (r_95_16 hF) rfl ?_
    refine we_bipush (v := 6) (p := 153) dX12_readLine_151 (by decide) rfl ?_
    refine wf_iald (n := 276) (i := 6) (v := nI (dN (zD S) 4)) (p := 154) dX12_readLine_153 rfl (by decide) (by decide) (by decide) ((hc.1.2.2.1 4 (by decide)).trans (hI.2.1.1 4 (by decide))) rfl ?_
    refine we_bipush (v := 6) (p := 156) dX12_readLine_154 (by decide) rfl ?_
    refine we_icmp_ge (t := 163) (p := 159) dX12_readLine_156 (by decide) rfl rfl (fun hc156 => absurd hc156 (nI_ge (a := dN (zD S) 4) (b := 6) (by omega) (by omega))) (fun hc156 => ?_)
    refine we_iconst (v := 1) (p := 160) dX12_readLine_159 (by decide) rfl ?_
    refine we_goto (p := 164) dX12_readLine_160 (by decide) rfl ?_
    refine we_callV_int (p := 167) (k' := 3) (a := [.ref 95, .ref (sp_S + 9), .int 1]) (rr := []) dX12_readLine_164 rfl rfl rfl rfl (rc_of rfl rfl (by decide) ⟨rfl, by decide⟩) (Nat.le_of_ble_eq_true rfl) (Nat.le_of_ble_eq_true rfl) (by decide) (y_begins_6 (j := 9) hF hm (by decide) (by decide) hq (hc.1.1.trans h00.1)) (Or.inl rfl) rfl ?_
    refine we_if_eq (t := 177) (p := 170) dX12_readLine_167 (by decide) rfl rfl (fun hc167 => absurd hc167 (by decide)) (fun hc167 => ?_)
    refine we_aload_n (p := 171) dX12_readLine_170 rfl rfl ?_
    refine we_callV_v (p := 174) (k' := 0) (a := [.ref 95]) (rr := []) dX12_readLine_171 rfl rfl rfl rfl (rc_of rfl rfl (by decide) ⟨rfl, by decide⟩) (Nat.le_of_ble_eq_true rfl) (Nat.le_of_ble_eq_true rfl) (by decide) (y_letterLine_f hF wr13) (Or.inl rfl) rfl ?_
    refine we_goto (p := 250) dX12_readLine_174 (by decide) rfl ?_
    exact wv_ret dX12_readLine_250 rfl (⟨_, rfl, FrT.wr.l, Or.inr ⟨by rw [hE]; show ¬ (6 : Nat) = 0; decide, rfl, by rw [hE]; exact mF.wr (k := 6) rfl rfl⟩⟩)
  · have h00 := h0
    by_cases hf : 6 ≤ dN (zD S) 4
    · have hE : pL T n S = pFl 5 S := pL_5 (k := 4) (by decide) hq h0 hf
      refine we_aload_n (p := 145) dX12_readLine_144 rfl rfl ?_
      refine we_ldcS (j := 9) (p := 147) dX12_readLine_145 rfl rfl rfl ?_
      refine we_aload_n (p := 148) dX12_readLine_147 rfl rfl ?_
      refine we_getR (c := 11) (j := 16) (n := 37) (b := 99) (p := 151) dX12_readLine_148 rfl rfl (by decide) (by decide) rfl (r_95_16 hF) rfl ?_
      refine we_bipush (v := 6) (p := 153) dX12_readLine_151 (by decide) rfl ?_
      refine wf_iald (n := 276) (i := 6) (v := nI (dN (zD S) 4)) (p := 154) dX12_readLine_153 rfl (by decide) (by decide) (by decide) ((hc.1.2.2.1 4 (by decide)).trans (hI.2.1.1 4 (by decide))) rfl ?_
      refine we_bipush (v := 6) (p := 156) dX12_readLine_154 (by decide) rfl ?_
      refine we_icmp_ge (t := 163) (p := 159) dX12_readLine_156 (by decide) rfl rfl (fun hc156 => ?_) (fun hc156 => absurd (nI_le (a := 6) (b := dN (zD S) 4) (by omega) (by omega)) hc156)
      refine we_iconst (v := 0) (p := 164) dX12_readLine_163 (by decide) rfl ?_
      refine we_callV_int (p := 167) (k' := 3) (a := [.ref 95, .ref (sp_S + 9), .int 0]) (rr := []) dX12_readLine_164 rfl rfl rfl rfl (rc_of rfl rfl (by decide) ⟨rfl, by decide⟩) (Nat.le_of_ble_eq_true rfl) (Nat.le_of_ble_eq_true rfl) (by decide) (y_begins_5 (j := 9) hF hm (by decide) (by decide) hq hc.1.1 (yr_1 h00)) (Or.inl rfl) rfl ?_
      refine we_if_eq (t := 177) (p := 170) dX12_readLine_167 (by decide) rfl rfl (fun hc167 => absurd hc167 (by decide)) (fun hc167 => ?_)
      refine we_aload_n (p := 171) dX12_readLine_170 rfl rfl ?_
      refine we_callV_v (p := 174) (k' := 0) (a := [.ref 95]) (rr := []) dX12_readLine_171 rfl rfl rfl rfl (rc_of rfl rfl (by decide) ⟨rfl, by decide⟩) (Nat.le_of_ble_eq_true rfl) (Nat.le_of_ble_eq_true rfl) (by decide) (y_letterLine_f hF wr13) (Or.inl rfl) rfl ?_
      refine we_goto (p := 250) dX12_readLine_174 (by decide) rfl ?_
      exact wv_ret dX12_readLine_250 rfl (⟨_, rfl, FrT.wr.l, Or.inr ⟨by rw [hE]; show ¬ (5 : Nat) = 0; decide, rfl, by rw [hE]; exact mF.wr (k := 5) rfl rfl⟩⟩)
    · have hE : pL T n S = pB (pLk T n 4 (dN (zD S) 4) (pAv T n S)) (pIn 4) := pL_y (k := 4) (by decide) hq h0 hf
      refine we_aload_n (p := 145) dX12_readLine_144 rfl rfl ?_
      refine we_ldcS (j := 9) (p := 147) dX12_readLine_145 rfl rfl rfl ?_
      refine we_aload_n (p := 148) dX12_readLine_147 rfl rfl ?_
      refine we_getR (c := 11) (j := 16) (n := 37) (b := 99) (p := 151) dX12_readLine_148 rfl rfl (by decide) (by decide) rfl (r_95_16 hF) rfl ?_
      refine we_bipush (v := 6) (p := 153) dX12_readLine_151 (by decide) rfl ?_
      refine wf_iald (n := 276) (i := 6) (v := nI (dN (zD S) 4)) (p := 154) dX12_readLine_153 rfl (by decide) (by decide) (by decide) ((hc.1.2.2.1 4 (by decide)).trans (hI.2.1.1 4 (by decide))) rfl ?_
      refine we_bipush (v := 6) (p := 156) dX12_readLine_154 (by decide) rfl ?_
      refine we_icmp_ge (t := 163) (p := 159) dX12_readLine_156 (by decide) rfl rfl (fun hc156 => absurd hc156 (nI_ge (a := dN (zD S) 4) (b := 6) (by omega) (by omega))) (fun hc156 => ?_)
      refine we_iconst (v := 1) (p := 160) dX12_readLine_159 (by decide) rfl ?_
      refine we_goto (p := 164) dX12_readLine_160 (by decide) rfl ?_
      obtain ⟨_, _, e1, rfl, I1, J1, F1, rfl, rfl, rfl, f1, t1⟩ := y_begins (j := 9) hF hm (by decide) (by decide) hq hc.1.1 (yr_1 h00)
      refine we_callV_int (p := 167) (k' := 3) (a := [.ref 95, .ref (sp_S + 9), .int 1]) (rr := []) dX12_readLine_164 rfl rfl rfl rfl (rc_of rfl rfl (by decide) ⟨rfl, by decide⟩) (Nat.le_of_ble_eq_true rfl) (Nat.le_of_ble_eq_true rfl) (by decide) e1 (Or.inl rfl) rfl ?_
      refine we_if_eq (t := 177) (p := 170) dX12_readLine_167 (by decide) rfl rfl (fun hc167 => absurd hc167 (by decide)) (fun hc167 => ?_)
      refine we_aload_n (p := 171) dX12_readLine_170 rfl rfl ?_
      obtain ⟨_, _, e2, I2, rfl, f2, ⟨z2, rfl, t2⟩ | ⟨z2, rfl, g2⟩⟩ := y_letterLine (S := pAv T n S) (row := dN (zD S) 4) hF (lM_0 hc hI hz f1 t1) (by omega)
      · skip
        refine we_callV_v (p := 174) (k' := 7) (a := [.ref 95]) (rr := []) dX12_readLine_171 rfl rfl rfl rfl (rc_of rfl rfl (by decide) ⟨rfl, by decide⟩) (Nat.le_of_ble_eq_true rfl) (Nat.le_of_ble_eq_true rfl) (by decide) e2 (Or.inl rfl) rfl ?_
        refine we_goto (p := 250) dX12_readLine_174 (by decide) rfl ?_
        exact wv_ret dX12_readLine_250 rfl (RmL.fr (FrT.fm f1).l (by rw [hE]; exact ⟨_, rfl, f2, Or.inl ⟨z2, rfl, t2⟩⟩))
      · skip
        refine we_callV_v (p := 174) (k' := 7) (a := [.ref 95]) (rr := []) dX12_readLine_171 rfl rfl rfl rfl (rc_of rfl rfl (by decide) ⟨rfl, by decide⟩) (Nat.le_of_ble_eq_true rfl) (Nat.le_of_ble_eq_true rfl) (by decide) e2 (Or.inl rfl) rfl ?_
        refine we_goto (p := 250) dX12_readLine_174 (by decide) rfl ?_
        exact wv_ret dX12_readLine_250 rfl (RmL.fr (FrT.fm f1).l (by rw [hE]; exact ⟨_, rfl, f2, Or.inr ⟨z2, rfl, g2⟩⟩))
set_option maxRecDepth 10000 in
theorem y_rh_5 {I : Nat → Nat → Int32} {J : Nat → Nat → Int64} {F : Nat → Nat → Option Nat} {nc ns : Nat} {T : Nat → Nat} {n : Nat} {S : pZ} (hF : RFok F) (hm : tM T n (zP S) I) (hc : cM T S I) (hI : zI T n S) (hz : zF S = 0) (hq : tQ T n (zP S) = nI 5) : Ew 8 mX12_readLine 177 [.ref 95] [] ((SH, nc, ns), I, J, F) (RmL nc ns T n I J F (pL T n S)) := by
  obtain ⟨-, b0, b1, b2, b3, b4, b5, b6⟩ := hI.2.1
  by_cases h0 : zD S 0 0 ≤ 0
  · have hE : pL T n S = pFl 6 S := pL_6 (k := 5) (by decide) hq h0
    have h00 := yr_0 hI.2.2.2.2.1 h0
    have hd := h00.2 5 (by decide)
    refine we_aload_n (p := 178) dX12_readLine_177 rfl rfl ?_
    refine we_ldcS (j := 10) (p := 180) dX12_readLine_178 rfl rfl rfl ?_
    refine we_aload_n (p := 181) dX12_readLine_180 rfl rfl ?_
    refine we_getR (c := 11) (j := 16) (n := 37) (b := 99) (p := 184) dX12_readLine_181 rfl rfl (by decide) (by decide) rfl (r_95_16 hF) rfl ?_
    refine we_bipush (v := 7) (p := 186) dX12_readLine_184 (by decide) rfl ?_
    refine wf_iald (n := 276) (i := 7) (v := nI (dN (zD S) 5)) (p := 187) dX12_readLine_186 rfl (by decide) (by decide) (by decide) ((hc.1.2.2.1 5 (by decide)).trans (hI.2.1.1 5 (by decide))) rfl ?_
    refine we_iconst (v := 5) (p := 188) dX12_readLine_187 (by decide) rfl ?_
    refine we_icmp_ge (t := 195) (p := 191) dX12_readLine_188 (by decide) rfl rfl (fun hc188 => absurd hc188 (nI_ge (a := dN (zD S) 5) (b := 5) (by omega) (by omega))) (fun hc188 => ?_)
    refine we_iconst (v := 1) (p := 192) dX12_readLine_191 (by decide) rfl ?_
    refine we_goto (p := 196) dX12_readLine_192 (by decide) rfl ?_
    refine we_callV_int (p := 199) (k' := 3) (a := [.ref 95, .ref (sp_S + 10), .int 1]) (rr := []) dX12_readLine_196 rfl rfl rfl rfl (rc_of rfl rfl (by decide) ⟨rfl, by decide⟩) (Nat.le_of_ble_eq_true rfl) (Nat.le_of_ble_eq_true rfl) (by decide) (y_begins_6 (j := 10) hF hm (by decide) (by decide) hq (hc.1.1.trans h00.1)) (Or.inl rfl) rfl ?_
    refine we_if_eq (t := 209) (p := 202) dX12_readLine_199 (by decide) rfl rfl (fun hc199 => absurd hc199 (by decide)) (fun hc199 => ?_)
    refine we_aload_n (p := 203) dX12_readLine_202 rfl rfl ?_
    refine we_callV_v (p := 206) (k' := 0) (a := [.ref 95]) (rr := []) dX12_readLine_203 rfl rfl rfl rfl (rc_of rfl rfl (by decide) ⟨rfl, by decide⟩) (Nat.le_of_ble_eq_true rfl) (Nat.le_of_ble_eq_true rfl) (by decide) (y_handLine_f hF wr13) (Or.inl rfl) rfl ?_
    refine we_goto (p := 250) dX12_readLine_206 (by decide) rfl ?_
    exact wv_ret dX12_readLine_250 rfl (⟨_, rfl, FrT.wr.l, Or.inr ⟨by rw [hE]; show ¬ (6 : Nat) = 0; decide, rfl, by rw [hE]; exact mF.wr (k := 6) rfl rfl⟩⟩)
  · have h00 := h0
    by_cases hf : 5 ≤ dN (zD S) 5
    · have hE : pL T n S = pFl 5 S := pL_5 (k := 5) (by decide) hq h0 hf
      refine we_aload_n (p := 178) dX12_readLine_177 rfl rfl ?_
      refine we_ldcS (j := 10) (p := 180) dX12_readLine_178 rfl rfl rfl ?_
      refine we_aload_n (p := 181) dX12_readLine_180 rfl rfl ?_
      refine we_getR (c := 11) (j := 16) (n := 37) (b := 99) (p := 184) dX12_readLine_181 rfl rfl (by decide) (by decide) rfl (r_95_16 hF) rfl ?_
      refine we_bipush (v := 7) (p := 186) dX12_readLine_184 (by decide) rfl ?_
      refine wf_iald (n := 276) (i := 7) (v := nI (dN (zD S) 5)) (p := 187) dX12_readLine_186 rfl (by decide) (by decide) (by decide) ((hc.1.2.2.1 5 (by decide)).trans (hI.2.1.1 5 (by decide))) rfl ?_
      refine we_iconst (v := 5) (p := 188) dX12_readLine_187 (by decide) rfl ?_
      refine we_icmp_ge (t := 195) (p := 191) dX12_readLine_188 (by decide) rfl rfl (fun hc188 => ?_) (fun hc188 => absurd (nI_le (a := 5) (b := dN (zD S) 5) (by omega) (by omega)) hc188)
      refine we_iconst (v := 0) (p := 196) dX12_readLine_195 (by decide) rfl ?_
      refine we_callV_int (p := 199) (k' := 3) (a := [.ref 95, .ref (sp_S + 10), .int 0]) (rr := []) dX12_readLine_196 rfl rfl rfl rfl (rc_of rfl rfl (by decide) ⟨rfl, by decide⟩) (Nat.le_of_ble_eq_true rfl) (Nat.le_of_ble_eq_true rfl) (by decide) (y_begins_5 (j := 10) hF hm (by decide) (by decide) hq hc.1.1 (yr_1 h00)) (Or.inl rfl) rfl ?_
      refine we_if_eq (t := 209) (p := 202) dX12_readLine_199 (by decide) rfl rfl (fun hc199 => absurd hc199 (by decide)) (fun hc199 => ?_)
      refine we_aload_n (p := 203) dX12_readLine_202 rfl rfl ?_
      refine we_callV_v (p := 206) (k' := 0) (a := [.ref 95]) (rr := []) dX12_readLine_203 rfl rfl rfl rfl (rc_of rfl rfl (by decide) ⟨rfl, by decide⟩) (Nat.le_of_ble_eq_true rfl) (Nat.le_of_ble_eq_true rfl) (by decide) (y_handLine_f hF wr13) (Or.inl rfl) rfl ?_
      refine we_goto (p := 250) dX12_readLine_206 (by decide) rfl ?_
      exact wv_ret dX12_readLine_250 rfl (⟨_, rfl, FrT.wr.l, Or.inr ⟨by rw [hE]; show ¬ (5 : Nat) = 0; decide, rfl, by rw [hE]; exact mF.wr (k := 5) rfl rfl⟩⟩)
    · have hE : pL T n S = pB (pLk T n 5 (dN (zD S) 5) (pAv T n S)) (pIn 5) := pL_y (k := 5) (by decide) hq h0 hf
      refine we_aload_n (p := 178) dX12_readLine_177 rfl rfl ?_
      refine we_ldcS (j := 10) (p := 180) dX12_readLine_178 rfl rfl rfl ?_
      refine we_aload_n (p := 181) dX12_readLine_180 rfl rfl ?_
      refine we_getR (c := 11) (j := 16) (n := 37) (b := 99) (p := 184) dX12_readLine_181 rfl rfl (by decide) (by decide) rfl (r_95_16 hF) rfl ?_
      refine we_bipush (v := 7) (p := 186) dX12_readLine_184 (by decide) rfl ?_
      refine wf_iald (n := 276) (i := 7) (v := nI (dN (zD S) 5)) (p := 187) dX12_readLine_186 rfl (by decide) (by decide) (by decide) ((hc.1.2.2.1 5 (by decide)).trans (hI.2.1.1 5 (by decide))) rfl ?_
      refine we_iconst (v := 5) (p := 188) dX12_readLine_187 (by decide) rfl ?_
      refine we_icmp_ge (t := 195) (p := 191) dX12_readLine_188 (by decide) rfl rfl (fun hc188 => absurd hc188 (nI_ge (a := dN (zD S) 5) (b := 5) (by omega) (by omega))) (fun hc188 => ?_)
      refine we_iconst (v := 1) (p := 192) dX12_readLine_191 (by decide) rfl ?_
      refine we_goto (p := 196) dX12_readLine_192 (by decide) rfl ?_
      obtain ⟨_, _, e1, rfl, I1, J1, F1, rfl, rfl, rfl, f1, t1⟩ := y_begins (j := 10) hF hm (by decide) (by decide) hq hc.1.1 (yr_1 h00)
      refine we_callV_int (p := 199) (k' := 3) (a := [.ref 95, .ref (sp_S + 10), .int 1]) (rr := []) dX12_readLine_196 rfl rfl rfl rfl (rc_of rfl rfl (by decide) ⟨rfl, by decide⟩) (Nat.le_of_ble_eq_true rfl) (Nat.le_of_ble_eq_true rfl) (by decide) e1 (Or.inl rfl) rfl ?_
      refine we_if_eq (t := 209) (p := 202) dX12_readLine_199 (by decide) rfl rfl (fun hc199 => absurd hc199 (by decide)) (fun hc199 => ?_)
      refine we_aload_n (p := 203) dX12_readLine_202 rfl rfl ?_
      obtain ⟨_, _, e2, I2, rfl, f2, ⟨z2, rfl, t2⟩ | ⟨z2, rfl, g2⟩⟩ := y_handLine (S := pAv T n S) (row := dN (zD S) 5) hF (lM_0 hc hI hz f1 t1) (by omega) (free_of (S := S) hI (Or.inr (Or.inr ⟨rfl, by omega⟩)))
      · skip
        refine we_callV_v (p := 206) (k' := 6) (a := [.ref 95]) (rr := []) dX12_readLine_203 rfl rfl rfl rfl (rc_of rfl rfl (by decide) ⟨rfl, by decide⟩) (Nat.le_of_ble_eq_true rfl) (Nat.le_of_ble_eq_true rfl) (by decide) e2 (Or.inl rfl) rfl ?_
        refine we_goto (p := 250) dX12_readLine_206 (by decide) rfl ?_
        exact wv_ret dX12_readLine_250 rfl (RmL.fr (FrT.fm f1).l (by rw [hE]; exact ⟨_, rfl, f2, Or.inl ⟨z2, rfl, t2⟩⟩))
      · skip
        refine we_callV_v (p := 206) (k' := 6) (a := [.ref 95]) (rr := []) dX12_readLine_203 rfl rfl rfl rfl (rc_of rfl rfl (by decide) ⟨rfl, by decide⟩) (Nat.le_of_ble_eq_true rfl) (Nat.le_of_ble_eq_true rfl) (by decide) e2 (Or.inl rfl) rfl ?_
        refine we_goto (p := 250) dX12_readLine_206 (by decide) rfl ?_
        exact wv_ret dX12_readLine_250 rfl (RmL.fr (FrT.fm f1).l (by rw [hE]; exact ⟨_, rfl, f2, Or.inr ⟨z2, rfl, g2⟩⟩))
set_option maxRecDepth 10000 in
theorem y_rh_6 {I : Nat → Nat → Int32} {J : Nat → Nat → Int64} {F : Nat → Nat → Option Nat} {nc ns : Nat} {T : Nat → Nat} {n : Nat} {S : pZ} (hF : RFok F) (hm : tM T n (zP S) I) (hc : cM T S I) (hI : zI T n S) (hz : zF S = 0) (hq : tQ T n (zP S) = nI 6) : Ew 8 mX12_readLine 209 [.ref 95] [] ((SH, nc, ns), I, J, F) (RmL nc ns T n I J F (pL T n S)) := by
  obtain ⟨-, b0, b1, b2, b3, b4, b5, b6⟩ := hI.2.1
  by_cases h0 : zD S 0 0 ≤ 0
  · have hE : pL T n S = pFl 6 S := pL_6 (k := 6) (by decide) hq h0
    have h00 := yr_0 hI.2.2.2.2.1 h0
    have hd := h00.2 6 (by decide)
    refine we_aload_n (p := 210) dX12_readLine_209 rfl rfl ?_
    refine we_ldcS (j := 11) (p := 212) dX12_readLine_210 rfl rfl rfl ?_
    refine we_aload_n (p := 213) dX12_readLine_212 rfl rfl ?_
    refine we_getR (c := 11) (j := 16) (n := 37) (b := 99) (p := 216) dX12_readLine_213 rfl rfl (by decide) (by decide) rfl (r_95_16 hF) rfl ?_
    refine we_bipush (v := 8) (p := 218) dX12_readLine_216 (by decide) rfl ?_
    refine wf_iald (n := 276) (i := 8) (v := nI (dN (zD S) 6)) (p := 219) dX12_readLine_218 rfl (by decide) (by decide) (by decide) ((hc.1.2.2.1 6 (by decide)).trans (hI.2.1.1 6 (by decide))) rfl ?_
    refine we_iconst (v := 4) (p := 220) dX12_readLine_219 (by decide) rfl ?_
    refine we_icmp_ge (t := 227) (p := 223) dX12_readLine_220 (by decide) rfl rfl (fun hc220 => absurd hc220 (nI_ge (a := dN (zD S) 6) (b := 4) (by omega) (by omega))) (fun hc220 => ?_)
    refine we_iconst (v := 1) (p := 224) dX12_readLine_223 (by decide) rfl ?_
    refine we_goto (p := 228) dX12_readLine_224 (by decide) rfl ?_
    refine we_callV_int (p := 231) (k' := 3) (a := [.ref 95, .ref (sp_S + 11), .int 1]) (rr := []) dX12_readLine_228 rfl rfl rfl rfl (rc_of rfl rfl (by decide) ⟨rfl, by decide⟩) (Nat.le_of_ble_eq_true rfl) (Nat.le_of_ble_eq_true rfl) (by decide) (y_begins_6 (j := 11) hF hm (by decide) (by decide) hq (hc.1.1.trans h00.1)) (Or.inl rfl) rfl ?_
    refine we_if_eq (t := 241) (p := 234) dX12_readLine_231 (by decide) rfl rfl (fun hc231 => absurd hc231 (by decide)) (fun hc231 => ?_)
    refine we_aload_n (p := 235) dX12_readLine_234 rfl rfl ?_
    refine we_callV_v (p := 238) (k' := 0) (a := [.ref 95]) (rr := []) dX12_readLine_235 rfl rfl rfl rfl (rc_of rfl rfl (by decide) ⟨rfl, by decide⟩) (Nat.le_of_ble_eq_true rfl) (Nat.le_of_ble_eq_true rfl) (by decide) (y_nearlyLine_f hF wr13) (Or.inl rfl) rfl ?_
    refine we_goto (p := 250) dX12_readLine_238 (by decide) rfl ?_
    exact wv_ret dX12_readLine_250 rfl (⟨_, rfl, FrT.wr.l, Or.inr ⟨by rw [hE]; show ¬ (6 : Nat) = 0; decide, rfl, by rw [hE]; exact mF.wr (k := 6) rfl rfl⟩⟩)
  · have h00 := h0
    by_cases hf : 4 ≤ dN (zD S) 6
    · have hE : pL T n S = pFl 5 S := pL_5 (k := 6) (by decide) hq h0 hf
      refine we_aload_n (p := 210) dX12_readLine_209 rfl rfl ?_
      refine we_ldcS (j := 11) (p := 212) dX12_readLine_210 rfl rfl rfl ?_
      refine we_aload_n (p := 213) dX12_readLine_212 rfl rfl ?_
      refine we_getR (c := 11) (j := 16) (n := 37) (b := 99) (p := 216) dX12_readLine_213 rfl rfl (by decide) (by decide) rfl (r_95_16 hF) rfl ?_
      refine we_bipush (v := 8) (p := 218) dX12_readLine_216 (by decide) rfl ?_
      refine wf_iald (n := 276) (i := 8) (v := nI (dN (zD S) 6)) (p := 219) dX12_readLine_218 rfl (by decide) (by decide) (by decide) ((hc.1.2.2.1 6 (by decide)).trans (hI.2.1.1 6 (by decide))) rfl ?_
      refine we_iconst (v := 4) (p := 220) dX12_readLine_219 (by decide) rfl ?_
      refine we_icmp_ge (t := 227) (p := 223) dX12_readLine_220 (by decide) rfl rfl (fun hc220 => ?_) (fun hc220 => absurd (nI_le (a := 4) (b := dN (zD S) 6) (by omega) (by omega)) hc220)
      refine we_iconst (v := 0) (p := 228) dX12_readLine_227 (by decide) rfl ?_
      refine we_callV_int (p := 231) (k' := 3) (a := [.ref 95, .ref (sp_S + 11), .int 0]) (rr := []) dX12_readLine_228 rfl rfl rfl rfl (rc_of rfl rfl (by decide) ⟨rfl, by decide⟩) (Nat.le_of_ble_eq_true rfl) (Nat.le_of_ble_eq_true rfl) (by decide) (y_begins_5 (j := 11) hF hm (by decide) (by decide) hq hc.1.1 (yr_1 h00)) (Or.inl rfl) rfl ?_
      refine we_if_eq (t := 241) (p := 234) dX12_readLine_231 (by decide) rfl rfl (fun hc231 => absurd hc231 (by decide)) (fun hc231 => ?_)
      refine we_aload_n (p := 235) dX12_readLine_234 rfl rfl ?_
      refine we_callV_v (p := 238) (k' := 0) (a := [.ref 95]) (rr := []) dX12_readLine_235 rfl rfl rfl rfl (rc_of rfl rfl (by decide) ⟨rfl, by decide⟩) (Nat.le_of_ble_eq_true rfl) (Nat.le_of_ble_eq_true rfl) (by decide) (y_nearlyLine_f hF wr13) (Or.inl rfl) rfl ?_
      refine we_goto (p := 250) dX12_readLine_238 (by decide) rfl ?_
      exact wv_ret dX12_readLine_250 rfl (⟨_, rfl, FrT.wr.l, Or.inr ⟨by rw [hE]; show ¬ (5 : Nat) = 0; decide, rfl, by rw [hE]; exact mF.wr (k := 5) rfl rfl⟩⟩)
    · have hE : pL T n S = pB (pLk T n 6 (dN (zD S) 6) (pAv T n S)) (pIn 6) := pL_y (k := 6) (by decide) hq h0 hf
      refine we_aload_n (p := 210) dX12_readLine_209 rfl rfl ?_
      refine we_ldcS (j := 11) (p := 212) dX12_readLine_210 rfl rfl rfl ?_
      refine we_aload_n (p := 213) dX12_readLine_212 rfl rfl ?_
      refine we_getR (c := 11) (j := 16) (n := 37) (b := 99) (p := 216) dX12_readLine_213 rfl rfl (by decide) (by decide) rfl (r_95_16 hF) rfl ?_
      refine we_bipush (v := 8) (p := 218) dX12_readLine_216 (by decide) rfl ?_
      refine wf_iald (n := 276) (i := 8) (v := nI (dN (zD S) 6)) (p := 219) dX12_readLine_218 rfl (by decide) (by decide) (by decide) ((hc.1.2.2.1 6 (by decide)).trans (hI.2.1.1 6 (by decide))) rfl ?_
      refine we_iconst (v := 4) (p := 220) dX12_readLine_219 (by decide) rfl ?_
      refine we_icmp_ge (t := 227) (p := 223) dX12_readLine_220 (by decide) rfl rfl (fun hc220 => absurd hc220 (nI_ge (a := dN (zD S) 6) (b := 4) (by omega) (by omega))) (fun hc220 => ?_)
      refine we_iconst (v := 1) (p := 224) dX12_readLine_223 (by decide) rfl ?_
      refine we_goto (p := 228) dX12_readLine_224 (by decide) rfl ?_
      obtain ⟨_, _, e1, rfl, I1, J1, F1, rfl, rfl, rfl, f1, t1⟩ := y_begins (j := 11) hF hm (by decide) (by decide) hq hc.1.1 (yr_1 h00)
      refine we_callV_int (p := 231) (k' := 3) (a := [.ref 95, .ref (sp_S + 11), .int 1]) (rr := []) dX12_readLine_228 rfl rfl rfl rfl (rc_of rfl rfl (by decide) ⟨rfl, by decide⟩) (Nat.le_of_ble_eq_true rfl) (Nat.le_of_ble_eq_true rfl) (by decide) e1 (Or.inl rfl) rfl ?_
      refine we_if_eq (t := 241) (p := 234) dX12_readLine_231 (by decide) rfl rfl (fun hc231 => absurd hc231 (by decide)) (fun hc231 => ?_)
      refine we_aload_n (p := 235) dX12_readLine_234 rfl rfl ?_
      obtain ⟨_, _, e2, I2, rfl, f2, ⟨z2, rfl, t2⟩ | ⟨z2, rfl, g2⟩⟩ := y_nearlyLine (S := pAv T n S) (row := dN (zD S) 6) hF (lM_0 hc hI hz f1 t1) (by omega)
      · skip
        refine we_callV_v (p := 238) (k' := 6) (a := [.ref 95]) (rr := []) dX12_readLine_235 rfl rfl rfl rfl (rc_of rfl rfl (by decide) ⟨rfl, by decide⟩) (Nat.le_of_ble_eq_true rfl) (Nat.le_of_ble_eq_true rfl) (by decide) e2 (Or.inl rfl) rfl ?_
        refine we_goto (p := 250) dX12_readLine_238 (by decide) rfl ?_
        exact wv_ret dX12_readLine_250 rfl (RmL.fr (FrT.fm f1).l (by rw [hE]; exact ⟨_, rfl, f2, Or.inl ⟨z2, rfl, t2⟩⟩))
      · skip
        refine we_callV_v (p := 238) (k' := 6) (a := [.ref 95]) (rr := []) dX12_readLine_235 rfl rfl rfl rfl (rc_of rfl rfl (by decide) ⟨rfl, by decide⟩) (Nat.le_of_ble_eq_true rfl) (Nat.le_of_ble_eq_true rfl) (by decide) e2 (Or.inl rfl) rfl ?_
        refine we_goto (p := 250) dX12_readLine_238 (by decide) rfl ?_
        exact wv_ret dX12_readLine_250 rfl (RmL.fr (FrT.fm f1).l (by rw [hE]; exact ⟨_, rfl, f2, Or.inr ⟨z2, rfl, g2⟩⟩))
set_option maxRecDepth 10000 in
theorem y_rh_o {I : Nat → Nat → Int32} {J : Nat → Nat → Int64} {F : Nat → Nat → Option Nat} {nc ns : Nat} {T : Nat → Nat} {n : Nat} {S : pZ} (hF : RFok F) (hm : tM T n (zP S) I) (hc : cM T S I) (hI : zI T n S) (hz : zF S = 0) (hq : tQ T n (zP S) = nI 7) : Ew 8 mX12_readLine 0 [.ref 95] [] ((SH, nc, ns), I, J, F) (RmL nc ns T n I J F (pL T n S)) := by
  rw [pL_7 hq]
  by_cases h00 : zD S 0 0 ≤ 0
  · skip
    refine we_aload_n (p := 1) dX12_readLine_0 rfl rfl ?_
    refine we_ldcS (j := 2) (p := 3) dX12_readLine_1 rfl rfl rfl ?_
    refine we_callV_int (p := 6) (k' := 2) (a := [.ref 95, .ref (sp_S + 2)]) (rr := []) dX12_readLine_3 rfl rfl rfl rfl (rc_of rfl rfl (by decide) ⟨rfl, by decide⟩) (Nat.le_of_ble_eq_true rfl) (Nat.le_of_ble_eq_true rfl) (by decide) (Ev.i (if_pos hq) (y_isWord (j := 2) hF hm (by decide) (by decide))) (Or.inl rfl) rfl ?_
    refine we_if_eq (t := 16) (p := 9) dX12_readLine_6 (by decide) rfl rfl (fun hc6 => absurd hc6 (by decide)) (fun hc6 => ?_)
    refine we_aload_n (p := 10) dX12_readLine_9 rfl rfl ?_
    obtain ⟨_, _, e1, I1, rfl, f1, ⟨z1, rfl, t1⟩ | ⟨z1, rfl, g1⟩⟩ := y_oathLine0 (S := S) (k := 0) (r := dN (zD S) 0) hF ⟨FrL.rf, hz, hm, hc, hI.2.1, rfl, fun j hj => absurd hj (by simp)⟩ h00
    · skip
      refine we_callV_v (p := 13) (k' := 6) (a := [.ref 95]) (rr := []) dX12_readLine_10 rfl rfl rfl rfl (rc_of rfl rfl (by decide) ⟨rfl, by decide⟩) (Nat.le_of_ble_eq_true rfl) (Nat.le_of_ble_eq_true rfl) (by decide) e1 (Or.inl rfl) rfl ?_
      refine we_goto (p := 250) dX12_readLine_13 (by decide) rfl ?_
      exact wv_ret dX12_readLine_250 rfl (⟨_, rfl, f1, Or.inl ⟨z1, rfl, t1⟩⟩)
    · skip
      refine we_callV_v (p := 13) (k' := 6) (a := [.ref 95]) (rr := []) dX12_readLine_10 rfl rfl rfl rfl (rc_of rfl rfl (by decide) ⟨rfl, by decide⟩) (Nat.le_of_ble_eq_true rfl) (Nat.le_of_ble_eq_true rfl) (by decide) e1 (Or.inl rfl) rfl ?_
      refine we_goto (p := 250) dX12_readLine_13 (by decide) rfl ?_
      exact wv_ret dX12_readLine_250 rfl (⟨_, rfl, f1, Or.inr ⟨z1, rfl, g1⟩⟩)
  · skip
    refine we_aload_n (p := 1) dX12_readLine_0 rfl rfl ?_
    refine we_ldcS (j := 2) (p := 3) dX12_readLine_1 rfl rfl rfl ?_
    refine we_callV_int (p := 6) (k' := 2) (a := [.ref 95, .ref (sp_S + 2)]) (rr := []) dX12_readLine_3 rfl rfl rfl rfl (rc_of rfl rfl (by decide) ⟨rfl, by decide⟩) (Nat.le_of_ble_eq_true rfl) (Nat.le_of_ble_eq_true rfl) (by decide) (Ev.i (if_pos hq) (y_isWord (j := 2) hF hm (by decide) (by decide))) (Or.inl rfl) rfl ?_
    refine we_if_eq (t := 16) (p := 9) dX12_readLine_6 (by decide) rfl rfl (fun hc6 => absurd hc6 (by decide)) (fun hc6 => ?_)
    refine we_aload_n (p := 10) dX12_readLine_9 rfl rfl ?_
    obtain ⟨_, _, e1, I1, rfl, f1, ⟨z1, rfl, t1⟩ | ⟨z1, rfl, g1⟩⟩ := y_oathLine1 (S := S) (k := 0) (r := dN (zD S) 0) hF ⟨FrL.rf, hz, hm, hc, hI.2.1, rfl, fun j hj => absurd hj (by simp)⟩ h00
    · skip
      refine we_callV_v (p := 13) (k' := 6) (a := [.ref 95]) (rr := []) dX12_readLine_10 rfl rfl rfl rfl (rc_of rfl rfl (by decide) ⟨rfl, by decide⟩) (Nat.le_of_ble_eq_true rfl) (Nat.le_of_ble_eq_true rfl) (by decide) e1 (Or.inl rfl) rfl ?_
      refine we_goto (p := 250) dX12_readLine_13 (by decide) rfl ?_
      exact wv_ret dX12_readLine_250 rfl (⟨_, rfl, f1, Or.inl ⟨z1, rfl, t1⟩⟩)
    · skip
      refine we_callV_v (p := 13) (k' := 6) (a := [.ref 95]) (rr := []) dX12_readLine_10 rfl rfl rfl rfl (rc_of rfl rfl (by decide) ⟨rfl, by decide⟩) (Nat.le_of_ble_eq_true rfl) (Nat.le_of_ble_eq_true rfl) (by decide) e1 (Or.inl rfl) rfl ?_
      refine we_goto (p := 250) dX12_readLine_13 (by decide) rfl ?_
      exact wv_ret dX12_readLine_250 rfl (⟨_, rfl, f1, Or.inr ⟨z1, rfl, g1⟩⟩)
set_option maxRecDepth 10000 in
theorem y_rh_no {I : Nat → Nat → Int32} {J : Nat → Nat → Int64} {F : Nat → Nat → Option Nat} {nc ns : Nat} {T : Nat → Nat} {n : Nat} {S : pZ} (hF : RFok F) (hm : tM T n (zP S) I) (hc : cM T S I) (hI : zI T n S) (hz : zF S = 0) (hE : pL T n S = pFl 1 S) : Ew 8 mX12_readLine 241 [.ref 95] [] ((SH, nc, ns), I, J, F) (RmL nc ns T n I J F (pL T n S)) := by
  refine we_aload_n (p := 242) dX12_readLine_241 rfl rfl ?_
  refine we_iconst (v := 1) (p := 243) dX12_readLine_242 (by decide) rfl ?_
  refine we_aload_n (p := 244) dX12_readLine_243 rfl rfl ?_
  refine wf_getI (c := 11) (j := 4) (n := 37) (v := nI (tS T n (zP S))) (p := 247) dX12_readLine_244 rfl rfl (by decide) (by decide) (Or.inl rfl) hm.2.2.1.1 rfl ?_
  refine we_callV_v (p := 250) (k' := 0) (a := [.ref 95, .int 1, .int (nI (tS T n (zP S)))]) (rr := []) dX12_readLine_247 rfl rfl rfl rfl (rc_of rfl rfl (by decide) ⟨rfl, by decide⟩) (Nat.le_of_ble_eq_true rfl) (Nat.le_of_ble_eq_true rfl) (by decide) (y_wrong hF hm.2.2.2.1) (Or.inl rfl) rfl ?_
  exact wv_ret dX12_readLine_250 rfl (⟨_, rfl, FrT.wr.l, Or.inr ⟨by rw [hE]; show ¬ (1 : Nat) = 0; decide, rfl, by rw [hE]; exact mF.wr (k := 1) rfl rfl⟩⟩)
theorem y_readLine {I : Nat → Nat → Int32} {J : Nat → Nat → Int64} {F : Nat → Nat → Option Nat} {nc ns : Nat} {T : Nat → Nat} {n : Nat} {S : pZ} (hF : RFok F) (hm : tM T n (zP S) I) (hc : cM T S I) (hI : zI T n S) (hz : zF S = 0) : Ew 8 mX12_readLine 0 [.ref 95] [] ((SH, nc, ns), I, J, F) (RmL nc ns T n I J F (pL T n S)) := by
  by_cases hno : tQ T n (zP S) < 0 ∨ 7 < tQ T n (zP S)
  · have hn : ∀ k, k < 8 → ¬ tQ T n (zP S) = nI k := fun k hk z => by
      rw [z] at hno
      rcases hno with h | h
      · exact absurd h (nI_nlt (a := k) (b := 0) (by omega) (by omega))
      · exact absurd h (nI_nlt (a := 7) (b := k) (by omega) (by omega))
    exact (y_rl_o hF hm hc hI hz (hn 7 (by omega)) (y_rl_0 hF hm hc hI hz (hn 0 (by omega)) (y_rl_1 hF hm hc hI hz (hn 1 (by omega)) (y_rl_2 hF hm hc hI hz (hn 2 (by omega)) (y_rl_3 hF hm hc hI hz (hn 3 (by omega)) (y_rl_4 hF hm hc hI hz (hn 4 (by omega)) (y_rl_5 hF hm hc hI hz (hn 5 (by omega)) (y_rl_6 hF hm hc hI hz (hn 6 (by omega)) (y_rh_no hF hm hc hI hz (pL_1 hno))))))))))
  · obtain ⟨k, hk, hq⟩ := q_k (fun z => hno (Or.inl z)) (fun z => hno (Or.inr z))
    rcases (by omega : k = 0 ∨ k = 1 ∨ k = 2 ∨ k = 3 ∨ k = 4 ∨ k = 5 ∨ k = 6 ∨ k = 7) with rfl | rfl | rfl | rfl | rfl | rfl | rfl | rfl
    · exact (y_rl_o hF hm hc hI hz (by rw [hq]; decide) (y_rh_0 hF hm hc hI hz hq))
    · exact (y_rl_o hF hm hc hI hz (by rw [hq]; decide) (y_rl_0 hF hm hc hI hz (by rw [hq]; decide) (y_rh_1 hF hm hc hI hz hq)))
    · exact (y_rl_o hF hm hc hI hz (by rw [hq]; decide) (y_rl_0 hF hm hc hI hz (by rw [hq]; decide) (y_rl_1 hF hm hc hI hz (by rw [hq]; decide) (y_rh_2 hF hm hc hI hz hq))))
    · exact (y_rl_o hF hm hc hI hz (by rw [hq]; decide) (y_rl_0 hF hm hc hI hz (by rw [hq]; decide) (y_rl_1 hF hm hc hI hz (by rw [hq]; decide) (y_rl_2 hF hm hc hI hz (by rw [hq]; decide) (y_rh_3 hF hm hc hI hz hq)))))
    · exact (y_rl_o hF hm hc hI hz (by rw [hq]; decide) (y_rl_0 hF hm hc hI hz (by rw [hq]; decide) (y_rl_1 hF hm hc hI hz (by rw [hq]; decide) (y_rl_2 hF hm hc hI hz (by rw [hq]; decide) (y_rl_3 hF hm hc hI hz (by rw [hq]; decide) (y_rh_4 hF hm hc hI hz hq))))))
    · exact (y_rl_o hF hm hc hI hz (by rw [hq]; decide) (y_rl_0 hF hm hc hI hz (by rw [hq]; decide) (y_rl_1 hF hm hc hI hz (by rw [hq]; decide) (y_rl_2 hF hm hc hI hz (by rw [hq]; decide) (y_rl_3 hF hm hc hI hz (by rw [hq]; decide) (y_rl_4 hF hm hc hI hz (by rw [hq]; decide) (y_rh_5 hF hm hc hI hz hq)))))))
    · exact (y_rl_o hF hm hc hI hz (by rw [hq]; decide) (y_rl_0 hF hm hc hI hz (by rw [hq]; decide) (y_rl_1 hF hm hc hI hz (by rw [hq]; decide) (y_rl_2 hF hm hc hI hz (by rw [hq]; decide) (y_rl_3 hF hm hc hI hz (by rw [hq]; decide) (y_rl_4 hF hm hc hI hz (by rw [hq]; decide) (y_rl_5 hF hm hc hI hz (by rw [hq]; decide) (y_rh_6 hF hm hc hI hz hq))))))))
    · exact y_rh_o hF hm hc hI hz hq
