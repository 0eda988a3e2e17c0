/-! The reference takes words and numbers: after. -/
theorem in_no {a b n : Nat} (h : ¬ (a ≤ n ∧ n ≤ b)) (hn : n < 2 ^ 31) (ha : a < 2 ^ 31) : inS (nI n) (nI a) (nI b) = 0 := by
  unfold inS
  by_cases c : a ≤ n
  · rw [if_neg (nI_nlt (a := n) (b := a) c hn), if_pos (nI_lt (a := b) (b := n) (by omega) hn)]
  · rw [if_pos (nI_lt (a := n) (b := a) (by omega) ha)]
set_option maxRecDepth 10000 in
theorem y_takesWord_f {I : Nat → Nat → Int32} {J : Nat → Nat → Int64} {F : Nat → Nat → Option Nat} {nc ns : Nat} (hF : RFok F) (hf : I 95 13 = 1) {j : Nat}  : Ev 3 mX12_takesWord 0 [.ref 95, .ref (sp_S + j)] [] ((SH, nc, ns), I, J, F) (some (.int 0)) ((SH, nc, ns), I, J, F) := by
  refine e_aload_n (p := 1) dX12_takesWord_0 rfl rfl ?_
  refine e_aload_n (p := 2) dX12_takesWord_1 rfl rfl ?_
  refine e_callV_int (p := 5) (k' := 2) (a := [.ref 95, .ref (sp_S + j)]) (rr := []) dX12_takesWord_2 rfl rfl rfl rfl (rc_of rfl rfl (by decide) ⟨rfl, by decide⟩) (Nat.le_of_ble_eq_true rfl) (Nat.le_of_ble_eq_true rfl) (by decide) (y_isWord_f hF hf) (Or.inl rfl) rfl ?_
  refine e_if_ne (t := 10) (p := 8) dX12_takesWord_5 (by decide) rfl rfl (fun hc5 => absurd (by decide) hc5) (fun hc5 => ?_)
  refine e_iconst (v := 0) (p := 9) dX12_takesWord_8 (by decide) rfl ?_
  exact e_iretE dX12_takesWord_9 rfl (by decide) (by decide) ⟨rfl, rfl⟩
set_option maxRecDepth 10000 in
theorem y_takesWord_n {I : Nat → Nat → Int32} {J : Nat → Nat → Int64} {F : Nat → Nat → Option Nat} {nc ns : Nat} {T : Nat → Nat} {n p : Nat} (hF : RFok F) (hm : tM T n p I) {j : Nat} (hj : j < 27) (hj2 : 2 ≤ j) (hq : ¬ tQ T n p = nI (kwS j))  : Ev 3 mX12_takesWord 0 [.ref 95, .ref (sp_S + j)] [] ((SH, nc, ns), I, J, F) (some (.int 0)) ((SH, nc, ns), I, J, F) := by
  refine e_aload_n (p := 1) dX12_takesWord_0 rfl rfl ?_
  refine e_aload_n (p := 2) dX12_takesWord_1 rfl rfl ?_
  refine e_callV_int (p := 5) (k' := 2) (a := [.ref 95, .ref (sp_S + j)]) (rr := []) dX12_takesWord_2 rfl rfl rfl rfl (rc_of rfl rfl (by decide) ⟨rfl, by decide⟩) (Nat.le_of_ble_eq_true rfl) (Nat.le_of_ble_eq_true rfl) (by decide) (Ev.i (if_neg hq) (y_isWord hF hm hj hj2)) (Or.inl rfl) rfl ?_
  refine e_if_ne (t := 10) (p := 8) dX12_takesWord_5 (by decide) rfl rfl (fun hc5 => absurd (by decide) hc5) (fun hc5 => ?_)
  refine e_iconst (v := 0) (p := 9) dX12_takesWord_8 (by decide) rfl ?_
  exact e_iretE dX12_takesWord_9 rfl (by decide) (by decide) ⟨rfl, rfl⟩
set_option maxRecDepth 10000 in
theorem y_takesWord {I : Nat → Nat → Int32} {J : Nat → Nat → Int64} {F : Nat → Nat → Option Nat} {nc ns : Nat} {T : Nat → Nat} {n p : Nat} (hF : RFok F) (hm : tM T n p I) {j : Nat} (hj : j < 27) (hj2 : 2 ≤ j) (hq : tQ T n p = nI (kwS j)) : Ew 3 mX12_takesWord 0 [.ref 95, .ref (sp_S + j)] [] ((SH, nc, ns), I, J, F) (Ret nc ns (some (.int 1)) (fun I' J' F' => J' = J ∧ F' = F ∧ Fm 97 98 4 9 I I' ∧ tM T n (tE T n p) I')) := by
  refine we_aload_n (p := 1) dX12_takesWord_0 rfl rfl ?_
  refine we_aload_n (p := 2) dX12_takesWord_1 rfl rfl ?_
  refine we_callV_int (p := 5) (k' := 2) (a := [.ref 95, .ref (sp_S + j)]) (rr := []) dX12_takesWord_2 rfl rfl rfl rfl (rc_of rfl rfl (by decide) ⟨rfl, by decide⟩) (Nat.le_of_ble_eq_true rfl) (Nat.le_of_ble_eq_true rfl) (by decide) (Ev.i (if_pos hq) (y_isWord hF hm hj hj2)) (Or.inl rfl) rfl ?_
  refine we_if_ne (t := 10) (p := 8) dX12_takesWord_5 (by decide) rfl rfl (fun hc5 => ?_) (fun hc5 => absurd hc5 (by decide))
  refine we_aload_n (p := 11) dX12_takesWord_10 rfl rfl ?_
  obtain ⟨_, _, e1, rfl, I1, J1, F1, rfl, rfl, rfl, f1, r1⟩ := y_next hF hm.1 (tE_le hm.2.1).1 hm.2.2.1.2.1
  refine we_callV_v (p := 14) (k' := 1) (a := [.ref 95]) (rr := []) dX12_takesWord_11 rfl rfl rfl rfl (rc_of rfl rfl (by decide) ⟨rfl, by decide⟩) (Nat.le_of_ble_eq_true rfl) (Nat.le_of_ble_eq_true rfl) (by decide) e1 (Or.inl rfl) rfl ?_
  refine we_iconst (v := 1) (p := 15) dX12_takesWord_14 (by decide) rfl ?_
  exact wi_ret dX12_takesWord_15 rfl (by decide) (by decide) (⟨rfl, _, _, _, rfl, rfl, rfl, f1, tM.nx hm f1 r1⟩)
set_option maxRecDepth 10000 in
theorem y_must_f {I : Nat → Nat → Int32} {J : Nat → Nat → Int64} {F : Nat → Nat → Option Nat} {nc ns : Nat} (hF : RFok F) (hf : I 95 13 = 1) {j : Nat}  : Ev 4 mX12_must 0 [.ref 95, .ref (sp_S + j)] [] ((SH, nc, ns), I, J, F) (none) ((SH, nc, ns), I, J, F) := by
  refine e_aload_n (p := 1) dX12_must_0 rfl rfl ?_
  refine f_getI (c := 11) (j := 13) (n := 37) (v := 1) (p := 4) dX12_must_1 rfl rfl (by decide) (by decide) (Or.inr rfl) hf rfl ?_
  refine e_if_ne (t := 24) (p := 7) dX12_must_4 (by decide) rfl rfl (fun hc4 => ?_) (fun hc4 => absurd hc4 (by decide))
  exact e_vretE dX12_must_24 rfl rfl
set_option maxRecDepth 10000 in
theorem y_must_n {I : Nat → Nat → Int32} {J : Nat → Nat → Int64} {F : Nat → Nat → Option Nat} {nc ns : Nat} {T : Nat → Nat} {n p : Nat} (hF : RFok F) (hm : tM T n p I) {j : Nat} (hj : j < 27) (hj2 : 2 ≤ j) (hq : ¬ tQ T n p = nI (kwS j))  : Ev 4 mX12_must 0 [.ref 95, .ref (sp_S + j)] [] ((SH, nc, ns), I, J, F) (none) ((SH, nc, ns), wrI I 1 (tS T n p), J, F) := by
  refine e_aload_n (p := 1) dX12_must_0 rfl rfl ?_
  refine f_getI (c := 11) (j := 13) (n := 37) (v := 0) (p := 4) dX12_must_1 rfl rfl (by decide) (by decide) (Or.inr rfl) hm.2.2.2.1 rfl ?_
  refine e_if_ne (t := 24) (p := 7) dX12_must_4 (by decide) rfl rfl (fun hc4 => absurd (by decide) hc4) (fun hc4 => ?_)
  refine e_aload_n (p := 8) dX12_must_7 rfl rfl ?_
  refine e_aload_n (p := 9) dX12_must_8 rfl rfl ?_
  refine e_callV_int (p := 12) (k' := 3) (a := [.ref 95, .ref (sp_S + j)]) (rr := []) dX12_must_9 rfl rfl rfl rfl (rc_of rfl rfl (by decide) ⟨rfl, by decide⟩) (Nat.le_of_ble_eq_true rfl) (Nat.le_of_ble_eq_true rfl) (by decide) (y_takesWord_n hF hm hj hj2 hq) (Or.inl rfl) rfl ?_
  refine e_if_ne (t := 24) (p := 15) dX12_must_12 (by decide) rfl rfl (fun hc12 => absurd (by decide) hc12) (fun hc12 => ?_)
  refine e_aload_n (p := 16) dX12_must_15 rfl rfl ?_
  refine e_iconst (v := 1) (p := 17) dX12_must_16 (by decide) rfl ?_
  refine e_aload_n (p := 18) dX12_must_17 rfl rfl ?_
  refine f_getI (c := 11) (j := 4) (n := 37) (v := nI (tS T n p)) (p := 21) dX12_must_18 rfl rfl (by decide) (by decide) (Or.inl rfl) hm.2.2.1.1 rfl ?_
  refine e_callV_v (p := 24) (k' := 0) (a := [.ref 95, .int 1, .int (nI (tS T n p))]) (rr := []) dX12_must_21 rfl rfl rfl rfl (rc_of rfl rfl (by decide) ⟨rfl, by decide⟩) (Nat.le_of_ble_eq_true rfl) (Nat.le_of_ble_eq_true rfl) (by decide) (y_wrong hF hm.2.2.2.1) (Or.inl rfl) rfl ?_
  exact e_vretE dX12_must_24 rfl rfl
set_option maxRecDepth 10000 in
theorem y_must {I : Nat → Nat → Int32} {J : Nat → Nat → Int64} {F : Nat → Nat → Option Nat} {nc ns : Nat} {T : Nat → Nat} {n p : Nat} (hF : RFok F) (hm : tM T n p I) {j : Nat} (hj : j < 27) (hj2 : 2 ≤ j) (hq : tQ T n p = nI (kwS j)) : Ew 4 mX12_must 0 [.ref 95, .ref (sp_S + j)] [] ((SH, nc, ns), I, J, F) (Ret nc ns none (fun I' J' F' => J' = J ∧ F' = F ∧ Fm 97 98 4 9 I I' ∧ tM T n (tE T n p) I')) := by
  refine we_aload_n (p := 1) dX12_must_0 rfl rfl ?_
  refine wf_getI (c := 11) (j := 13) (n := 37) (v := 0) (p := 4) dX12_must_1 rfl rfl (by decide) (by decide) (Or.inr rfl) hm.2.2.2.1 rfl ?_
  refine we_if_ne (t := 24) (p := 7) dX12_must_4 (by decide) rfl rfl (fun hc4 => absurd (by decide) hc4) (fun hc4 => ?_)
  refine we_aload_n (p := 8) dX12_must_7 rfl rfl ?_
  refine we_aload_n (p := 9) dX12_must_8 rfl rfl ?_
  obtain ⟨_, _, e1, rfl, I1, J1, F1, rfl, rfl, rfl, f1, t1⟩ := y_takesWord hF hm hj hj2 hq
  refine we_callV_int (p := 12) (k' := 3) (a := [.ref 95, .ref (sp_S + j)]) (rr := []) dX12_must_9 rfl rfl rfl rfl (rc_of rfl rfl (by decide) ⟨rfl, by decide⟩) (Nat.le_of_ble_eq_true rfl) (Nat.le_of_ble_eq_true rfl) (by decide) e1 (Or.inl rfl) rfl ?_
  refine we_if_ne (t := 24) (p := 15) dX12_must_12 (by decide) rfl rfl (fun hc12 => ?_) (fun hc12 => absurd hc12 (by decide))
  exact wv_ret dX12_must_24 rfl (⟨rfl, _, _, _, rfl, rfl, rfl, f1, t1⟩)
set_option maxRecDepth 10000 in
theorem y_number_f {I : Nat → Nat → Int32} {J : Nat → Nat → Int64} {F : Nat → Nat → Option Nat} {nc ns : Nat} (hF : RFok F) (hf : I 95 13 = 1) {x y : Int32}  : Ev 2 mX12_number 0 [.ref 95, .int x, .int y, .null] [] ((SH, nc, ns), I, J, F) (some (.int x)) ((SH, nc, ns), I, J, F) := by
  refine e_aload_n (p := 1) dX12_number_0 rfl rfl ?_
  refine f_getI (c := 11) (j := 13) (n := 37) (v := 1) (p := 4) dX12_number_1 rfl rfl (by decide) (by decide) (Or.inr rfl) hf rfl ?_
  refine e_if_eq (t := 9) (p := 7) dX12_number_4 (by decide) rfl rfl (fun hc4 => absurd hc4 (by decide)) (fun hc4 => ?_)
  refine e_iload_n (p := 8) dX12_number_7 rfl rfl ?_
  exact e_iretE dX12_number_8 rfl rfl (by decide) ⟨rfl, rfl⟩
set_option maxRecDepth 10000 in
theorem y_number_1 {I : Nat → Nat → Int32} {J : Nat → Nat → Int64} {F : Nat → Nat → Option Nat} {nc ns : Nat} {T : Nat → Nat} {n p : Nat} (hF : RFok F) (hm : tM T n p I) {lo hi : Nat} (hk : ¬ tK T n p = 2)  : Ev 2 mX12_number 0 [.ref 95, .int (nI lo), .int (nI hi), .null] [] ((SH, nc, ns), I, J, F) (some (.int (nI lo))) ((SH, nc, ns), wrI I 1 (tS T n p), J, F) := by
  refine e_aload_n (p := 1) dX12_number_0 rfl rfl ?_
  refine f_getI (c := 11) (j := 13) (n := 37) (v := 0) (p := 4) dX12_number_1 rfl rfl (by decide) (by decide) (Or.inr rfl) hm.2.2.2.1 rfl ?_
  refine e_if_eq (t := 9) (p := 7) dX12_number_4 (by decide) rfl rfl (fun hc4 => ?_) (fun hc4 => absurd (by decide) hc4)
  refine e_aload_n (p := 10) dX12_number_9 rfl rfl ?_
  refine f_getI (c := 11) (j := 6) (n := 37) (v := tkM (tK T n p)) (p := 13) dX12_number_10 rfl rfl (by decide) (by decide) (Or.inl rfl) hm.2.2.1.2.2.1 rfl ?_
  refine e_iconst (v := 3) (p := 14) dX12_number_13 (by decide) rfl ?_
  refine e_icmp_eq (t := 29) (p := 17) dX12_number_14 (by decide) rfl rfl (fun hc14 => absurd hc14 (tk_n3 hk)) (fun hc14 => ?_)
  refine e_aload_n (p := 18) dX12_number_17 rfl rfl ?_
  refine e_iconst (v := 1) (p := 19) dX12_number_18 (by decide) rfl ?_
  refine e_aload_n (p := 20) dX12_number_19 rfl rfl ?_
  refine f_getI (c := 11) (j := 4) (n := 37) (v := nI (tS T n p)) (p := 23) dX12_number_20 rfl rfl (by decide) (by decide) (Or.inl rfl) hm.2.2.1.1 rfl ?_
  refine e_callV_v (p := 26) (k' := 0) (a := [.ref 95, .int 1, .int (nI (tS T n p))]) (rr := []) dX12_number_23 rfl rfl rfl rfl (rc_of rfl rfl (by decide) ⟨rfl, by decide⟩) (Nat.le_of_ble_eq_true rfl) (Nat.le_of_ble_eq_true rfl) (by decide) (y_wrong hF hm.2.2.2.1) (Or.inl rfl) rfl ?_
  refine e_goto (p := 50) dX12_number_26 (by decide) rfl ?_
  refine e_aload_n (p := 51) dX12_number_50 rfl rfl ?_
  refine f_getI (c := 11) (j := 13) (n := 37) (v := 1) (p := 54) dX12_number_51 rfl rfl (by decide) (by decide) (Or.inr rfl) wr13 rfl ?_
  refine e_if_eq (t := 59) (p := 57) dX12_number_54 (by decide) rfl rfl (fun hc54 => absurd hc54 (by decide)) (fun hc54 => ?_)
  refine e_iload_n (p := 58) dX12_number_57 rfl rfl ?_
  exact e_iretE dX12_number_58 rfl rfl (by decide) ⟨rfl, rfl⟩
set_option maxRecDepth 10000 in
theorem y_number_4 {I : Nat → Nat → Int32} {J : Nat → Nat → Int64} {F : Nat → Nat → Option Nat} {nc ns : Nat} {T : Nat → Nat} {n p : Nat} (hF : RFok F) (hm : tM T n p I) {lo hi : Nat} (hlo : lo < 1000) (hhi : hi < 1000) (hk : tK T n p = 2) (hr : ¬ (lo ≤ tV T n p ∧ tV T n p ≤ hi))  : Ev 2 mX12_number 0 [.ref 95, .int (nI lo), .int (nI hi), .null] [] ((SH, nc, ns), I, J, F) (some (.int (nI lo))) ((SH, nc, ns), wrI I 4 (tS T n p), J, F) := by
  have hv := tV_lt hk
  refine e_aload_n (p := 1) dX12_number_0 rfl rfl ?_
  refine f_getI (c := 11) (j := 13) (n := 37) (v := 0) (p := 4) dX12_number_1 rfl rfl (by decide) (by decide) (Or.inr rfl) hm.2.2.2.1 rfl ?_
  refine e_if_eq (t := 9) (p := 7) dX12_number_4 (by decide) rfl rfl (fun hc4 => ?_) (fun hc4 => absurd (by decide) hc4)
  refine e_aload_n (p := 10) dX12_number_9 rfl rfl ?_
  refine f_getI (c := 11) (j := 6) (n := 37) (v := 3) (p := 13) dX12_number_10 rfl rfl (by decide) (by decide) (Or.inl rfl) (hm.2.2.1.2.2.1.trans (by rw [hk]; rfl)) rfl ?_
  refine e_iconst (v := 3) (p := 14) dX12_number_13 (by decide) rfl ?_
  refine e_icmp_eq (t := 29) (p := 17) dX12_number_14 (by decide) rfl rfl (fun hc14 => ?_) (fun hc14 => absurd (by decide) hc14)
  refine e_aload_n (p := 30) dX12_number_29 rfl rfl ?_
  refine f_getI (c := 11) (j := 7) (n := 37) (v := nI (tV T n p)) (p := 33) dX12_number_30 rfl rfl (by decide) (by decide) (Or.inl rfl) (hm.2.2.1.2.2.2.2 hk) rfl ?_
  refine e_iload_n (p := 34) dX12_number_33 rfl rfl ?_
  refine e_iload_n (p := 35) dX12_number_34 rfl rfl ?_
  refine e_callS_int (p := 38) (k' := 0) (a := [.int (nI (tV T n p)), .int (nI lo), .int (nI hi)]) (rr := []) dX12_number_35 rfl rfl rfl rfl rfl (rc_st rfl) (Nat.le_of_ble_eq_true rfl) (Nat.le_of_ble_eq_true rfl) (by decide) (Ev.i (in_no hr (by omega) (by omega)) y_in) (Or.inl rfl) rfl ?_
  refine e_if_ne (t := 50) (p := 41) dX12_number_38 (by decide) rfl rfl (fun hc38 => absurd (by decide) hc38) (fun hc38 => ?_)
  refine e_aload_n (p := 42) dX12_number_41 rfl rfl ?_
  refine e_iconst (v := 4) (p := 43) dX12_number_42 (by decide) rfl ?_
  refine e_aload_n (p := 44) dX12_number_43 rfl rfl ?_
  refine f_getI (c := 11) (j := 4) (n := 37) (v := nI (tS T n p)) (p := 47) dX12_number_44 rfl rfl (by decide) (by decide) (Or.inl rfl) hm.2.2.1.1 rfl ?_
  refine e_callV_v (p := 50) (k' := 0) (a := [.ref 95, .int 4, .int (nI (tS T n p))]) (rr := []) dX12_number_47 rfl rfl rfl rfl (rc_of rfl rfl (by decide) ⟨rfl, by decide⟩) (Nat.le_of_ble_eq_true rfl) (Nat.le_of_ble_eq_true rfl) (by decide) (y_wrong hF hm.2.2.2.1) (Or.inl rfl) rfl ?_
  refine e_aload_n (p := 51) dX12_number_50 rfl rfl ?_
  refine f_getI (c := 11) (j := 13) (n := 37) (v := 1) (p := 54) dX12_number_51 rfl rfl (by decide) (by decide) (Or.inr rfl) wr13 rfl ?_
  refine e_if_eq (t := 59) (p := 57) dX12_number_54 (by decide) rfl rfl (fun hc54 => absurd hc54 (by decide)) (fun hc54 => ?_)
  refine e_iload_n (p := 58) dX12_number_57 rfl rfl ?_
  exact e_iretE dX12_number_58 rfl rfl (by decide) ⟨rfl, rfl⟩
set_option maxRecDepth 10000 in
theorem y_number {I : Nat → Nat → Int32} {J : Nat → Nat → Int64} {F : Nat → Nat → Option Nat} {nc ns : Nat} {T : Nat → Nat} {n p : Nat} (hF : RFok F) (hm : tM T n p I) {lo hi : Nat} (hlo : lo < 1000) (hhi : hi < 1000) (hk : tK T n p = 2) (hr : lo ≤ tV T n p ∧ tV T n p ≤ hi) : Ew 2 mX12_number 0 [.ref 95, .int (nI lo), .int (nI hi), .null] [] ((SH, nc, ns), I, J, F) (Ret nc ns (some (.int (nI (tV T n p)))) (fun I' J' F' => J' = J ∧ F' = F ∧ Fm 97 98 4 9 I I' ∧ tM T n (tE T n p) I')) := by
  have hv := tV_lt hk
  refine we_aload_n (p := 1) dX12_number_0 rfl rfl ?_
  refine wf_getI (c := 11) (j := 13) (n := 37) (v := 0) (p := 4) dX12_number_1 rfl rfl (by decide) (by decide) (Or.inr rfl) hm.2.2.2.1 rfl ?_
  refine we_if_eq (t := 9) (p := 7) dX12_number_4 (by decide) rfl rfl (fun hc4 => ?_) (fun hc4 => absurd (by decide) hc4)
  refine we_aload_n (p := 10) dX12_number_9 rfl rfl ?_
  refine wf_getI (c := 11) (j := 6) (n := 37) (v := 3) (p := 13) dX12_number_10 rfl rfl (by decide) (by decide) (Or.inl rfl) (hm.2.2.1.2.2.1.trans (by rw [hk]; rfl)) rfl ?_
  refine we_iconst (v := 3) (p := 14) dX12_number_13 (by decide) rfl ?_
  refine we_icmp_eq (t := 29) (p := 17) dX12_number_14 (by decide) rfl rfl (fun hc14 => ?_) (fun hc14 => absurd (by decide) hc14)
  refine we_aload_n (p := 30) dX12_number_29 rfl rfl ?_
  refine wf_getI (c := 11) (j := 7) (n := 37) (v := nI (tV T n p)) (p := 33) dX12_number_30 rfl rfl (by decide) (by decide) (Or.inl rfl) (hm.2.2.1.2.2.2.2 hk) rfl ?_
  refine we_iload_n (p := 34) dX12_number_33 rfl rfl ?_
  refine we_iload_n (p := 35) dX12_number_34 rfl rfl ?_
  refine we_callS_int (p := 38) (k' := 0) (a := [.int (nI (tV T n p)), .int (nI lo), .int (nI hi)]) (rr := []) dX12_number_35 rfl rfl rfl rfl rfl (rc_st rfl) (Nat.le_of_ble_eq_true rfl) (Nat.le_of_ble_eq_true rfl) (by decide) (Ev.i (in_ok hr.1 hr.2 (by omega)) y_in) (Or.inl rfl) rfl ?_
  refine we_if_ne (t := 50) (p := 41) dX12_number_38 (by decide) rfl rfl (fun hc38 => ?_) (fun hc38 => absurd hc38 (by decide))
  refine we_aload_n (p := 51) dX12_number_50 rfl rfl ?_
  refine wf_getI (c := 11) (j := 13) (n := 37) (v := 0) (p := 54) dX12_number_51 rfl rfl (by decide) (by decide) (Or.inr rfl) hm.2.2.2.1 rfl ?_
  refine we_if_eq (t := 59) (p := 57) dX12_number_54 (by decide) rfl rfl (fun hc54 => ?_) (fun hc54 => absurd (by decide) hc54)
  refine we_aload_n (p := 60) dX12_number_59 rfl rfl ?_
  refine wf_getI (c := 11) (j := 7) (n := 37) (v := nI (tV T n p)) (p := 63) dX12_number_60 rfl rfl (by decide) (by decide) (Or.inl rfl) (hm.2.2.1.2.2.2.2 hk) rfl ?_
  refine we_istore_n (ls1 := [.ref 95, .int (nI lo), .int (nI hi), .int (nI (tV T n p))]) (p := 64) dX12_number_63 rfl rfl ?_
  refine we_aload_n (p := 65) dX12_number_64 rfl rfl ?_
  obtain ⟨_, _, e1, rfl, I1, J1, F1, rfl, rfl, rfl, f1, r1⟩ := y_next hF hm.1 (tE_le hm.2.1).1 hm.2.2.1.2.1
  refine we_callV_v (p := 68) (k' := 1) (a := [.ref 95]) (rr := []) dX12_number_65 rfl rfl rfl rfl (rc_of rfl rfl (by decide) ⟨rfl, by decide⟩) (Nat.le_of_ble_eq_true rfl) (Nat.le_of_ble_eq_true rfl) (by decide) e1 (Or.inl rfl) rfl ?_
  refine we_iload_n (p := 69) dX12_number_68 rfl rfl ?_
  exact wi_ret dX12_number_69 rfl rfl (by decide) (⟨rfl, _, _, _, rfl, rfl, rfl, f1, tM.nx hm f1 r1⟩)
set_option maxRecDepth 10000 in
theorem y_after_f {I : Nat → Nat → Int32} {J : Nat → Nat → Int64} {F : Nat → Nat → Option Nat} {nc ns : Nat} (hF : RFok F) (hf : I 95 13 = 1) {j : Nat} {x y : Int32}  : Ev 5 mX12_after 0 [.ref 95, .ref (sp_S + j), .int x, .int y] [] ((SH, nc, ns), I, J, F) (some (.int x)) ((SH, nc, ns), I, J, F) := by
  refine e_aload_n (p := 1) dX12_after_0 rfl rfl ?_
  refine e_aload_n (p := 2) dX12_after_1 rfl rfl ?_
  refine e_callV_v (p := 5) (k' := 4) (a := [.ref 95, .ref (sp_S + j)]) (rr := []) dX12_after_2 rfl rfl rfl rfl (rc_of rfl rfl (by decide) ⟨rfl, by decide⟩) (Nat.le_of_ble_eq_true rfl) (Nat.le_of_ble_eq_true rfl) (by decide) (y_must_f hF hf) (Or.inl rfl) rfl ?_
  refine e_aload_n (p := 6) dX12_after_5 rfl rfl ?_
  refine e_iload_n (p := 7) dX12_after_6 rfl rfl ?_
  refine e_iload_n (p := 8) dX12_after_7 rfl rfl ?_
  refine e_callV_int (p := 11) (k' := 2) (a := [.ref 95, .int x, .int y]) (rr := []) dX12_after_8 rfl rfl rfl rfl (rc_of rfl rfl (by decide) ⟨rfl, by decide⟩) (Nat.le_of_ble_eq_true rfl) (Nat.le_of_ble_eq_true rfl) (by decide) (y_number_f hF hf) (Or.inl rfl) rfl ?_
  exact e_iretE dX12_after_11 rfl rfl (by decide) ⟨rfl, rfl⟩
set_option maxRecDepth 10000 in
theorem y_after {I : Nat → Nat → Int32} {J : Nat → Nat → Int64} {F : Nat → Nat → Option Nat} {nc ns : Nat} {T : Nat → Nat} {n : Nat} {S : pZ} (hF : RFok F) (hm : tM T n (zP S) I) (hz : zF S = 0) {j : Nat} (hj : j < 27) (hj2 : 2 ≤ j) {lo hi : Nat} (hlo : lo < 1000) (hhi : hi < 1000) : Ew 5 mX12_after 0 [.ref 95, .ref (sp_S + j), .int (nI lo), .int (nI hi)] [] ((SH, nc, ns), I, J, F) (RmP nc ns T n I J F (pTk T n (kwS j) lo hi S) (some (.int (nI lo))) (some (.int (nI (zV (pTk T n (kwS j) lo hi S)))))) := by
  by_cases hq : tQ T n (zP S) = nI (kwS j)
  · by_cases hk : tK T n (tE T n (zP S)) = 2
    · by_cases hr : lo ≤ tV T n (tE T n (zP S)) ∧ tV T n (tE T n (zP S)) ≤ hi
      · have hE : pTk T n (kwS j) lo hi S = pVl (tV T n (tE T n (zP S))) (pAv T n (pAv T n S)) := by
          unfold pTk
          rw [if_pos hq, if_pos hk, if_pos hr]
        refine we_aload_n (p := 1) dX12_after_0 rfl rfl ?_
        refine we_aload_n (p := 2) dX12_after_1 rfl rfl ?_
        obtain ⟨_, _, e1, rfl, I1, J1, F1, rfl, rfl, rfl, f1, t1⟩ := y_must hF hm hj hj2 hq
        refine we_callV_v (p := 5) (k' := 4) (a := [.ref 95, .ref (sp_S + j)]) (rr := []) dX12_after_2 rfl rfl rfl rfl (rc_of rfl rfl (by decide) ⟨rfl, by decide⟩) (Nat.le_of_ble_eq_true rfl) (Nat.le_of_ble_eq_true rfl) (by decide) e1 (Or.inl rfl) rfl ?_
        refine we_aload_n (p := 6) dX12_after_5 rfl rfl ?_
        refine we_iload_n (p := 7) dX12_after_6 rfl rfl ?_
        refine we_iload_n (p := 8) dX12_after_7 rfl rfl ?_
        obtain ⟨_, _, e2, rfl, I2, J2, F2, rfl, rfl, rfl, f2, t2⟩ := y_number hF t1 hlo hhi hk hr
        refine we_callV_int (p := 11) (k' := 2) (a := [.ref 95, .int (nI lo), .int (nI hi)]) (rr := []) dX12_after_8 rfl rfl rfl rfl (rc_of rfl rfl (by decide) ⟨rfl, by decide⟩) (Nat.le_of_ble_eq_true rfl) (Nat.le_of_ble_eq_true rfl) (by decide) e2 (Or.inl rfl) rfl ?_
        exact wi_ret dX12_after_11 rfl rfl (by decide) (⟨_, rfl, (FrT.fm f1).tr (FrT.fm f2), Or.inl ⟨by rw [hE]; exact hz, by rw [hE]; rfl, by rw [hE]; exact t2⟩⟩)
      · have hE : pTk T n (kwS j) lo hi S = pFl 4 (pAv T n S) := by
          unfold pTk
          rw [if_pos hq, if_pos hk, if_neg hr]
        refine we_aload_n (p := 1) dX12_after_0 rfl rfl ?_
        refine we_aload_n (p := 2) dX12_after_1 rfl rfl ?_
        obtain ⟨_, _, e1, rfl, I1, J1, F1, rfl, rfl, rfl, f1, t1⟩ := y_must hF hm hj hj2 hq
        refine we_callV_v (p := 5) (k' := 4) (a := [.ref 95, .ref (sp_S + j)]) (rr := []) dX12_after_2 rfl rfl rfl rfl (rc_of rfl rfl (by decide) ⟨rfl, by decide⟩) (Nat.le_of_ble_eq_true rfl) (Nat.le_of_ble_eq_true rfl) (by decide) e1 (Or.inl rfl) rfl ?_
        refine we_aload_n (p := 6) dX12_after_5 rfl rfl ?_
        refine we_iload_n (p := 7) dX12_after_6 rfl rfl ?_
        refine we_iload_n (p := 8) dX12_after_7 rfl rfl ?_
        refine we_callV_int (p := 11) (k' := 2) (a := [.ref 95, .int (nI lo), .int (nI hi)]) (rr := []) dX12_after_8 rfl rfl rfl rfl (rc_of rfl rfl (by decide) ⟨rfl, by decide⟩) (Nat.le_of_ble_eq_true rfl) (Nat.le_of_ble_eq_true rfl) (by decide) (y_number_4 hF t1 hlo hhi hk hr) (Or.inl rfl) rfl ?_
        exact wi_ret dX12_after_11 rfl rfl (by decide) (⟨_, rfl, (FrT.fm f1).tr FrT.wr, Or.inr ⟨by rw [hE]; show ¬ (4 : Nat) = 0; decide, rfl, by rw [hE]; exact mF.wr (k := 4) rfl rfl⟩⟩)
    · have hE : pTk T n (kwS j) lo hi S = pFl 1 (pAv T n S) := by
        unfold pTk
        rw [if_pos hq, if_neg hk]
      refine we_aload_n (p := 1) dX12_after_0 rfl rfl ?_
      refine we_aload_n (p := 2) dX12_after_1 rfl rfl ?_
      obtain ⟨_, _, e1, rfl, I1, J1, F1, rfl, rfl, rfl, f1, t1⟩ := y_must hF hm hj hj2 hq
      refine we_callV_v (p := 5) (k' := 4) (a := [.ref 95, .ref (sp_S + j)]) (rr := []) dX12_after_2 rfl rfl rfl rfl (rc_of rfl rfl (by decide) ⟨rfl, by decide⟩) (Nat.le_of_ble_eq_true rfl) (Nat.le_of_ble_eq_true rfl) (by decide) e1 (Or.inl rfl) rfl ?_
      refine we_aload_n (p := 6) dX12_after_5 rfl rfl ?_
      refine we_iload_n (p := 7) dX12_after_6 rfl rfl ?_
      refine we_iload_n (p := 8) dX12_after_7 rfl rfl ?_
      refine we_callV_int (p := 11) (k' := 2) (a := [.ref 95, .int (nI lo), .int (nI hi)]) (rr := []) dX12_after_8 rfl rfl rfl rfl (rc_of rfl rfl (by decide) ⟨rfl, by decide⟩) (Nat.le_of_ble_eq_true rfl) (Nat.le_of_ble_eq_true rfl) (by decide) (y_number_1 hF t1 hk) (Or.inl rfl) rfl ?_
      exact wi_ret dX12_after_11 rfl rfl (by decide) (⟨_, rfl, (FrT.fm f1).tr FrT.wr, Or.inr ⟨by rw [hE]; show ¬ (1 : Nat) = 0; decide, rfl, by rw [hE]; exact mF.wr (k := 1) rfl rfl⟩⟩)
  · have hE : pTk T n (kwS j) lo hi S = pFl 1 S := by
      unfold pTk
      rw [if_neg hq]
    refine we_aload_n (p := 1) dX12_after_0 rfl rfl ?_
    refine we_aload_n (p := 2) dX12_after_1 rfl rfl ?_
    refine we_callV_v (p := 5) (k' := 4) (a := [.ref 95, .ref (sp_S + j)]) (rr := []) dX12_after_2 rfl rfl rfl rfl (rc_of rfl rfl (by decide) ⟨rfl, by decide⟩) (Nat.le_of_ble_eq_true rfl) (Nat.le_of_ble_eq_true rfl) (by decide) (y_must_n hF hm hj hj2 hq) (Or.inl rfl) rfl ?_
    refine we_aload_n (p := 6) dX12_after_5 rfl rfl ?_
    refine we_iload_n (p := 7) dX12_after_6 rfl rfl ?_
    refine we_iload_n (p := 8) dX12_after_7 rfl rfl ?_
    refine we_callV_int (p := 11) (k' := 2) (a := [.ref 95, .int (nI lo), .int (nI hi)]) (rr := []) dX12_after_8 rfl rfl rfl rfl (rc_of rfl rfl (by decide) ⟨rfl, by decide⟩) (Nat.le_of_ble_eq_true rfl) (Nat.le_of_ble_eq_true rfl) (by decide) (y_number_f hF wr13) (Or.inl rfl) rfl ?_
    exact wi_ret dX12_after_11 rfl rfl (by decide) (⟨_, rfl, FrT.wr, Or.inr ⟨by rw [hE]; show ¬ (1 : Nat) = 0; decide, rfl, by rw [hE]; exact mF.wr (k := 1) rfl rfl⟩⟩)
theorem nm_ne {T : Nat → Nat} {n p k : Nat} (h : isNm T n p) (hk : k < 8) : ¬ tQ T n p = nI k := by
  intro z
  rcases h.2 with e | e
  · rw [e] at z
    exact nI_m25 k (by omega) z
  · rw [z] at e
    exact absurd e (nI_nlt (a := 7) (b := k) (by omega) (by omega))
theorem nm_no {T : Nat → Nat} {n p : Nat} (h : ¬ isNm T n p) (hk : tK T n p = 1) : ∃ k, k < 8 ∧ tQ T n p = nI k := by
  have e : tQ T n p = kwI (tW T n p) := if_pos hk
  by_cases c : ∃ k, k < 25 ∧ KWf k = tW T n p
  · obtain ⟨k, h1, h2⟩ := c
    have e2 : tQ T n p = nI k := by rw [e, ← h2, kw_k k h1]
    refine ⟨k, Nat.lt_of_not_le (fun z => h ⟨hk, Or.inr ?_⟩), e2⟩
    rw [e2]
    exact nI_lt (a := 7) (b := k) (by omega) (by omega)
  · exact absurd ⟨hk, Or.inl (e.trans (gN_kw (fun k hk z => c ⟨k, hk, z⟩) 25 0 (-1) (by omega)))⟩ h
set_option maxRecDepth 10000 in
theorem y_mustName {I : Nat → Nat → Int32} {J : Nat → Nat → Int64} {F : Nat → Nat → Option Nat} {nc ns : Nat} {T : Nat → Nat} {n p : Nat} (hF : RFok F) (hm : tM T n p I) (hn : isNm T n p)  : Ev 3 mX12_mustName 0 [.ref 95] [] ((SH, nc, ns), I, J, F) (none) ((SH, nc, ns), I, J, F) := by
  refine e_aload_n (p := 1) dX12_mustName_0 rfl rfl ?_
  refine f_getI (c := 11) (j := 6) (n := 37) (v := 2) (p := 4) dX12_mustName_1 rfl rfl (by decide) (by decide) (Or.inl rfl) (hm.2.2.1.2.2.1.trans (by rw [hn.1]; rfl)) rfl ?_
  refine e_iconst (v := 2) (p := 5) dX12_mustName_4 (by decide) rfl ?_
  refine e_icmp_ne (t := 80) (p := 8) dX12_mustName_5 (by decide) rfl rfl (fun hc5 => absurd (by decide) hc5) (fun hc5 => ?_)
  refine e_aload_n (p := 9) dX12_mustName_8 rfl rfl ?_
  refine e_ldcS (j := 2) (p := 11) dX12_mustName_9 rfl rfl rfl ?_
  refine e_callV_int (p := 14) (k' := 2) (a := [.ref 95, .ref (sp_S + 2)]) (rr := []) dX12_mustName_11 rfl rfl rfl rfl (rc_of rfl rfl (by decide) ⟨rfl, by decide⟩) (Nat.le_of_ble_eq_true rfl) (Nat.le_of_ble_eq_true rfl) (by decide) (Ev.i (if_neg (nm_ne (k := 7) hn (by decide))) (y_isWord (j := 2) hF hm (by decide) (by decide))) (Or.inl rfl) rfl ?_
  refine e_if_ne (t := 80) (p := 17) dX12_mustName_14 (by decide) rfl rfl (fun hc14 => absurd (by decide) hc14) (fun hc14 => ?_)
  refine e_aload_n (p := 18) dX12_mustName_17 rfl rfl ?_
  refine e_ldcS (j := 5) (p := 20) dX12_mustName_18 rfl rfl rfl ?_
  refine e_callV_int (p := 23) (k' := 2) (a := [.ref 95, .ref (sp_S + 5)]) (rr := []) dX12_mustName_20 rfl rfl rfl rfl (rc_of rfl rfl (by decide) ⟨rfl, by decide⟩) (Nat.le_of_ble_eq_true rfl) (Nat.le_of_ble_eq_true rfl) (by decide) (Ev.i (if_neg (nm_ne (k := 0) hn (by decide))) (y_isWord (j := 5) hF hm (by decide) (by decide))) (Or.inl rfl) rfl ?_
  refine e_if_ne (t := 80) (p := 26) dX12_mustName_23 (by decide) rfl rfl (fun hc23 => absurd (by decide) hc23) (fun hc23 => ?_)
  refine e_aload_n (p := 27) dX12_mustName_26 rfl rfl ?_
  refine e_ldcS (j := 6) (p := 29) dX12_mustName_27 rfl rfl rfl ?_
  refine e_callV_int (p := 32) (k' := 2) (a := [.ref 95, .ref (sp_S + 6)]) (rr := []) dX12_mustName_29 rfl rfl rfl rfl (rc_of rfl rfl (by decide) ⟨rfl, by decide⟩) (Nat.le_of_ble_eq_true rfl) (Nat.le_of_ble_eq_true rfl) (by decide) (Ev.i (if_neg (nm_ne (k := 1) hn (by decide))) (y_isWord (j := 6) hF hm (by decide) (by decide))) (Or.inl rfl) rfl ?_
  refine e_if_ne (t := 80) (p := 35) dX12_mustName_32 (by decide) rfl rfl (fun hc32 => absurd (by decide) hc32) (fun hc32 => ?_)
  refine e_aload_n (p := 36) dX12_mustName_35 rfl rfl ?_
  refine e_ldcS (j := 7) (p := 38) dX12_mustName_36 rfl rfl rfl ?_
  refine e_callV_int (p := 41) (k' := 2) (a := [.ref 95, .ref (sp_S + 7)]) (rr := []) dX12_mustName_38 rfl rfl rfl rfl (rc_of rfl rfl (by decide) ⟨rfl, by decide⟩) (Nat.le_of_ble_eq_true rfl) (Nat.le_of_ble_eq_true rfl) (by decide) (Ev.i (if_neg (nm_ne (k := 2) hn (by decide))) (y_isWord (j := 7) hF hm (by decide) (by decide))) (Or.inl rfl) rfl ?_
  refine e_if_ne (t := 80) (p := 44) dX12_mustName_41 (by decide) rfl rfl (fun hc41 => absurd (by decide) hc41) (fun hc41 => ?_)
  refine e_aload_n (p := 45) dX12_mustName_44 rfl rfl ?_
  refine e_ldcS (j := 8) (p := 47) dX12_mustName_45 rfl rfl rfl ?_
  refine e_callV_int (p := 50) (k' := 2) (a := [.ref 95, .ref (sp_S + 8)]) (rr := []) dX12_mustName_47 rfl rfl rfl rfl (rc_of rfl rfl (by decide) ⟨rfl, by decide⟩) (Nat.le_of_ble_eq_true rfl) (Nat.le_of_ble_eq_true rfl) (by decide) (Ev.i (if_neg (nm_ne (k := 3) hn (by decide))) (y_isWord (j := 8) hF hm (by decide) (by decide))) (Or.inl rfl) rfl ?_
  refine e_if_ne (t := 80) (p := 53) dX12_mustName_50 (by decide) rfl rfl (fun hc50 => absurd (by decide) hc50) (fun hc50 => ?_)
  refine e_aload_n (p := 54) dX12_mustName_53 rfl rfl ?_
  refine e_ldcS (j := 9) (p := 56) dX12_mustName_54 rfl rfl rfl ?_
  refine e_callV_int (p := 59) (k' := 2) (a := [.ref 95, .ref (sp_S + 9)]) (rr := []) dX12_mustName_56 rfl rfl rfl rfl (rc_of rfl rfl (by decide) ⟨rfl, by decide⟩) (Nat.le_of_ble_eq_true rfl) (Nat.le_of_ble_eq_true rfl) (by decide) (Ev.i (if_neg (nm_ne (k := 4) hn (by decide))) (y_isWord (j := 9) hF hm (by decide) (by decide))) (Or.inl rfl) rfl ?_
  refine e_if_ne (t := 80) (p := 62) dX12_mustName_59 (by decide) rfl rfl (fun hc59 => absurd (by decide) hc59) (fun hc59 => ?_)
  refine e_aload_n (p := 63) dX12_mustName_62 rfl rfl ?_
  refine e_ldcS (j := 10) (p := 65) dX12_mustName_63 rfl rfl rfl ?_
  refine e_callV_int (p := 68) (k' := 2) (a := [.ref 95, .ref (sp_S + 10)]) (rr := []) dX12_mustName_65 rfl rfl rfl rfl (rc_of rfl rfl (by decide) ⟨rfl, by decide⟩) (Nat.le_of_ble_eq_true rfl) (Nat.le_of_ble_eq_true rfl) (by decide) (Ev.i (if_neg (nm_ne (k := 5) hn (by decide))) (y_isWord (j := 10) hF hm (by decide) (by decide))) (Or.inl rfl) rfl ?_
  refine e_if_ne (t := 80) (p := 71) dX12_mustName_68 (by decide) rfl rfl (fun hc68 => absurd (by decide) hc68) (fun hc68 => ?_)
  refine e_aload_n (p := 72) dX12_mustName_71 rfl rfl ?_
  refine e_ldcS (j := 11) (p := 74) dX12_mustName_72 rfl rfl rfl ?_
  refine e_callV_int (p := 77) (k' := 2) (a := [.ref 95, .ref (sp_S + 11)]) (rr := []) dX12_mustName_74 rfl rfl rfl rfl (rc_of rfl rfl (by decide) ⟨rfl, by decide⟩) (Nat.le_of_ble_eq_true rfl) (Nat.le_of_ble_eq_true rfl) (by decide) (Ev.i (if_neg (nm_ne (k := 6) hn (by decide))) (y_isWord (j := 11) hF hm (by decide) (by decide))) (Or.inl rfl) rfl ?_
  refine e_if_eq (t := 89) (p := 80) dX12_mustName_77 (by decide) rfl rfl (fun hc77 => ?_) (fun hc77 => absurd (by decide) hc77)
  exact e_vretE dX12_mustName_89 rfl rfl
set_option maxRecDepth 10000 in
theorem y_mustName_n {I : Nat → Nat → Int32} {J : Nat → Nat → Int64} {F : Nat → Nat → Option Nat} {nc ns : Nat} {T : Nat → Nat} {n p : Nat} (hF : RFok F) (hm : tM T n p I) (hn : ¬ isNm T n p) : Ev 3 mX12_mustName 0 [.ref 95] [] ((SH, nc, ns), I, J, F) none ((SH, nc, ns), wrI I 1 (tS T n p), J, F) := by
  by_cases hk : tK T n p = 1
  · obtain ⟨k, hk8, hq⟩ := nm_no hn hk
    rcases (by omega : k = 0 ∨ k = 1 ∨ k = 2 ∨ k = 3 ∨ k = 4 ∨ k = 5 ∨ k = 6 ∨ k = 7) with rfl | rfl | rfl | rfl | rfl | rfl | rfl | rfl
    · skip
      refine e_aload_n (p := 1) dX12_mustName_0 rfl rfl ?_
      refine f_getI (c := 11) (j := 6) (n := 37) (v := 2) (p := 4) dX12_mustName_1 rfl rfl (by decide) (by decide) (Or.inl rfl) (hm.2.2.1.2.2.1.trans (by rw [hk]; rfl)) rfl ?_
      refine e_iconst (v := 2) (p := 5) dX12_mustName_4 (by decide) rfl ?_
      refine e_icmp_ne (t := 80) (p := 8) dX12_mustName_5 (by decide) rfl rfl (fun hc5 => absurd (by decide) hc5) (fun hc5 => ?_)
      refine e_aload_n (p := 9) dX12_mustName_8 rfl rfl ?_
      refine e_ldcS (j := 2) (p := 11) dX12_mustName_9 rfl rfl rfl ?_
      refine e_callV_int (p := 14) (k' := 2) (a := [.ref 95, .ref (sp_S + 2)]) (rr := []) dX12_mustName_11 rfl rfl rfl rfl (rc_of rfl rfl (by decide) ⟨rfl, by decide⟩) (Nat.le_of_ble_eq_true rfl) (Nat.le_of_ble_eq_true rfl) (by decide) (Ev.i (if_neg (by rw [hq]; decide)) (y_isWord (j := 2) hF hm (by decide) (by decide))) (Or.inl rfl) rfl ?_
      refine e_if_ne (t := 80) (p := 17) dX12_mustName_14 (by decide) rfl rfl (fun hc14 => absurd (by decide) hc14) (fun hc14 => ?_)
      refine e_aload_n (p := 18) dX12_mustName_17 rfl rfl ?_
      refine e_ldcS (j := 5) (p := 20) dX12_mustName_18 rfl rfl rfl ?_
      refine e_callV_int (p := 23) (k' := 2) (a := [.ref 95, .ref (sp_S + 5)]) (rr := []) dX12_mustName_20 rfl rfl rfl rfl (rc_of rfl rfl (by decide) ⟨rfl, by decide⟩) (Nat.le_of_ble_eq_true rfl) (Nat.le_of_ble_eq_true rfl) (by decide) (Ev.i (if_pos hq) (y_isWord (j := 5) hF hm (by decide) (by decide))) (Or.inl rfl) rfl ?_
      refine e_if_ne (t := 80) (p := 26) dX12_mustName_23 (by decide) rfl rfl (fun hc23 => ?_) (fun hc23 => absurd hc23 (by decide))
      refine e_aload_n (p := 81) dX12_mustName_80 rfl rfl ?_
      refine e_iconst (v := 1) (p := 82) dX12_mustName_81 (by decide) rfl ?_
      refine e_aload_n (p := 83) dX12_mustName_82 rfl rfl ?_
      refine f_getI (c := 11) (j := 4) (n := 37) (v := nI (tS T n p)) (p := 86) dX12_mustName_83 rfl rfl (by decide) (by decide) (Or.inl rfl) hm.2.2.1.1 rfl ?_
      refine e_callV_v (p := 89) (k' := 0) (a := [.ref 95, .int 1, .int (nI (tS T n p))]) (rr := []) dX12_mustName_86 rfl rfl rfl rfl (rc_of rfl rfl (by decide) ⟨rfl, by decide⟩) (Nat.le_of_ble_eq_true rfl) (Nat.le_of_ble_eq_true rfl) (by decide) (y_wrong hF hm.2.2.2.1) (Or.inl rfl) rfl ?_
      exact e_vretE dX12_mustName_89 rfl rfl
    · skip
      refine e_aload_n (p := 1) dX12_mustName_0 rfl rfl ?_
      refine f_getI (c := 11) (j := 6) (n := 37) (v := 2) (p := 4) dX12_mustName_1 rfl rfl (by decide) (by decide) (Or.inl rfl) (hm.2.2.1.2.2.1.trans (by rw [hk]; rfl)) rfl ?_
      refine e_iconst (v := 2) (p := 5) dX12_mustName_4 (by decide) rfl ?_
      refine e_icmp_ne (t := 80) (p := 8) dX12_mustName_5 (by decide) rfl rfl (fun hc5 => absurd (by decide) hc5) (fun hc5 => ?_)
      refine e_aload_n (p := 9) dX12_mustName_8 rfl rfl ?_
      refine e_ldcS (j := 2) (p := 11) dX12_mustName_9 rfl rfl rfl ?_
      refine e_callV_int (p := 14) (k' := 2) (a := [.ref 95, .ref (sp_S + 2)]) (rr := []) dX12_mustName_11 rfl rfl rfl rfl (rc_of rfl rfl (by decide) ⟨rfl, by decide⟩) (Nat.le_of_ble_eq_true rfl) (Nat.le_of_ble_eq_true rfl) (by decide) (Ev.i (if_neg (by rw [hq]; decide)) (y_isWord (j := 2) hF hm (by decide) (by decide))) (Or.inl rfl) rfl ?_
      refine e_if_ne (t := 80) (p := 17) dX12_mustName_14 (by decide) rfl rfl (fun hc14 => absurd (by decide) hc14) (fun hc14 => ?_)
      refine e_aload_n (p := 18) dX12_mustName_17 rfl rfl ?_
      refine e_ldcS (j := 5) (p := 20) dX12_mustName_18 rfl rfl rfl ?_
      refine e_callV_int (p := 23) (k' := 2) (a := [.ref 95, .ref (sp_S + 5)]) (rr := []) dX12_mustName_20 rfl rfl rfl rfl (rc_of rfl rfl (by decide) ⟨rfl, by decide⟩) (Nat.le_of_ble_eq_true rfl) (Nat.le_of_ble_eq_true rfl) (by decide) (Ev.i (if_neg (by rw [hq]; decide)) (y_isWord (j := 5) hF hm (by decide) (by decide))) (Or.inl rfl) rfl ?_
      refine e_if_ne (t := 80) (p := 26) dX12_mustName_23 (by decide) rfl rfl (fun hc23 => absurd (by decide) hc23) (fun hc23 => ?_)
      refine e_aload_n (p := 27) dX12_mustName_26 rfl rfl ?_
      refine e_ldcS (j := 6) (p := 29) dX12_mustName_27 rfl rfl rfl ?_
      refine e_callV_int (p := 32) (k' := 2) (a := [.ref 95, .ref (sp_S + 6)]) (rr := []) dX12_mustName_29 rfl rfl rfl rfl (rc_of rfl rfl (by decide) ⟨rfl, by decide⟩) (Nat.le_of_ble_eq_true rfl) (Nat.le_of_ble_eq_true rfl) (by decide) (Ev.i (if_pos hq) (y_isWord (j := 6) hF hm (by decide) (by decide))) (Or.inl rfl) rfl ?_
      refine e_if_ne (t := 80) (p := 35) dX12_mustName_32 (by decide) rfl rfl (fun hc32 => ?_) (fun hc32 => absurd hc32 (by decide))
      refine e_aload_n (p := 81) dX12_mustName_80 rfl rfl ?_
      refine e_iconst (v := 1) (p := 82) dX12_mustName_81 (by decide) rfl ?_
      refine e_aload_n (p := 83) dX12_mustName_82 rfl rfl ?_
      refine f_getI (c := 11) (j := 4) (n := 37) (v := nI (tS T n p)) (p := 86) dX12_mustName_83 rfl rfl (by decide) (by decide) (Or.inl rfl) hm.2.2.1.1 rfl ?_
      refine e_callV_v (p := 89) (k' := 0) (a := [.ref 95, .int 1, .int (nI (tS T n p))]) (rr := []) dX12_mustName_86 rfl rfl rfl rfl (rc_of rfl rfl (by decide) ⟨rfl, by decide⟩) (Nat.le_of_ble_eq_true rfl) (Nat.le_of_ble_eq_true rfl) (by decide) (y_wrong hF hm.2.2.2.1) (Or.inl rfl) rfl ?_
      exact e_vretE dX12_mustName_89 rfl rfl
    · skip
      refine e_aload_n (p := 1) dX12_mustName_0 rfl rfl ?_
      refine f_getI (c := 11) (j := 6) (n := 37) (v := 2) (p := 4) dX12_mustName_1 rfl rfl (by decide) (by decide) (Or.inl rfl) (hm.2.2.1.2.2.1.trans (by rw [hk]; rfl)) rfl ?_
      refine e_iconst (v := 2) (p := 5) dX12_mustName_4 (by decide) rfl ?_
      refine e_icmp_ne (t := 80) (p := 8) dX12_mustName_5 (by decide) rfl rfl (fun hc5 => absurd (by decide) hc5) (fun hc5 => ?_)
      refine e_aload_n (p := 9) dX12_mustName_8 rfl rfl ?_
      refine e_ldcS (j := 2) (p := 11) dX12_mustName_9 rfl rfl rfl ?_
      refine e_callV_int (p := 14) (k' := 2) (a := [.ref 95, .ref (sp_S + 2)]) (rr := []) dX12_mustName_11 rfl rfl rfl rfl (rc_of rfl rfl (by decide) ⟨rfl, by decide⟩) (Nat.le_of_ble_eq_true rfl) (Nat.le_of_ble_eq_true rfl) (by decide) (Ev.i (if_neg (by rw [hq]; decide)) (y_isWord (j := 2) hF hm (by decide) (by decide))) (Or.inl rfl) rfl ?_
      refine e_if_ne (t := 80) (p := 17) dX12_mustName_14 (by decide) rfl rfl (fun hc14 => absurd (by decide) hc14) (fun hc14 => ?_)
      refine e_aload_n (p := 18) dX12_mustName_17 rfl rfl ?_
      refine e_ldcS (j := 5) (p := 20) dX12_mustName_18 rfl rfl rfl ?_
      refine e_callV_int (p := 23) (k' := 2) (a := [.ref 95, .ref (sp_S + 5)]) (rr := []) dX12_mustName_20 rfl rfl rfl rfl (rc_of rfl rfl (by decide) ⟨rfl, by decide⟩) (Nat.le_of_ble_eq_true rfl) (Nat.le_of_ble_eq_true rfl) (by decide) (Ev.i (if_neg (by rw [hq]; decide)) (y_isWord (j := 5) hF hm (by decide) (by decide))) (Or.inl rfl) rfl ?_
      refine e_if_ne (t := 80) (p := 26) dX12_mustName_23 (by decide) rfl rfl (fun hc23 => absurd (by decide) hc23) (fun hc23 => ?_)
      refine e_aload_n (p := 27) dX12_mustName_26 rfl rfl ?_
      refine e_ldcS (j := 6) (p := 29) dX12_mustName_27 rfl rfl rfl ?_
      refine e_callV_int (p := 32) (k' := 2) (a := [.ref 95, .ref (sp_S + 6)]) (rr := []) dX12_mustName_29 rfl rfl rfl rfl (rc_of rfl rfl (by decide) ⟨rfl, by decide⟩) (Nat.le_of_ble_eq_true rfl) (Nat.le_of_ble_eq_true rfl) (by decide) (Ev.i (if_neg (by rw [hq]; decide)) (y_isWord (j := 6) hF hm (by decide) (by decide))) (Or.inl rfl) rfl ?_
      refine e_if_ne (t := 80) (p := 35) dX12_mustName_32 (by decide) rfl rfl (fun hc32 => absurd (by decide) hc32) (fun hc32 => ?_)
      refine e_aload_n (p := 36) dX12_mustName_35 rfl rfl ?_
      refine e_ldcS (j := 7) (p := 38) dX12_mustName_36 rfl rfl rfl ?_
      refine e_callV_int (p := 41) (k' := 2) (a := [.ref 95, .ref (sp_S + 7)]) (rr := []) dX12_mustName_38 rfl rfl rfl rfl (rc_of rfl rfl (by decide) ⟨rfl, by decide⟩) (Nat.le_of_ble_eq_true rfl) (Nat.le_of_ble_eq_true rfl) (by decide) (Ev.i (if_pos hq) (y_isWord (j := 7) hF hm (by decide) (by decide))) (Or.inl rfl) rfl ?_
      refine e_if_ne (t := 80) (p := 44) dX12_mustName_41 (by decide) rfl rfl (fun hc41 => ?_) (fun hc41 => absurd hc41 (by decide))
      refine e_aload_n (p := 81) dX12_mustName_80 rfl rfl ?_
      refine e_iconst (v := 1) (p := 82) dX12_mustName_81 (by decide) rfl ?_
      refine e_aload_n (p := 83) dX12_mustName_82 rfl rfl ?_
      refine f_getI (c := 11) (j := 4) (n := 37) (v := nI (tS T n p)) (p := 86) dX12_mustName_83 rfl rfl (by decide) (by decide) (Or.inl rfl) hm.2.2.1.1 rfl ?_
      refine e_callV_v (p := 89) (k' := 0) (a := [.ref 95, .int 1, .int (nI (tS T n p))]) (rr := []) dX12_mustName_86 rfl rfl rfl rfl (rc_of rfl rfl (by decide) ⟨rfl, by decide⟩) (Nat.le_of_ble_eq_true rfl) (Nat.le_of_ble_eq_true rfl) (by decide) (y_wrong hF hm.2.2.2.1) (Or.inl rfl) rfl ?_
      exact e_vretE dX12_mustName_89 rfl rfl
    · skip
      refine e_aload_n (p := 1) dX12_mustName_0 rfl rfl ?_
      refine f_getI (c := 11) (j := 6) (n := 37) (v := 2) (p := 4) dX12_mustName_1 rfl rfl (by decide) (by decide) (Or.inl rfl) (hm.2.2.1.2.2.1.trans (by rw [hk]; rfl)) rfl ?_
      refine e_iconst (v := 2) (p := 5) dX12_mustName_4 (by decide) rfl ?_
      refine e_icmp_ne (t := 80) (p := 8) dX12_mustName_5 (by decide) rfl rfl (fun hc5 => absurd (by decide) hc5) (fun hc5 => ?_)
      refine e_aload_n (p := 9) dX12_mustName_8 rfl rfl ?_
      refine e_ldcS (j := 2) (p := 11) dX12_mustName_9 rfl rfl rfl ?_
      refine e_callV_int (p := 14) (k' := 2) (a := [.ref 95, .ref (sp_S + 2)]) (rr := []) dX12_mustName_11 rfl rfl rfl rfl (rc_of rfl rfl (by decide) ⟨rfl, by decide⟩) (Nat.le_of_ble_eq_true rfl) (Nat.le_of_ble_eq_true rfl) (by decide) (Ev.i (if_neg (by rw [hq]; decide)) (y_isWord (j := 2) hF hm (by decide) (by decide))) (Or.inl rfl) rfl ?_
      refine e_if_ne (t := 80) (p := 17) dX12_mustName_14 (by decide) rfl rfl (fun hc14 => absurd (by decide) hc14) (fun hc14 => ?_)
      refine e_aload_n (p := 18) dX12_mustName_17 rfl rfl ?_
      refine e_ldcS (j := 5) (p := 20) dX12_mustName_18 rfl rfl rfl ?_
      refine e_callV_int (p := 23) (k' := 2) (a := [.ref 95, .ref (sp_S + 5)]) (rr := []) dX12_mustName_20 rfl rfl rfl rfl (rc_of rfl rfl (by decide) ⟨rfl, by decide⟩) (Nat.le_of_ble_eq_true rfl) (Nat.le_of_ble_eq_true rfl) (by decide) (Ev.i (if_neg (by rw [hq]; decide)) (y_isWord (j := 5) hF hm (by decide) (by decide))) (Or.inl rfl) rfl ?_
      refine e_if_ne (t := 80) (p := 26) dX12_mustName_23 (by decide) rfl rfl (fun hc23 => absurd (by decide) hc23) (fun hc23 => ?_)
      refine e_aload_n (p := 27) dX12_mustName_26 rfl rfl ?_
      refine e_ldcS (j := 6) (p := 29) dX12_mustName_27 rfl rfl rfl ?_
      refine e_callV_int (p := 32) (k' := 2) (a := [.ref 95, .ref (sp_S + 6)]) (rr := []) dX12_mustName_29 rfl rfl rfl rfl (rc_of rfl rfl (by decide) ⟨rfl, by decide⟩) (Nat.le_of_ble_eq_true rfl) (Nat.le_of_ble_eq_true rfl) (by decide) (Ev.i (if_neg (by rw [hq]; decide)) (y_isWord (j := 6) hF hm (by decide) (by decide))) (Or.inl rfl) rfl ?_
      refine e_if_ne (t := 80) (p := 35) dX12_mustName_32 (by decide) rfl rfl (fun hc32 => absurd (by decide) hc32) (fun hc32 => ?_)
      refine e_aload_n (p := 36) dX12_mustName_35 rfl rfl ?_
      refine e_ldcS (j := 7) (p := 38) dX12_mustName_36 rfl rfl rfl ?_
      refine e_callV_int (p := 41) (k' := 2) (a := [.ref 95, .ref (sp_S + 7)]) (rr := []) dX12_mustName_38 rfl rfl rfl rfl (rc_of rfl rfl (by decide) ⟨rfl, by decide⟩) (Nat.le_of_ble_eq_true rfl) (Nat.le_of_ble_eq_true rfl) (by decide) (Ev.i (if_neg (by rw [hq]; decide)) (y_isWord (j := 7) hF hm (by decide) (by decide))) (Or.inl rfl) rfl ?_
      refine e_if_ne (t := 80) (p := 44) dX12_mustName_41 (by decide) rfl rfl (fun hc41 => absurd (by decide) hc41) (fun hc41 => ?_)
      refine e_aload_n (p := 45) dX12_mustName_44 rfl rfl ?_
      refine e_ldcS (j := 8) (p := 47) dX12_mustName_45 rfl rfl rfl ?_
      refine e_callV_int (p := 50) (k' := 2) (a := [.ref 95, .ref (sp_S + 8)]) (rr := []) dX12_mustName_47 rfl rfl rfl rfl (rc_of rfl rfl (by decide) ⟨rfl, by decide⟩) (Nat.le_of_ble_eq_true rfl) (Nat.le_of_ble_eq_true rfl) (by decide) (Ev.i (if_pos hq) (y_isWord (j := 8) hF hm (by decide) (by decide))) (Or.inl rfl) rfl ?_
      refine e_if_ne (t := 80) (p := 53) dX12_mustName_50 (by decide) rfl rfl (fun hc50 => ?_) (fun hc50 => absurd hc50 (by decide))
      refine e_aload_n (p := 81) dX12_mustName_80 rfl rfl ?_
      refine e_iconst (v := 1) (p := 82) dX12_mustName_81 (by decide) rfl ?_
      refine e_aload_n (p := 83) dX12_mustName_82 rfl rfl ?_
      refine f_getI (c := 11) (j := 4) (n := 37) (v := nI (tS T n p)) (p := 86) dX12_mustName_83 rfl rfl (by decide) (by decide) (Or.inl rfl) hm.2.2.1.1 rfl ?_
      refine e_callV_v (p := 89) (k' := 0) (a := [.ref 95, .int 1, .int (nI (tS T n p))]) (rr := []) dX12_mustName_86 rfl rfl rfl rfl (rc_of rfl rfl (by decide) ⟨rfl, by decide⟩) (Nat.le_of_ble_eq_true rfl) (Nat.le_of_ble_eq_true rfl) (by decide) (y_wrong hF hm.2.2.2.1) (Or.inl rfl) rfl ?_
      exact e_vretE dX12_mustName_89 rfl rfl
    · skip
      refine e_aload_n (p := 1) dX12_mustName_0 rfl rfl ?_
      refine f_getI (c := 11) (j := 6) (n := 37) (v := 2) (p := 4) dX12_mustName_1 rfl rfl (by decide) (by decide) (Or.inl rfl) (hm.2.2.1.2.2.1.trans (by rw [hk]; rfl)) rfl ?_
      refine e_iconst (v := 2) (p := 5) dX12_mustName_4 (by decide) rfl ?_
      refine e_icmp_ne (t := 80) (p := 8) dX12_mustName_5 (by decide) rfl rfl (fun hc5 => absurd (by decide) hc5) (fun hc5 => ?_)
      refine e_aload_n (p := 9) dX12_mustName_8 rfl rfl ?_
      refine e_ldcS (j := 2) (p := 11) dX12_mustName_9 rfl rfl rfl ?_
      refine e_callV_int (p := 14) (k' := 2) (a := [.ref 95, .ref (sp_S + 2)]) (rr := []) dX12_mustName_11 rfl rfl rfl rfl (rc_of rfl rfl (by decide) ⟨rfl, by decide⟩) (Nat.le_of_ble_eq_true rfl) (Nat.le_of_ble_eq_true rfl) (by decide) (Ev.i (if_neg (by rw [hq]; decide)) (y_isWord (j := 2) hF hm (by decide) (by decide))) (Or.inl rfl) rfl ?_
      refine e_if_ne (t := 80) (p := 17) dX12_mustName_14 (by decide) rfl rfl (fun hc14 => absurd (by decide) hc14) (fun hc14 => ?_)
      refine e_aload_n (p := 18) dX12_mustName_17 rfl rfl ?_
      refine e_ldcS (j := 5) (p := 20) dX12_mustName_18 rfl rfl rfl ?_
      refine e_callV_int (p := 23) (k' := 2) (a := [.ref 95, .ref (sp_S + 5)]) (rr := []) dX12_mustName_20 rfl rfl rfl rfl (rc_of rfl rfl (by decide) ⟨rfl, by decide⟩) (Nat.le_of_ble_eq_true rfl) (Nat.le_of_ble_eq_true rfl) (by decide) (Ev.i (if_neg (by rw [hq]; decide)) (y_isWord (j := 5) hF hm (by decide) (by decide))) (Or.inl rfl) rfl ?_
      refine e_if_ne (t := 80) (p := 26) dX12_mustName_23 (by decide) rfl rfl (fun hc23 => absurd (by decide) hc23) (fun hc23 => ?_)
      refine e_aload_n (p := 27) dX12_mustName_26 rfl rfl ?_
      refine e_ldcS (j := 6) (p := 29) dX12_mustName_27 rfl rfl rfl ?_
      refine e_callV_int (p := 32) (k' := 2) (a := [.ref 95, .ref (sp_S + 6)]) (rr := []) dX12_mustName_29 rfl rfl rfl rfl (rc_of rfl rfl (by decide) ⟨rfl, by decide⟩) (Nat.le_of_ble_eq_true rfl) (Nat.le_of_ble_eq_true rfl) (by decide) (Ev.i (if_neg (by rw [hq]; decide)) (y_isWord (j := 6) hF hm (by decide) (by decide))) (Or.inl rfl) rfl ?_
      refine e_if_ne (t := 80) (p := 35) dX12_mustName_32 (by decide) rfl rfl (fun hc32 => absurd (by decide) hc32) (fun hc32 => ?_)
      refine e_aload_n (p := 36) dX12_mustName_35 rfl rfl ?_
      refine e_ldcS (j := 7) (p := 38) dX12_mustName_36 rfl rfl rfl ?_
      refine e_callV_int (p := 41) (k' := 2) (a := [.ref 95, .ref (sp_S + 7)]) (rr := []) dX12_mustName_38 rfl rfl rfl rfl (rc_of rfl rfl (by decide) ⟨rfl, by decide⟩) (Nat.le_of_ble_eq_true rfl) (Nat.le_of_ble_eq_true rfl) (by decide) (Ev.i (if_neg (by rw [hq]; decide)) (y_isWord (j := 7) hF hm (by decide) (by decide))) (Or.inl rfl) rfl ?_
      refine e_if_ne (t := 80) (p := 44) dX12_mustName_41 (by decide) rfl rfl (fun hc41 => absurd (by decide) hc41) (fun hc41 => ?_)
      refine e_aload_n (p := 45) dX12_mustName_44 rfl rfl ?_
      refine e_ldcS (j := 8) (p := 47) dX12_mustName_45 rfl rfl rfl ?_
      refine e_callV_int (p := 50) (k' := 2) (a := [.ref 95, .ref (sp_S + 8)]) (rr := []) dX12_mustName_47 rfl rfl rfl rfl (rc_of rfl rfl (by decide) ⟨rfl, by decide⟩) (Nat.le_of_ble_eq_true rfl) (Nat.le_of_ble_eq_true rfl) (by decide) (Ev.i (if_neg (by rw [hq]; decide)) (y_isWord (j := 8) hF hm (by decide) (by decide))) (Or.inl rfl) rfl ?_
      refine e_if_ne (t := 80) (p := 53) dX12_mustName_50 (by decide) rfl rfl (fun hc50 => absurd (by decide) hc50) (fun hc50 => ?_)
      refine e_aload_n (p := 54) dX12_mustName_53 rfl rfl ?_
      refine e_ldcS (j := 9) (p := 56) dX12_mustName_54 rfl rfl rfl ?_
      refine e_callV_int (p := 59) (k' := 2) (a := [.ref 95, .ref (sp_S + 9)]) (rr := []) dX12_mustName_56 rfl rfl rfl rfl (rc_of rfl rfl (by decide) ⟨rfl, by decide⟩) (Nat.le_of_ble_eq_true rfl) (Nat.le_of_ble_eq_true rfl) (by decide) (Ev.i (if_pos hq) (y_isWord (j := 9) hF hm (by decide) (by decide))) (Or.inl rfl) rfl ?_
      refine e_if_ne (t := 80) (p := 62) dX12_mustName_59 (by decide) rfl rfl (fun hc59 => ?_) (fun hc59 => absurd hc59 (by decide))
      refine e_aload_n (p := 81) dX12_mustName_80 rfl rfl ?_
      refine e_iconst (v := 1) (p := 82) dX12_mustName_81 (by decide) rfl ?_
      refine e_aload_n (p := 83) dX12_mustName_82 rfl rfl ?_
      refine f_getI (c := 11) (j := 4) (n := 37) (v := nI (tS T n p)) (p := 86) dX12_mustName_83 rfl rfl (by decide) (by decide) (Or.inl rfl) hm.2.2.1.1 rfl ?_
      refine e_callV_v (p := 89) (k' := 0) (a := [.ref 95, .int 1, .int (nI (tS T n p))]) (rr := []) dX12_mustName_86 rfl rfl rfl rfl (rc_of rfl rfl (by decide) ⟨rfl, by decide⟩) (Nat.le_of_ble_eq_true rfl) (Nat.le_of_ble_eq_true rfl) (by decide) (y_wrong hF hm.2.2.2.1) (Or.inl rfl) rfl ?_
      exact e_vretE dX12_mustName_89 rfl rfl
    · skip
      refine e_aload_n (p := 1) dX12_mustName_0 rfl rfl ?_
      refine f_getI (c := 11) (j := 6) (n := 37) (v := 2) (p := 4) dX12_mustName_1 rfl rfl (by decide) (by decide) (Or.inl rfl) (hm.2.2.1.2.2.1.trans (by rw [hk]; rfl)) rfl ?_
      refine e_iconst (v := 2) (p := 5) dX12_mustName_4 (by decide) rfl ?_
      refine e_icmp_ne (t := 80) (p := 8) dX12_mustName_5 (by decide) rfl rfl (fun hc5 => absurd (by decide) hc5) (fun hc5 => ?_)
      refine e_aload_n (p := 9) dX12_mustName_8 rfl rfl ?_
      refine e_ldcS (j := 2) (p := 11) dX12_mustName_9 rfl rfl rfl ?_
      refine e_callV_int (p := 14) (k' := 2) (a := [.ref 95, .ref (sp_S + 2)]) (rr := []) dX12_mustName_11 rfl rfl rfl rfl (rc_of rfl rfl (by decide) ⟨rfl, by decide⟩) (Nat.le_of_ble_eq_true rfl) (Nat.le_of_ble_eq_true rfl) (by decide) (Ev.i (if_neg (by rw [hq]; decide)) (y_isWord (j := 2) hF hm (by decide) (by decide))) (Or.inl rfl) rfl ?_
      refine e_if_ne (t := 80) (p := 17) dX12_mustName_14 (by decide) rfl rfl (fun hc14 => absurd (by decide) hc14) (fun hc14 => ?_)
      refine e_aload_n (p := 18) dX12_mustName_17 rfl rfl ?_
      refine e_ldcS (j := 5) (p := 20) dX12_mustName_18 rfl rfl rfl ?_
      refine e_callV_int (p := 23) (k' := 2) (a := [.ref 95, .ref (sp_S + 5)]) (rr := []) dX12_mustName_20 rfl rfl rfl rfl (rc_of rfl rfl (by decide) ⟨rfl, by decide⟩) (Nat.le_of_ble_eq_true rfl) (Nat.le_of_ble_eq_true rfl) (by decide) (Ev.i (if_neg (by rw [hq]; decide)) (y_isWord (j := 5) hF hm (by decide) (by decide))) (Or.inl rfl) rfl ?_
      refine e_if_ne (t := 80) (p := 26) dX12_mustName_23 (by decide) rfl rfl (fun hc23 => absurd (by decide) hc23) (fun hc23 => ?_)
      refine e_aload_n (p := 27) dX12_mustName_26 rfl rfl ?_
      refine e_ldcS (j := 6) (p := 29) dX12_mustName_27 rfl rfl rfl ?_
      refine e_callV_int (p := 32) (k' := 2) (a := [.ref 95, .ref (sp_S + 6)]) (rr := []) dX12_mustName_29 rfl rfl rfl rfl (rc_of rfl rfl (by decide) ⟨rfl, by decide⟩) (Nat.le_of_ble_eq_true rfl) (Nat.le_of_ble_eq_true rfl) (by decide) (Ev.i (if_neg (by rw [hq]; decide)) (y_isWord (j := 6) hF hm (by decide) (by decide))) (Or.inl rfl) rfl ?_
      refine e_if_ne (t := 80) (p := 35) dX12_mustName_32 (by decide) rfl rfl (fun hc32 => absurd (by decide) hc32) (fun hc32 => ?_)
      refine e_aload_n (p := 36) dX12_mustName_35 rfl rfl ?_
      refine e_ldcS (j := 7) (p := 38) dX12_mustName_36 rfl rfl rfl ?_
      refine e_callV_int (p := 41) (k' := 2) (a := [.ref 95, .ref (sp_S + 7)]) (rr := []) dX12_mustName_38 rfl rfl rfl rfl (rc_of rfl rfl (by decide) ⟨rfl, by decide⟩) (Nat.le_of_ble_eq_true rfl) (Nat.le_of_ble_eq_true rfl) (by decide) (Ev.i (if_neg (by rw [hq]; decide)) (y_isWord (j := 7) hF hm (by decide) (by decide))) (Or.inl rfl) rfl ?_
      refine e_if_ne (t := 80) (p := 44) dX12_mustName_41 (by decide) rfl rfl (fun hc41 => absurd (by decide) hc41) (fun hc41 => ?_)
      refine e_aload_n (p := 45) dX12_mustName_44 rfl rfl ?_
      refine e_ldcS (j := 8) (p := 47) dX12_mustName_45 rfl rfl rfl ?_
      refine e_callV_int (p := 50) (k' := 2) (a := [.ref 95, .ref (sp_S + 8)]) (rr := []) dX12_mustName_47 rfl rfl rfl rfl (rc_of rfl rfl (by decide) ⟨rfl, by decide⟩) (Nat.le_of_ble_eq_true rfl) (Nat.le_of_ble_eq_true rfl) (by decide) (Ev.i (if_neg (by rw [hq]; decide)) (y_isWord (j := 8) hF hm (by decide) (by decide))) (Or.inl rfl) rfl ?_
      refine e_if_ne (t := 80) (p := 53) dX12_mustName_50 (by decide) rfl rfl (fun hc50 => absurd (by decide) hc50) (fun hc50 => ?_)
      refine e_aload_n (p := 54) dX12_mustName_53 rfl rfl ?_
      refine e_ldcS (j := 9) (p := 56) dX12_mustName_54 rfl rfl rfl ?_
      refine e_callV_int (p := 59) (k' := 2) (a := [.ref 95, .ref (sp_S + 9)]) (rr := []) dX12_mustName_56 rfl rfl rfl rfl (rc_of rfl rfl (by decide) ⟨rfl, by decide⟩) (Nat.le_of_ble_eq_true rfl) (Nat.le_of_ble_eq_true rfl) (by decide) (Ev.i (if_neg (by rw [hq]; decide)) (y_isWord (j := 9) hF hm (by decide) (by decide))) (Or.inl rfl) rfl ?_
      refine e_if_ne (t := 80) (p := 62) dX12_mustName_59 (by decide) rfl rfl (fun hc59 => absurd (by decide) hc59) (fun hc59 => ?_)
      refine e_aload_n (p := 63) dX12_mustName_62 rfl rfl ?_
      refine e_ldcS (j := 10) (p := 65) dX12_mustName_63 rfl rfl rfl ?_
      refine e_callV_int (p := 68) (k' := 2) (a := [.ref 95, .ref (sp_S + 10)]) (rr := []) dX12_mustName_65 rfl rfl rfl rfl (rc_of rfl rfl (by decide) ⟨rfl, by decide⟩) (Nat.le_of_ble_eq_true rfl) (Nat.le_of_ble_eq_true rfl) (by decide) (Ev.i (if_pos hq) (y_isWord (j := 10) hF hm (by decide) (by decide))) (Or.inl rfl) rfl ?_
      refine e_if_ne (t := 80) (p := 71) dX12_mustName_68 (by decide) rfl rfl (fun hc68 => ?_) (fun hc68 => absurd hc68 (by decide))
      refine e_aload_n (p := 81) dX12_mustName_80 rfl rfl ?_
      refine e_iconst (v := 1) (p := 82) dX12_mustName_81 (by decide) rfl ?_
      refine e_aload_n (p := 83) dX12_mustName_82 rfl rfl ?_
      refine f_getI (c := 11) (j := 4) (n := 37) (v := nI (tS T n p)) (p := 86) dX12_mustName_83 rfl rfl (by decide) (by decide) (Or.inl rfl) hm.2.2.1.1 rfl ?_
      refine e_callV_v (p := 89) (k' := 0) (a := [.ref 95, .int 1, .int (nI (tS T n p))]) (rr := []) dX12_mustName_86 rfl rfl rfl rfl (rc_of rfl rfl (by decide) ⟨rfl, by decide⟩) (Nat.le_of_ble_eq_true rfl) (Nat.le_of_ble_eq_true rfl) (by decide) (y_wrong hF hm.2.2.2.1) (Or.inl rfl) rfl ?_
      exact e_vretE dX12_mustName_89 rfl rfl
    · skip
      refine e_aload_n (p := 1) dX12_mustName_0 rfl rfl ?_
      refine f_getI (c := 11) (j := 6) (n := 37) (v := 2) (p := 4) dX12_mustName_1 rfl rfl (by decide) (by decide) (Or.inl rfl) (hm.2.2.1.2.2.1.trans (by rw [hk]; rfl)) rfl ?_
      refine e_iconst (v := 2) (p := 5) dX12_mustName_4 (by decide) rfl ?_
      refine e_icmp_ne (t := 80) (p := 8) dX12_mustName_5 (by decide) rfl rfl (fun hc5 => absurd (by decide) hc5) (fun hc5 => ?_)
      refine e_aload_n (p := 9) dX12_mustName_8 rfl rfl ?_
      refine e_ldcS (j := 2) (p := 11) dX12_mustName_9 rfl rfl rfl ?_
      refine e_callV_int (p := 14) (k' := 2) (a := [.ref 95, .ref (sp_S + 2)]) (rr := []) dX12_mustName_11 rfl rfl rfl rfl (rc_of rfl rfl (by decide) ⟨rfl, by decide⟩) (Nat.le_of_ble_eq_true rfl) (Nat.le_of_ble_eq_true rfl) (by decide) (Ev.i (if_neg (by rw [hq]; decide)) (y_isWord (j := 2) hF hm (by decide) (by decide))) (Or.inl rfl) rfl ?_
      refine e_if_ne (t := 80) (p := 17) dX12_mustName_14 (by decide) rfl rfl (fun hc14 => absurd (by decide) hc14) (fun hc14 => ?_)
      refine e_aload_n (p := 18) dX12_mustName_17 rfl rfl ?_
      refine e_ldcS (j := 5) (p := 20) dX12_mustName_18 rfl rfl rfl ?_
      refine e_callV_int (p := 23) (k' := 2) (a := [.ref 95, .ref (sp_S + 5)]) (rr := []) dX12_mustName_20 rfl rfl rfl rfl (rc_of rfl rfl (by decide) ⟨rfl, by decide⟩) (Nat.le_of_ble_eq_true rfl) (Nat.le_of_ble_eq_true rfl) (by decide) (Ev.i (if_neg (by rw [hq]; decide)) (y_isWord (j := 5) hF hm (by decide) (by decide))) (Or.inl rfl) rfl ?_
      refine e_if_ne (t := 80) (p := 26) dX12_mustName_23 (by decide) rfl rfl (fun hc23 => absurd (by decide) hc23) (fun hc23 => ?_)
      refine e_aload_n (p := 27) dX12_mustName_26 rfl rfl ?_
      refine e_ldcS (j := 6) (p := 29) dX12_mustName_27 rfl rfl rfl ?_
      refine e_callV_int (p := 32) (k' := 2) (a := [.ref 95, .ref (sp_S + 6)]) (rr := []) dX12_mustName_29 rfl rfl rfl rfl (rc_of rfl rfl (by decide) ⟨rfl, by decide⟩) (Nat.le_of_ble_eq_true rfl) (Nat.le_of_ble_eq_true rfl) (by decide) (Ev.i (if_neg (by rw [hq]; decide)) (y_isWord (j := 6) hF hm (by decide) (by decide))) (Or.inl rfl) rfl ?_
      refine e_if_ne (t := 80) (p := 35) dX12_mustName_32 (by decide) rfl rfl (fun hc32 => absurd (by decide) hc32) (fun hc32 => ?_)
      refine e_aload_n (p := 36) dX12_mustName_35 rfl rfl ?_
      refine e_ldcS (j := 7) (p := 38) dX12_mustName_36 rfl rfl rfl ?_
      refine e_callV_int (p := 41) (k' := 2) (a := [.ref 95, .ref (sp_S + 7)]) (rr := []) dX12_mustName_38 rfl rfl rfl rfl (rc_of rfl rfl (by decide) ⟨rfl, by decide⟩) (Nat.le_of_ble_eq_true rfl) (Nat.le_of_ble_eq_true rfl) (by decide) (Ev.i (if_neg (by rw [hq]; decide)) (y_isWord (j := 7) hF hm (by decide) (by decide))) (Or.inl rfl) rfl ?_
      refine e_if_ne (t := 80) (p := 44) dX12_mustName_41 (by decide) rfl rfl (fun hc41 => absurd (by decide) hc41) (fun hc41 => ?_)
      refine e_aload_n (p := 45) dX12_mustName_44 rfl rfl ?_
      refine e_ldcS (j := 8) (p := 47) dX12_mustName_45 rfl rfl rfl ?_
      refine e_callV_int (p := 50) (k' := 2) (a := [.ref 95, .ref (sp_S + 8)]) (rr := []) dX12_mustName_47 rfl rfl rfl rfl (rc_of rfl rfl (by decide) ⟨rfl, by decide⟩) (Nat.le_of_ble_eq_true rfl) (Nat.le_of_ble_eq_true rfl) (by decide) (Ev.i (if_neg (by rw [hq]; decide)) (y_isWord (j := 8) hF hm (by decide) (by decide))) (Or.inl rfl) rfl ?_
      refine e_if_ne (t := 80) (p := 53) dX12_mustName_50 (by decide) rfl rfl (fun hc50 => absurd (by decide) hc50) (fun hc50 => ?_)
      refine e_aload_n (p := 54) dX12_mustName_53 rfl rfl ?_
      refine e_ldcS (j := 9) (p := 56) dX12_mustName_54 rfl rfl rfl ?_
      refine e_callV_int (p := 59) (k' := 2) (a := [.ref 95, .ref (sp_S + 9)]) (rr := []) dX12_mustName_56 rfl rfl rfl rfl (rc_of rfl rfl (by decide) ⟨rfl, by decide⟩) (Nat.le_of_ble_eq_true rfl) (Nat.le_of_ble_eq_true rfl) (by decide) (Ev.i (if_neg (by rw [hq]; decide)) (y_isWord (j := 9) hF hm (by decide) (by decide))) (Or.inl rfl) rfl ?_
      refine e_if_ne (t := 80) (p := 62) dX12_mustName_59 (by decide) rfl rfl (fun hc59 => absurd (by decide) hc59) (fun hc59 => ?_)
      refine e_aload_n (p := 63) dX12_mustName_62 rfl rfl ?_
      refine e_ldcS (j := 10) (p := 65) dX12_mustName_63 rfl rfl rfl ?_
      refine e_callV_int (p := 68) (k' := 2) (a := [.ref 95, .ref (sp_S + 10)]) (rr := []) dX12_mustName_65 rfl rfl rfl rfl (rc_of rfl rfl (by decide) ⟨rfl, by decide⟩) (Nat.le_of_ble_eq_true rfl) (Nat.le_of_ble_eq_true rfl) (by decide) (Ev.i (if_neg (by rw [hq]; decide)) (y_isWord (j := 10) hF hm (by decide) (by decide))) (Or.inl rfl) rfl ?_
      refine e_if_ne (t := 80) (p := 71) dX12_mustName_68 (by decide) rfl rfl (fun hc68 => absurd (by decide) hc68) (fun hc68 => ?_)
      refine e_aload_n (p := 72) dX12_mustName_71 rfl rfl ?_
      refine e_ldcS (j := 11) (p := 74) dX12_mustName_72 rfl rfl rfl ?_
      refine e_callV_int (p := 77) (k' := 2) (a := [.ref 95, .ref (sp_S + 11)]) (rr := []) dX12_mustName_74 rfl rfl rfl rfl (rc_of rfl rfl (by decide) ⟨rfl, by decide⟩) (Nat.le_of_ble_eq_true rfl) (Nat.le_of_ble_eq_true rfl) (by decide) (Ev.i (if_pos hq) (y_isWord (j := 11) hF hm (by decide) (by decide))) (Or.inl rfl) rfl ?_
      refine e_if_eq (t := 89) (p := 80) dX12_mustName_77 (by decide) rfl rfl (fun hc77 => absurd hc77 (by decide)) (fun hc77 => ?_)
      refine e_aload_n (p := 81) dX12_mustName_80 rfl rfl ?_
      refine e_iconst (v := 1) (p := 82) dX12_mustName_81 (by decide) rfl ?_
      refine e_aload_n (p := 83) dX12_mustName_82 rfl rfl ?_
      refine f_getI (c := 11) (j := 4) (n := 37) (v := nI (tS T n p)) (p := 86) dX12_mustName_83 rfl rfl (by decide) (by decide) (Or.inl rfl) hm.2.2.1.1 rfl ?_
      refine e_callV_v (p := 89) (k' := 0) (a := [.ref 95, .int 1, .int (nI (tS T n p))]) (rr := []) dX12_mustName_86 rfl rfl rfl rfl (rc_of rfl rfl (by decide) ⟨rfl, by decide⟩) (Nat.le_of_ble_eq_true rfl) (Nat.le_of_ble_eq_true rfl) (by decide) (y_wrong hF hm.2.2.2.1) (Or.inl rfl) rfl ?_
      exact e_vretE dX12_mustName_89 rfl rfl
    · skip
      refine e_aload_n (p := 1) dX12_mustName_0 rfl rfl ?_
      refine f_getI (c := 11) (j := 6) (n := 37) (v := 2) (p := 4) dX12_mustName_1 rfl rfl (by decide) (by decide) (Or.inl rfl) (hm.2.2.1.2.2.1.trans (by rw [hk]; rfl)) rfl ?_
      refine e_iconst (v := 2) (p := 5) dX12_mustName_4 (by decide) rfl ?_
      refine e_icmp_ne (t := 80) (p := 8) dX12_mustName_5 (by decide) rfl rfl (fun hc5 => absurd (by decide) hc5) (fun hc5 => ?_)
      refine e_aload_n (p := 9) dX12_mustName_8 rfl rfl ?_
      refine e_ldcS (j := 2) (p := 11) dX12_mustName_9 rfl rfl rfl ?_
      refine e_callV_int (p := 14) (k' := 2) (a := [.ref 95, .ref (sp_S + 2)]) (rr := []) dX12_mustName_11 rfl rfl rfl rfl (rc_of rfl rfl (by decide) ⟨rfl, by decide⟩) (Nat.le_of_ble_eq_true rfl) (Nat.le_of_ble_eq_true rfl) (by decide) (Ev.i (if_pos hq) (y_isWord (j := 2) hF hm (by decide) (by decide))) (Or.inl rfl) rfl ?_
      refine e_if_ne (t := 80) (p := 17) dX12_mustName_14 (by decide) rfl rfl (fun hc14 => ?_) (fun hc14 => absurd hc14 (by decide))
      refine e_aload_n (p := 81) dX12_mustName_80 rfl rfl ?_
      refine e_iconst (v := 1) (p := 82) dX12_mustName_81 (by decide) rfl ?_
      refine e_aload_n (p := 83) dX12_mustName_82 rfl rfl ?_
      refine f_getI (c := 11) (j := 4) (n := 37) (v := nI (tS T n p)) (p := 86) dX12_mustName_83 rfl rfl (by decide) (by decide) (Or.inl rfl) hm.2.2.1.1 rfl ?_
      refine e_callV_v (p := 89) (k' := 0) (a := [.ref 95, .int 1, .int (nI (tS T n p))]) (rr := []) dX12_mustName_86 rfl rfl rfl rfl (rc_of rfl rfl (by decide) ⟨rfl, by decide⟩) (Nat.le_of_ble_eq_true rfl) (Nat.le_of_ble_eq_true rfl) (by decide) (y_wrong hF hm.2.2.2.1) (Or.inl rfl) rfl ?_
      exact e_vretE dX12_mustName_89 rfl rfl
  · skip
    refine e_aload_n (p := 1) dX12_mustName_0 rfl rfl ?_
    refine f_getI (c := 11) (j := 6) (n := 37) (v := tkM (tK T n p)) (p := 4) dX12_mustName_1 rfl rfl (by decide) (by decide) (Or.inl rfl) hm.2.2.1.2.2.1 rfl ?_
    refine e_iconst (v := 2) (p := 5) dX12_mustName_4 (by decide) rfl ?_
    refine e_icmp_ne (t := 80) (p := 8) dX12_mustName_5 (by decide) rfl rfl (fun hc5 => ?_) (fun hc5 => absurd hc5 (tk_ne hk))
    refine e_aload_n (p := 81) dX12_mustName_80 rfl rfl ?_
    refine e_iconst (v := 1) (p := 82) dX12_mustName_81 (by decide) rfl ?_
    refine e_aload_n (p := 83) dX12_mustName_82 rfl rfl ?_
    refine f_getI (c := 11) (j := 4) (n := 37) (v := nI (tS T n p)) (p := 86) dX12_mustName_83 rfl rfl (by decide) (by decide) (Or.inl rfl) hm.2.2.1.1 rfl ?_
    refine e_callV_v (p := 89) (k' := 0) (a := [.ref 95, .int 1, .int (nI (tS T n p))]) (rr := []) dX12_mustName_86 rfl rfl rfl rfl (rc_of rfl rfl (by decide) ⟨rfl, by decide⟩) (Nat.le_of_ble_eq_true rfl) (Nat.le_of_ble_eq_true rfl) (by decide) (y_wrong hF hm.2.2.2.1) (Or.inl rfl) rfl ?_
    exact e_vretE dX12_mustName_89 rfl rfl
