/-! The reference's public questions. -/
theorem hpq {S : List (Nat × Nat) × Nat × Nat} {X : Nat → Nat → Int32} {J : Nat → Nat → Int64} {F : Nat → Nat → Option Nat} {k j : Nat} {a b c : Int32} (h : a = b) : ((S, hp_u (hp_u X k j c) k j a, J, F) : hp_H) = (S, hp_u X k j b, J, F) := by
  subst h
  have : hp_u (hp_u X k j c) k j a = hp_u X k j a := by
    funext x y
    unfold hp_u
    by_cases h1 : x = k
    · by_cases h2 : y = j
      · simp [h1, h2]
      · simp [h1, h2]
    · simp [h1]
  rw [this]
theorem Ev.i {k : Nat} {M : ev_M} {pc : Nat} {ls st : List Value} {h h' : hp_H} {v w : Int32} (e : v = w) (q : Ev k M pc ls st h (some (.int v)) h') : Ev k M pc ls st h (some (.int w)) h' := e ▸ q
theorem Ev.l {k : Nat} {M : ev_M} {pc : Nat} {ls st : List Value} {h h' : hp_H} {v w : Int64} (e : v = w) (q : Ev k M pc ls st h (some (.long v)) h') : Ev k M pc ls st h (some (.long w)) h' := e ▸ q
theorem wh_ok {l : Nat} (h : l ≤ 30) : whS 1 (nI l) = 0 := nu_ok (a := 0) (b := 30) (n := l) (by omega) h (by omega)
theorem in_ok {a b n : Nat} (h1 : a ≤ n) (h2 : n ≤ b) (hb : b < 2 ^ 31) : inS (nI n) (nI a) (nI b) = 1 := by
  unfold inS
  rw [if_neg (nI_nlt h1 (by omega)), if_neg (nI_nlt h2 (by omega))]
set_option maxRecDepth 10000 in
theorem y_good {I : Nat → Nat → Int32} {J : Nat → Nat → Int64} {F : Nat → Nat → Option Nat} {nc ns : Nat}  : Ev 0 mX12_good 0 [.ref 95] [] ((SH, nc, ns), I, J, F) (none) ((SH, nc, ns), hp_u (hp_u I 95 0 0) 95 11 0, J, F) := by
  refine e_aload_n (p := 1) dX12_good_0 rfl rfl ?_
  refine e_iconst (v := 0) (p := 2) dX12_good_1 (by decide) rfl ?_
  refine e_putI (c := 11) (j := 0) (n := 37)  (p := 5) dX12_good_2 rfl rfl (by decide) (by decide) rfl rfl rfl ?_
  refine e_aload_n (p := 6) dX12_good_5 rfl rfl ?_
  refine e_iconst (v := 0) (p := 7) dX12_good_6 (by decide) rfl ?_
  refine e_putI (c := 11) (j := 11) (n := 37)  (p := 10) dX12_good_7 rfl rfl (by decide) (by decide) rfl rfl rfl ?_
  exact e_vretE dX12_good_10 rfl rfl
set_option maxRecDepth 10000 in
theorem y_no {I : Nat → Nat → Int32} {J : Nat → Nat → Int64} {F : Nat → Nat → Option Nat} {nc ns : Nat} {v : Int32} : Ev 0 mX12_no 0 [.ref 95, .int v] [] ((SH, nc, ns), I, J, F) (some (.int (-1))) ((SH, nc, ns), hp_u I 95 11 v, J, F) := by
  refine e_aload_n (p := 1) dX12_no_0 rfl rfl ?_
  refine e_iload_n (p := 2) dX12_no_1 rfl rfl ?_
  refine e_putI (c := 11) (j := 11) (n := 37)  (p := 5) dX12_no_2 rfl rfl (by decide) (by decide) rfl rfl rfl ?_
  refine e_iconst (v := -1) (p := 6) dX12_no_5 (by decide) rfl ?_
  exact e_iretE dX12_no_6 rfl rfl (by decide) ⟨rfl, rfl⟩
set_option maxRecDepth 10000 in
theorem y_isNot {I : Nat → Nat → Int32} {J : Nat → Nat → Int64} {F : Nat → Nat → Option Nat} {nc ns : Nat} {v : Int32} : Ev 0 mX12_isNot 0 [.ref 95, .int v] [] ((SH, nc, ns), I, J, F) (some (.int 0)) ((SH, nc, ns), hp_u I 95 11 v, J, F) := by
  refine e_aload_n (p := 1) dX12_isNot_0 rfl rfl ?_
  refine e_iload_n (p := 2) dX12_isNot_1 rfl rfl ?_
  refine e_putI (c := 11) (j := 11) (n := 37)  (p := 5) dX12_isNot_2 rfl rfl (by decide) (by decide) rfl rfl rfl ?_
  refine e_iconst (v := 0) (p := 6) dX12_isNot_5 (by decide) rfl ?_
  exact e_iretE dX12_isNot_6 rfl (by decide) (by decide) ⟨rfl, rfl⟩
set_option maxRecDepth 10000 in
theorem q_harbour_no {I : Nat → Nat → Int32} {J : Nat → Nat → Int64} {F : Nat → Nat → Option Nat} {nc ns : Nat} {D : oD} (hF : RFok F) (hM : oM I 98 D) (hW : WF D) (hO : I 95 14 = tol D) {h x : Int32} (ht : ¬ (if ixB h (dN D 0) = 0 then 1 else if inS x 0 3 = 0 then 1 else 0) = 0) : Ev 2 mX12_harbour 0 [.ref 95, .int h, .int x] [] ((SH, nc, ns), I, J, F) (some (.int (-1))) ((SH, nc, ns), hp_u (hp_u I 95 0 0) 95 11 (if ixB h (dN D 0) = 0 then 1 else if inS x 0 3 = 0 then 1 else 0), J, F) := by
  have hD := hW.c
  have hH := hW.h
  have hT := hW.t
  have bt := hT.2
  obtain ⟨b0, b1, b2, b3, b4, b5, b6⟩ := hD.2
  refine e_aload_n (p := 1) dX12_harbour_0 rfl rfl ?_
  refine e_callV_v (p := 4) (k' := 0) (a := [.ref 95]) (rr := []) dX12_harbour_1 rfl rfl rfl rfl (rc_of rfl rfl (by decide) ⟨rfl, by decide⟩) (Nat.le_of_ble_eq_true rfl) (Nat.le_of_ble_eq_true rfl) (by decide) y_good (Or.inl rfl) rfl ?_
  refine e_aload_n (p := 5) dX12_harbour_4 rfl rfl ?_
  refine e_iload_n (p := 6) dX12_harbour_5 rfl rfl ?_
  refine e_callV_int (p := 9) (k' := 1) (a := [.ref 95, .int h]) (rr := []) dX12_harbour_6 rfl rfl rfl rfl (rc_of rfl rfl (by decide) ⟨rfl, by decide⟩) (Nat.le_of_ble_eq_true rfl) (Nat.le_of_ble_eq_true rfl) (by decide) (y_isHarbour hF (oM_u (oM_u hM (by decide)) (by decide)) hW (I_u (I_u hO (by decide)) (by decide)) ) (Or.inl rfl) rfl ?_
  refine e_if_eq (t := 21) (p := 12) dX12_harbour_9 (by decide) rfl rfl (fun hc9 => ?_) (fun hc9 => ?_)
  · skip
    refine e_aload_n (p := 22) dX12_harbour_21 rfl rfl ?_
    refine e_iconst (v := 1) (p := 23) dX12_harbour_22 (by decide) rfl ?_
    refine e_callV_int (p := 26) (k' := 0) (a := [.ref 95, .int 1]) (rr := []) dX12_harbour_23 rfl rfl rfl rfl (rc_of rfl rfl (by decide) ⟨rfl, by decide⟩) (Nat.le_of_ble_eq_true rfl) (Nat.le_of_ble_eq_true rfl) (by decide) y_no (Or.inl rfl) rfl ?_
    exact e_iretE dX12_harbour_26 rfl rfl (by decide) ⟨rfl, hpq (by first | (simp only [hc9, ↓reduceIte]; done) | (exfalso; simp_all; done))⟩
  · skip
    refine e_iload_n (p := 13) dX12_harbour_12 rfl rfl ?_
    refine e_iconst (v := 0) (p := 14) dX12_harbour_13 (by decide) rfl ?_
    refine e_iconst (v := 3) (p := 15) dX12_harbour_14 (by decide) rfl ?_
    refine e_callS_int (p := 18) (k' := 0) (a := [.int x, .int 0, .int 3]) (rr := []) dX12_harbour_15 rfl rfl rfl rfl rfl (rc_st rfl) (Nat.le_of_ble_eq_true rfl) (Nat.le_of_ble_eq_true rfl) (by decide) (y_in  ) (Or.inl rfl) rfl ?_
    refine e_if_ne (t := 27) (p := 21) dX12_harbour_18 (by decide) rfl rfl (fun hc18 => ?_) (fun hc18 => ?_)
    · skip
      first | (refine absurd ?_ ht; simp only [hc9, hc18, ↓reduceIte]; done) | (exfalso; simp_all; done)
    · skip
      refine e_aload_n (p := 22) dX12_harbour_21 rfl rfl ?_
      refine e_iconst (v := 1) (p := 23) dX12_harbour_22 (by decide) rfl ?_
      refine e_callV_int (p := 26) (k' := 0) (a := [.ref 95, .int 1]) (rr := []) dX12_harbour_23 rfl rfl rfl rfl (rc_of rfl rfl (by decide) ⟨rfl, by decide⟩) (Nat.le_of_ble_eq_true rfl) (Nat.le_of_ble_eq_true rfl) (by decide) y_no (Or.inl rfl) rfl ?_
      exact e_iretE dX12_harbour_26 rfl rfl (by decide) ⟨rfl, hpq (by first | (simp only [hc9, hc18, ↓reduceIte]; done) | (exfalso; simp_all; done))⟩
set_option maxRecDepth 10000 in
theorem q_harbour_ok0 {I : Nat → Nat → Int32} {J : Nat → Nat → Int64} {F : Nat → Nat → Option Nat} {nc ns : Nat} {D : oD} (hF : RFok F) (hM : oM I 98 D) (hW : WF D) (hO : I 95 14 = tol D) {h : Nat} (hh : h < dN D 0)  : Ev 2 mX12_harbour 0 [.ref 95, .int (nI h), .int 0] [] ((SH, nc, ns), I, J, F) (some (.int (D 3 h))) ((SH, nc, ns), hp_u (hp_u I 95 0 0) 95 11 0, J, F) := by
  have hD := hW.c
  have hH := hW.h
  have hT := hW.t
  have bt := hT.2
  obtain ⟨b0, b1, b2, b3, b4, b5, b6⟩ := hD.2
  refine e_aload_n (p := 1) dX12_harbour_0 rfl rfl ?_
  refine e_callV_v (p := 4) (k' := 0) (a := [.ref 95]) (rr := []) dX12_harbour_1 rfl rfl rfl rfl (rc_of rfl rfl (by decide) ⟨rfl, by decide⟩) (Nat.le_of_ble_eq_true rfl) (Nat.le_of_ble_eq_true rfl) (by decide) y_good (Or.inl rfl) rfl ?_
  refine e_aload_n (p := 5) dX12_harbour_4 rfl rfl ?_
  refine e_iload_n (p := 6) dX12_harbour_5 rfl rfl ?_
  refine e_callV_int (p := 9) (k' := 1) (a := [.ref 95, .int (nI h)]) (rr := []) dX12_harbour_6 rfl rfl rfl rfl (rc_of rfl rfl (by decide) ⟨rfl, by decide⟩) (Nat.le_of_ble_eq_true rfl) (Nat.le_of_ble_eq_true rfl) (by decide) (Ev.i (ixB_ok (by omega) (by omega)) (y_isHarbour hF (oM_u (oM_u hM (by decide)) (by decide)) hW (I_u (I_u hO (by decide)) (by decide)) )) (Or.inl rfl) rfl ?_
  refine e_if_eq (t := 21) (p := 12) dX12_harbour_9 (by decide) rfl rfl (fun hc9 => absurd hc9 (by decide)) (fun hc9 => ?_)
  refine e_iload_n (p := 13) dX12_harbour_12 rfl rfl ?_
  refine e_iconst (v := 0) (p := 14) dX12_harbour_13 (by decide) rfl ?_
  refine e_iconst (v := 3) (p := 15) dX12_harbour_14 (by decide) rfl ?_
  refine e_callS_int (p := 18) (k' := 0) (a := [.int 0, .int 0, .int 3]) (rr := []) dX12_harbour_15 rfl rfl rfl rfl rfl (rc_st rfl) (Nat.le_of_ble_eq_true rfl) (Nat.le_of_ble_eq_true rfl) (by decide) (Ev.i (in_ok (a := 0) (b := 3) (n := 0) (by omega) (by omega) (by omega)) (y_in  )) (Or.inl rfl) rfl ?_
  refine e_if_ne (t := 27) (p := 21) dX12_harbour_18 (by decide) rfl rfl (fun hc18 => ?_) (fun hc18 => absurd hc18 (by decide))
  refine e_iload_n (p := 28) dX12_harbour_27 rfl rfl ?_
  refine e_iconst (v := 3) (p := 29) dX12_harbour_28 (by decide) rfl ?_
  refine e_icmp_ge (t := 41) (p := 32) dX12_harbour_29 (by decide) rfl rfl (fun hc29 => absurd hc29 (by decide)) (fun hc29 => ?_)
  refine e_aload_n (p := 33) dX12_harbour_32 rfl rfl ?_
  refine e_iload_n (p := 34) dX12_harbour_33 rfl rfl ?_
  refine e_iload_n (p := 35) dX12_harbour_34 rfl rfl ?_
  refine e_callV_int (p := 38) (k' := 0) (a := [.ref 95, .int (nI h), .int 0]) (rr := []) dX12_harbour_35 rfl rfl rfl rfl (rc_of rfl rfl (by decide) ⟨rfl, by decide⟩) (Nat.le_of_ble_eq_true rfl) (Nat.le_of_ble_eq_true rfl) (by decide) (y_ofHarbour (x := h) (k := 0) hF (m3 (oM_u (oM_u hM (by decide)) (by decide)) (by omega)) (by omega) (by omega)) (Or.inl rfl) rfl ?_
  refine e_goto (p := 46) dX12_harbour_38 (by decide) rfl ?_
  exact e_iretE dX12_harbour_46 rfl rfl (by decide) ⟨rfl, rfl⟩
set_option maxRecDepth 10000 in
theorem q_harbour_ok1 {I : Nat → Nat → Int32} {J : Nat → Nat → Int64} {F : Nat → Nat → Option Nat} {nc ns : Nat} {D : oD} (hF : RFok F) (hM : oM I 98 D) (hW : WF D) (hO : I 95 14 = tol D) {h : Nat} (hh : h < dN D 0)  : Ev 2 mX12_harbour 0 [.ref 95, .int (nI h), .int 1] [] ((SH, nc, ns), I, J, F) (some (.int (D 4 h))) ((SH, nc, ns), hp_u (hp_u I 95 0 0) 95 11 0, J, F) := by
  have hD := hW.c
  have hH := hW.h
  have hT := hW.t
  have bt := hT.2
  obtain ⟨b0, b1, b2, b3, b4, b5, b6⟩ := hD.2
  refine e_aload_n (p := 1) dX12_harbour_0 rfl rfl ?_
  refine e_callV_v (p := 4) (k' := 0) (a := [.ref 95]) (rr := []) dX12_harbour_1 rfl rfl rfl rfl (rc_of rfl rfl (by decide) ⟨rfl, by decide⟩) (Nat.le_of_ble_eq_true rfl) (Nat.le_of_ble_eq_true rfl) (by decide) y_good (Or.inl rfl) rfl ?_
  refine e_aload_n (p := 5) dX12_harbour_4 rfl rfl ?_
  refine e_iload_n (p := 6) dX12_harbour_5 rfl rfl ?_
  refine e_callV_int (p := 9) (k' := 1) (a := [.ref 95, .int (nI h)]) (rr := []) dX12_harbour_6 rfl rfl rfl rfl (rc_of rfl rfl (by decide) ⟨rfl, by decide⟩) (Nat.le_of_ble_eq_true rfl) (Nat.le_of_ble_eq_true rfl) (by decide) (Ev.i (ixB_ok (by omega) (by omega)) (y_isHarbour hF (oM_u (oM_u hM (by decide)) (by decide)) hW (I_u (I_u hO (by decide)) (by decide)) )) (Or.inl rfl) rfl ?_
  refine e_if_eq (t := 21) (p := 12) dX12_harbour_9 (by decide) rfl rfl (fun hc9 => absurd hc9 (by decide)) (fun hc9 => ?_)
  refine e_iload_n (p := 13) dX12_harbour_12 rfl rfl ?_
  refine e_iconst (v := 0) (p := 14) dX12_harbour_13 (by decide) rfl ?_
  refine e_iconst (v := 3) (p := 15) dX12_harbour_14 (by decide) rfl ?_
  refine e_callS_int (p := 18) (k' := 0) (a := [.int 1, .int 0, .int 3]) (rr := []) dX12_harbour_15 rfl rfl rfl rfl rfl (rc_st rfl) (Nat.le_of_ble_eq_true rfl) (Nat.le_of_ble_eq_true rfl) (by decide) (Ev.i (in_ok (a := 0) (b := 3) (n := 1) (by omega) (by omega) (by omega)) (y_in  )) (Or.inl rfl) rfl ?_
  refine e_if_ne (t := 27) (p := 21) dX12_harbour_18 (by decide) rfl rfl (fun hc18 => ?_) (fun hc18 => absurd hc18 (by decide))
  refine e_iload_n (p := 28) dX12_harbour_27 rfl rfl ?_
  refine e_iconst (v := 3) (p := 29) dX12_harbour_28 (by decide) rfl ?_
  refine e_icmp_ge (t := 41) (p := 32) dX12_harbour_29 (by decide) rfl rfl (fun hc29 => absurd hc29 (by decide)) (fun hc29 => ?_)
  refine e_aload_n (p := 33) dX12_harbour_32 rfl rfl ?_
  refine e_iload_n (p := 34) dX12_harbour_33 rfl rfl ?_
  refine e_iload_n (p := 35) dX12_harbour_34 rfl rfl ?_
  refine e_callV_int (p := 38) (k' := 0) (a := [.ref 95, .int (nI h), .int 1]) (rr := []) dX12_harbour_35 rfl rfl rfl rfl (rc_of rfl rfl (by decide) ⟨rfl, by decide⟩) (Nat.le_of_ble_eq_true rfl) (Nat.le_of_ble_eq_true rfl) (by decide) (y_ofHarbour (x := h) (k := 1) hF (m4 (oM_u (oM_u hM (by decide)) (by decide)) (by omega)) (by omega) (by omega)) (Or.inl rfl) rfl ?_
  refine e_goto (p := 46) dX12_harbour_38 (by decide) rfl ?_
  exact e_iretE dX12_harbour_46 rfl rfl (by decide) ⟨rfl, rfl⟩
set_option maxRecDepth 10000 in
theorem q_harbour_ok2 {I : Nat → Nat → Int32} {J : Nat → Nat → Int64} {F : Nat → Nat → Option Nat} {nc ns : Nat} {D : oD} (hF : RFok F) (hM : oM I 98 D) (hW : WF D) (hO : I 95 14 = tol D) {h : Nat} (hh : h < dN D 0)  : Ev 2 mX12_harbour 0 [.ref 95, .int (nI h), .int 2] [] ((SH, nc, ns), I, J, F) (some (.int (D 5 h))) ((SH, nc, ns), hp_u (hp_u I 95 0 0) 95 11 0, J, F) := by
  have hD := hW.c
  have hH := hW.h
  have hT := hW.t
  have bt := hT.2
  obtain ⟨b0, b1, b2, b3, b4, b5, b6⟩ := hD.2
  refine e_aload_n (p := 1) dX12_harbour_0 rfl rfl ?_
  refine e_callV_v (p := 4) (k' := 0) (a := [.ref 95]) (rr := []) dX12_harbour_1 rfl rfl rfl rfl (rc_of rfl rfl (by decide) ⟨rfl, by decide⟩) (Nat.le_of_ble_eq_true rfl) (Nat.le_of_ble_eq_true rfl) (by decide) y_good (Or.inl rfl) rfl ?_
  refine e_aload_n (p := 5) dX12_harbour_4 rfl rfl ?_
  refine e_iload_n (p := 6) dX12_harbour_5 rfl rfl ?_
  refine e_callV_int (p := 9) (k' := 1) (a := [.ref 95, .int (nI h)]) (rr := []) dX12_harbour_6 rfl rfl rfl rfl (rc_of rfl rfl (by decide) ⟨rfl, by decide⟩) (Nat.le_of_ble_eq_true rfl) (Nat.le_of_ble_eq_true rfl) (by decide) (Ev.i (ixB_ok (by omega) (by omega)) (y_isHarbour hF (oM_u (oM_u hM (by decide)) (by decide)) hW (I_u (I_u hO (by decide)) (by decide)) )) (Or.inl rfl) rfl ?_
  refine e_if_eq (t := 21) (p := 12) dX12_harbour_9 (by decide) rfl rfl (fun hc9 => absurd hc9 (by decide)) (fun hc9 => ?_)
  refine e_iload_n (p := 13) dX12_harbour_12 rfl rfl ?_
  refine e_iconst (v := 0) (p := 14) dX12_harbour_13 (by decide) rfl ?_
  refine e_iconst (v := 3) (p := 15) dX12_harbour_14 (by decide) rfl ?_
  refine e_callS_int (p := 18) (k' := 0) (a := [.int 2, .int 0, .int 3]) (rr := []) dX12_harbour_15 rfl rfl rfl rfl rfl (rc_st rfl) (Nat.le_of_ble_eq_true rfl) (Nat.le_of_ble_eq_true rfl) (by decide) (Ev.i (in_ok (a := 0) (b := 3) (n := 2) (by omega) (by omega) (by omega)) (y_in  )) (Or.inl rfl) rfl ?_
  refine e_if_ne (t := 27) (p := 21) dX12_harbour_18 (by decide) rfl rfl (fun hc18 => ?_) (fun hc18 => absurd hc18 (by decide))
  refine e_iload_n (p := 28) dX12_harbour_27 rfl rfl ?_
  refine e_iconst (v := 3) (p := 29) dX12_harbour_28 (by decide) rfl ?_
  refine e_icmp_ge (t := 41) (p := 32) dX12_harbour_29 (by decide) rfl rfl (fun hc29 => absurd hc29 (by decide)) (fun hc29 => ?_)
  refine e_aload_n (p := 33) dX12_harbour_32 rfl rfl ?_
  refine e_iload_n (p := 34) dX12_harbour_33 rfl rfl ?_
  refine e_iload_n (p := 35) dX12_harbour_34 rfl rfl ?_
  refine e_callV_int (p := 38) (k' := 0) (a := [.ref 95, .int (nI h), .int 2]) (rr := []) dX12_harbour_35 rfl rfl rfl rfl (rc_of rfl rfl (by decide) ⟨rfl, by decide⟩) (Nat.le_of_ble_eq_true rfl) (Nat.le_of_ble_eq_true rfl) (by decide) (y_ofHarbour (x := h) (k := 2) hF (m5 (oM_u (oM_u hM (by decide)) (by decide)) (by omega)) (by omega) (by omega)) (Or.inl rfl) rfl ?_
  refine e_goto (p := 46) dX12_harbour_38 (by decide) rfl ?_
  exact e_iretE dX12_harbour_46 rfl rfl (by decide) ⟨rfl, rfl⟩
set_option maxRecDepth 10000 in
theorem q_harbour_ok3 {I : Nat → Nat → Int32} {J : Nat → Nat → Int64} {F : Nat → Nat → Option Nat} {nc ns : Nat} {D : oD} (hF : RFok F) (hM : oM I 98 D) (hW : WF D) (hO : I 95 14 = tol D) {h : Nat} (hh : h < dN D 0)  : Ev 2 mX12_harbour 0 [.ref 95, .int (nI h), .int 3] [] ((SH, nc, ns), I, J, F) (some (.int (womenInS D (nI h)))) ((SH, nc, ns), hp_u (hp_u I 95 0 0) 95 11 0, J, F) := by
  have hD := hW.c
  have hH := hW.h
  have hT := hW.t
  have bt := hT.2
  obtain ⟨b0, b1, b2, b3, b4, b5, b6⟩ := hD.2
  refine e_aload_n (p := 1) dX12_harbour_0 rfl rfl ?_
  refine e_callV_v (p := 4) (k' := 0) (a := [.ref 95]) (rr := []) dX12_harbour_1 rfl rfl rfl rfl (rc_of rfl rfl (by decide) ⟨rfl, by decide⟩) (Nat.le_of_ble_eq_true rfl) (Nat.le_of_ble_eq_true rfl) (by decide) y_good (Or.inl rfl) rfl ?_
  refine e_aload_n (p := 5) dX12_harbour_4 rfl rfl ?_
  refine e_iload_n (p := 6) dX12_harbour_5 rfl rfl ?_
  refine e_callV_int (p := 9) (k' := 1) (a := [.ref 95, .int (nI h)]) (rr := []) dX12_harbour_6 rfl rfl rfl rfl (rc_of rfl rfl (by decide) ⟨rfl, by decide⟩) (Nat.le_of_ble_eq_true rfl) (Nat.le_of_ble_eq_true rfl) (by decide) (Ev.i (ixB_ok (by omega) (by omega)) (y_isHarbour hF (oM_u (oM_u hM (by decide)) (by decide)) hW (I_u (I_u hO (by decide)) (by decide)) )) (Or.inl rfl) rfl ?_
  refine e_if_eq (t := 21) (p := 12) dX12_harbour_9 (by decide) rfl rfl (fun hc9 => absurd hc9 (by decide)) (fun hc9 => ?_)
  refine e_iload_n (p := 13) dX12_harbour_12 rfl rfl ?_
  refine e_iconst (v := 0) (p := 14) dX12_harbour_13 (by decide) rfl ?_
  refine e_iconst (v := 3) (p := 15) dX12_harbour_14 (by decide) rfl ?_
  refine e_callS_int (p := 18) (k' := 0) (a := [.int 3, .int 0, .int 3]) (rr := []) dX12_harbour_15 rfl rfl rfl rfl rfl (rc_st rfl) (Nat.le_of_ble_eq_true rfl) (Nat.le_of_ble_eq_true rfl) (by decide) (Ev.i (in_ok (a := 0) (b := 3) (n := 3) (by omega) (by omega) (by omega)) (y_in  )) (Or.inl rfl) rfl ?_
  refine e_if_ne (t := 27) (p := 21) dX12_harbour_18 (by decide) rfl rfl (fun hc18 => ?_) (fun hc18 => absurd hc18 (by decide))
  refine e_iload_n (p := 28) dX12_harbour_27 rfl rfl ?_
  refine e_iconst (v := 3) (p := 29) dX12_harbour_28 (by decide) rfl ?_
  refine e_icmp_ge (t := 41) (p := 32) dX12_harbour_29 (by decide) rfl rfl (fun hc29 => ?_) (fun hc29 => absurd (by decide) hc29)
  refine e_aload_n (p := 42) dX12_harbour_41 rfl rfl ?_
  refine e_iload_n (p := 43) dX12_harbour_42 rfl rfl ?_
  refine e_callV_int (p := 46) (k' := 1) (a := [.ref 95, .int (nI h)]) (rr := []) dX12_harbour_43 rfl rfl rfl rfl (rc_of rfl rfl (by decide) ⟨rfl, by decide⟩) (Nat.le_of_ble_eq_true rfl) (Nat.le_of_ble_eq_true rfl) (by decide) (y_womenIn hF (oM_u (oM_u hM (by decide)) (by decide)) hW ) (Or.inl rfl) rfl ?_
  exact e_iretE dX12_harbour_46 rfl rfl (by decide) ⟨rfl, rfl⟩
set_option maxRecDepth 10000 in
theorem q_woman_no {I : Nat → Nat → Int32} {J : Nat → Nat → Int64} {F : Nat → Nat → Option Nat} {nc ns : Nat} {D : oD} (hF : RFok F) (hM : oM I 98 D) (hW : WF D) (hO : I 95 14 = tol D) {v x : Int32} (ht : ¬ (if ixB v (dN D 2) = 0 then 1 else if inS x 0 5 = 0 then 1 else 0) = 0) : Ev 2 mX12_woman 0 [.ref 95, .int v, .int x] [] ((SH, nc, ns), I, J, F) (some (.int (-1))) ((SH, nc, ns), hp_u (hp_u I 95 0 0) 95 11 (if ixB v (dN D 2) = 0 then 1 else if inS x 0 5 = 0 then 1 else 0), J, F) := by
  have hD := hW.c
  have hH := hW.h
  have hT := hW.t
  have bt := hT.2
  obtain ⟨b0, b1, b2, b3, b4, b5, b6⟩ := hD.2
  refine e_aload_n (p := 1) dX12_woman_0 rfl rfl ?_
  refine e_callV_v (p := 4) (k' := 0) (a := [.ref 95]) (rr := []) dX12_woman_1 rfl rfl rfl rfl (rc_of rfl rfl (by decide) ⟨rfl, by decide⟩) (Nat.le_of_ble_eq_true rfl) (Nat.le_of_ble_eq_true rfl) (by decide) y_good (Or.inl rfl) rfl ?_
  refine e_aload_n (p := 5) dX12_woman_4 rfl rfl ?_
  refine e_iload_n (p := 6) dX12_woman_5 rfl rfl ?_
  refine e_callV_int (p := 9) (k' := 1) (a := [.ref 95, .int v]) (rr := []) dX12_woman_6 rfl rfl rfl rfl (rc_of rfl rfl (by decide) ⟨rfl, by decide⟩) (Nat.le_of_ble_eq_true rfl) (Nat.le_of_ble_eq_true rfl) (by decide) (y_isWoman hF (oM_u (oM_u hM (by decide)) (by decide)) hW (I_u (I_u hO (by decide)) (by decide)) ) (Or.inl rfl) rfl ?_
  refine e_if_eq (t := 21) (p := 12) dX12_woman_9 (by decide) rfl rfl (fun hc9 => ?_) (fun hc9 => ?_)
  · skip
    refine e_aload_n (p := 22) dX12_woman_21 rfl rfl ?_
    refine e_iconst (v := 1) (p := 23) dX12_woman_22 (by decide) rfl ?_
    refine e_callV_int (p := 26) (k' := 0) (a := [.ref 95, .int 1]) (rr := []) dX12_woman_23 rfl rfl rfl rfl (rc_of rfl rfl (by decide) ⟨rfl, by decide⟩) (Nat.le_of_ble_eq_true rfl) (Nat.le_of_ble_eq_true rfl) (by decide) y_no (Or.inl rfl) rfl ?_
    exact e_iretE dX12_woman_26 rfl rfl (by decide) ⟨rfl, hpq (by first | (simp only [hc9, ↓reduceIte]; done) | (exfalso; simp_all; done))⟩
  · skip
    refine e_iload_n (p := 13) dX12_woman_12 rfl rfl ?_
    refine e_iconst (v := 0) (p := 14) dX12_woman_13 (by decide) rfl ?_
    refine e_iconst (v := 5) (p := 15) dX12_woman_14 (by decide) rfl ?_
    refine e_callS_int (p := 18) (k' := 0) (a := [.int x, .int 0, .int 5]) (rr := []) dX12_woman_15 rfl rfl rfl rfl rfl (rc_st rfl) (Nat.le_of_ble_eq_true rfl) (Nat.le_of_ble_eq_true rfl) (by decide) (y_in  ) (Or.inl rfl) rfl ?_
    refine e_if_ne (t := 27) (p := 21) dX12_woman_18 (by decide) rfl rfl (fun hc18 => ?_) (fun hc18 => ?_)
    · skip
      first | (refine absurd ?_ ht; simp only [hc9, hc18, ↓reduceIte]; done) | (exfalso; simp_all; done)
    · skip
      refine e_aload_n (p := 22) dX12_woman_21 rfl rfl ?_
      refine e_iconst (v := 1) (p := 23) dX12_woman_22 (by decide) rfl ?_
      refine e_callV_int (p := 26) (k' := 0) (a := [.ref 95, .int 1]) (rr := []) dX12_woman_23 rfl rfl rfl rfl (rc_of rfl rfl (by decide) ⟨rfl, by decide⟩) (Nat.le_of_ble_eq_true rfl) (Nat.le_of_ble_eq_true rfl) (by decide) y_no (Or.inl rfl) rfl ?_
      exact e_iretE dX12_woman_26 rfl rfl (by decide) ⟨rfl, hpq (by first | (simp only [hc9, hc18, ↓reduceIte]; done) | (exfalso; simp_all; done))⟩
set_option maxRecDepth 10000 in
theorem q_woman_ok0 {I : Nat → Nat → Int32} {J : Nat → Nat → Int64} {F : Nat → Nat → Option Nat} {nc ns : Nat} {D : oD} (hF : RFok F) (hM : oM I 98 D) (hW : WF D) (hO : I 95 14 = tol D) {w : Nat} (hw : w < dN D 2)  : Ev 2 mX12_woman 0 [.ref 95, .int (nI w), .int 0] [] ((SH, nc, ns), I, J, F) (some (.int (D 6 w))) ((SH, nc, ns), hp_u (hp_u I 95 0 0) 95 11 0, J, F) := by
  have hD := hW.c
  have hH := hW.h
  have hT := hW.t
  have bt := hT.2
  obtain ⟨b0, b1, b2, b3, b4, b5, b6⟩ := hD.2
  refine e_aload_n (p := 1) dX12_woman_0 rfl rfl ?_
  refine e_callV_v (p := 4) (k' := 0) (a := [.ref 95]) (rr := []) dX12_woman_1 rfl rfl rfl rfl (rc_of rfl rfl (by decide) ⟨rfl, by decide⟩) (Nat.le_of_ble_eq_true rfl) (Nat.le_of_ble_eq_true rfl) (by decide) y_good (Or.inl rfl) rfl ?_
  refine e_aload_n (p := 5) dX12_woman_4 rfl rfl ?_
  refine e_iload_n (p := 6) dX12_woman_5 rfl rfl ?_
  refine e_callV_int (p := 9) (k' := 1) (a := [.ref 95, .int (nI w)]) (rr := []) dX12_woman_6 rfl rfl rfl rfl (rc_of rfl rfl (by decide) ⟨rfl, by decide⟩) (Nat.le_of_ble_eq_true rfl) (Nat.le_of_ble_eq_true rfl) (by decide) (Ev.i (ixB_ok (by omega) (by omega)) (y_isWoman hF (oM_u (oM_u hM (by decide)) (by decide)) hW (I_u (I_u hO (by decide)) (by decide)) )) (Or.inl rfl) rfl ?_
  refine e_if_eq (t := 21) (p := 12) dX12_woman_9 (by decide) rfl rfl (fun hc9 => absurd hc9 (by decide)) (fun hc9 => ?_)
  refine e_iload_n (p := 13) dX12_woman_12 rfl rfl ?_
  refine e_iconst (v := 0) (p := 14) dX12_woman_13 (by decide) rfl ?_
  refine e_iconst (v := 5) (p := 15) dX12_woman_14 (by decide) rfl ?_
  refine e_callS_int (p := 18) (k' := 0) (a := [.int 0, .int 0, .int 5]) (rr := []) dX12_woman_15 rfl rfl rfl rfl rfl (rc_st rfl) (Nat.le_of_ble_eq_true rfl) (Nat.le_of_ble_eq_true rfl) (by decide) (Ev.i (in_ok (a := 0) (b := 5) (n := 0) (by omega) (by omega) (by omega)) (y_in  )) (Or.inl rfl) rfl ?_
  refine e_if_ne (t := 27) (p := 21) dX12_woman_18 (by decide) rfl rfl (fun hc18 => ?_) (fun hc18 => absurd hc18 (by decide))
  refine e_iload_n (p := 28) dX12_woman_27 rfl rfl ?_
  refine e_iconst (v := 4) (p := 29) dX12_woman_28 (by decide) rfl ?_
  refine e_icmp_ge (t := 41) (p := 32) dX12_woman_29 (by decide) rfl rfl (fun hc29 => absurd hc29 (by decide)) (fun hc29 => ?_)
  refine e_aload_n (p := 33) dX12_woman_32 rfl rfl ?_
  refine e_iload_n (p := 34) dX12_woman_33 rfl rfl ?_
  refine e_iload_n (p := 35) dX12_woman_34 rfl rfl ?_
  refine e_callV_int (p := 38) (k' := 0) (a := [.ref 95, .int (nI w), .int 0]) (rr := []) dX12_woman_35 rfl rfl rfl rfl (rc_of rfl rfl (by decide) ⟨rfl, by decide⟩) (Nat.le_of_ble_eq_true rfl) (Nat.le_of_ble_eq_true rfl) (by decide) (y_ofWoman (x := w) (k := 0) hF (m6 (oM_u (oM_u hM (by decide)) (by decide)) (by omega)) (by omega) (by omega)) (Or.inl rfl) rfl ?_
  refine e_goto (p := 64) dX12_woman_38 (by decide) rfl ?_
  exact e_iretE dX12_woman_64 rfl rfl (by decide) ⟨rfl, rfl⟩
set_option maxRecDepth 10000 in
theorem q_woman_ok1 {I : Nat → Nat → Int32} {J : Nat → Nat → Int64} {F : Nat → Nat → Option Nat} {nc ns : Nat} {D : oD} (hF : RFok F) (hM : oM I 98 D) (hW : WF D) (hO : I 95 14 = tol D) {w : Nat} (hw : w < dN D 2)  : Ev 2 mX12_woman 0 [.ref 95, .int (nI w), .int 1] [] ((SH, nc, ns), I, J, F) (some (.int (D 7 w))) ((SH, nc, ns), hp_u (hp_u I 95 0 0) 95 11 0, J, F) := by
  have hD := hW.c
  have hH := hW.h
  have hT := hW.t
  have bt := hT.2
  obtain ⟨b0, b1, b2, b3, b4, b5, b6⟩ := hD.2
  refine e_aload_n (p := 1) dX12_woman_0 rfl rfl ?_
  refine e_callV_v (p := 4) (k' := 0) (a := [.ref 95]) (rr := []) dX12_woman_1 rfl rfl rfl rfl (rc_of rfl rfl (by decide) ⟨rfl, by decide⟩) (Nat.le_of_ble_eq_true rfl) (Nat.le_of_ble_eq_true rfl) (by decide) y_good (Or.inl rfl) rfl ?_
  refine e_aload_n (p := 5) dX12_woman_4 rfl rfl ?_
  refine e_iload_n (p := 6) dX12_woman_5 rfl rfl ?_
  refine e_callV_int (p := 9) (k' := 1) (a := [.ref 95, .int (nI w)]) (rr := []) dX12_woman_6 rfl rfl rfl rfl (rc_of rfl rfl (by decide) ⟨rfl, by decide⟩) (Nat.le_of_ble_eq_true rfl) (Nat.le_of_ble_eq_true rfl) (by decide) (Ev.i (ixB_ok (by omega) (by omega)) (y_isWoman hF (oM_u (oM_u hM (by decide)) (by decide)) hW (I_u (I_u hO (by decide)) (by decide)) )) (Or.inl rfl) rfl ?_
  refine e_if_eq (t := 21) (p := 12) dX12_woman_9 (by decide) rfl rfl (fun hc9 => absurd hc9 (by decide)) (fun hc9 => ?_)
  refine e_iload_n (p := 13) dX12_woman_12 rfl rfl ?_
  refine e_iconst (v := 0) (p := 14) dX12_woman_13 (by decide) rfl ?_
  refine e_iconst (v := 5) (p := 15) dX12_woman_14 (by decide) rfl ?_
  refine e_callS_int (p := 18) (k' := 0) (a := [.int 1, .int 0, .int 5]) (rr := []) dX12_woman_15 rfl rfl rfl rfl rfl (rc_st rfl) (Nat.le_of_ble_eq_true rfl) (Nat.le_of_ble_eq_true rfl) (by decide) (Ev.i (in_ok (a := 0) (b := 5) (n := 1) (by omega) (by omega) (by omega)) (y_in  )) (Or.inl rfl) rfl ?_
  refine e_if_ne (t := 27) (p := 21) dX12_woman_18 (by decide) rfl rfl (fun hc18 => ?_) (fun hc18 => absurd hc18 (by decide))
  refine e_iload_n (p := 28) dX12_woman_27 rfl rfl ?_
  refine e_iconst (v := 4) (p := 29) dX12_woman_28 (by decide) rfl ?_
  refine e_icmp_ge (t := 41) (p := 32) dX12_woman_29 (by decide) rfl rfl (fun hc29 => absurd hc29 (by decide)) (fun hc29 => ?_)
  refine e_aload_n (p := 33) dX12_woman_32 rfl rfl ?_
  refine e_iload_n (p := 34) dX12_woman_33 rfl rfl ?_
  refine e_iload_n (p := 35) dX12_woman_34 rfl rfl ?_
  refine e_callV_int (p := 38) (k' := 0) (a := [.ref 95, .int (nI w), .int 1]) (rr := []) dX12_woman_35 rfl rfl rfl rfl (rc_of rfl rfl (by decide) ⟨rfl, by decide⟩) (Nat.le_of_ble_eq_true rfl) (Nat.le_of_ble_eq_true rfl) (by decide) (y_ofWoman (x := w) (k := 1) hF (m7 (oM_u (oM_u hM (by decide)) (by decide)) (by omega)) (by omega) (by omega)) (Or.inl rfl) rfl ?_
  refine e_goto (p := 64) dX12_woman_38 (by decide) rfl ?_
  exact e_iretE dX12_woman_64 rfl rfl (by decide) ⟨rfl, rfl⟩
set_option maxRecDepth 10000 in
theorem q_woman_ok2 {I : Nat → Nat → Int32} {J : Nat → Nat → Int64} {F : Nat → Nat → Option Nat} {nc ns : Nat} {D : oD} (hF : RFok F) (hM : oM I 98 D) (hW : WF D) (hO : I 95 14 = tol D) {w : Nat} (hw : w < dN D 2)  : Ev 2 mX12_woman 0 [.ref 95, .int (nI w), .int 2] [] ((SH, nc, ns), I, J, F) (some (.int (D 8 w))) ((SH, nc, ns), hp_u (hp_u I 95 0 0) 95 11 0, J, F) := by
  have hD := hW.c
  have hH := hW.h
  have hT := hW.t
  have bt := hT.2
  obtain ⟨b0, b1, b2, b3, b4, b5, b6⟩ := hD.2
  refine e_aload_n (p := 1) dX12_woman_0 rfl rfl ?_
  refine e_callV_v (p := 4) (k' := 0) (a := [.ref 95]) (rr := []) dX12_woman_1 rfl rfl rfl rfl (rc_of rfl rfl (by decide) ⟨rfl, by decide⟩) (Nat.le_of_ble_eq_true rfl) (Nat.le_of_ble_eq_true rfl) (by decide) y_good (Or.inl rfl) rfl ?_
  refine e_aload_n (p := 5) dX12_woman_4 rfl rfl ?_
  refine e_iload_n (p := 6) dX12_woman_5 rfl rfl ?_
  refine e_callV_int (p := 9) (k' := 1) (a := [.ref 95, .int (nI w)]) (rr := []) dX12_woman_6 rfl rfl rfl rfl (rc_of rfl rfl (by decide) ⟨rfl, by decide⟩) (Nat.le_of_ble_eq_true rfl) (Nat.le_of_ble_eq_true rfl) (by decide) (Ev.i (ixB_ok (by omega) (by omega)) (y_isWoman hF (oM_u (oM_u hM (by decide)) (by decide)) hW (I_u (I_u hO (by decide)) (by decide)) )) (Or.inl rfl) rfl ?_
  refine e_if_eq (t := 21) (p := 12) dX12_woman_9 (by decide) rfl rfl (fun hc9 => absurd hc9 (by decide)) (fun hc9 => ?_)
  refine e_iload_n (p := 13) dX12_woman_12 rfl rfl ?_
  refine e_iconst (v := 0) (p := 14) dX12_woman_13 (by decide) rfl ?_
  refine e_iconst (v := 5) (p := 15) dX12_woman_14 (by decide) rfl ?_
  refine e_callS_int (p := 18) (k' := 0) (a := [.int 2, .int 0, .int 5]) (rr := []) dX12_woman_15 rfl rfl rfl rfl rfl (rc_st rfl) (Nat.le_of_ble_eq_true rfl) (Nat.le_of_ble_eq_true rfl) (by decide) (Ev.i (in_ok (a := 0) (b := 5) (n := 2) (by omega) (by omega) (by omega)) (y_in  )) (Or.inl rfl) rfl ?_
  refine e_if_ne (t := 27) (p := 21) dX12_woman_18 (by decide) rfl rfl (fun hc18 => ?_) (fun hc18 => absurd hc18 (by decide))
  refine e_iload_n (p := 28) dX12_woman_27 rfl rfl ?_
  refine e_iconst (v := 4) (p := 29) dX12_woman_28 (by decide) rfl ?_
  refine e_icmp_ge (t := 41) (p := 32) dX12_woman_29 (by decide) rfl rfl (fun hc29 => absurd hc29 (by decide)) (fun hc29 => ?_)
  refine e_aload_n (p := 33) dX12_woman_32 rfl rfl ?_
  refine e_iload_n (p := 34) dX12_woman_33 rfl rfl ?_
  refine e_iload_n (p := 35) dX12_woman_34 rfl rfl ?_
  refine e_callV_int (p := 38) (k' := 0) (a := [.ref 95, .int (nI w), .int 2]) (rr := []) dX12_woman_35 rfl rfl rfl rfl (rc_of rfl rfl (by decide) ⟨rfl, by decide⟩) (Nat.le_of_ble_eq_true rfl) (Nat.le_of_ble_eq_true rfl) (by decide) (y_ofWoman (x := w) (k := 2) hF (m8 (oM_u (oM_u hM (by decide)) (by decide)) (by omega)) (by omega) (by omega)) (Or.inl rfl) rfl ?_
  refine e_goto (p := 64) dX12_woman_38 (by decide) rfl ?_
  exact e_iretE dX12_woman_64 rfl rfl (by decide) ⟨rfl, rfl⟩
set_option maxRecDepth 10000 in
theorem q_woman_ok3 {I : Nat → Nat → Int32} {J : Nat → Nat → Int64} {F : Nat → Nat → Option Nat} {nc ns : Nat} {D : oD} (hF : RFok F) (hM : oM I 98 D) (hW : WF D) (hO : I 95 14 = tol D) {w : Nat} (hw : w < dN D 2)  : Ev 2 mX12_woman 0 [.ref 95, .int (nI w), .int 3] [] ((SH, nc, ns), I, J, F) (some (.int (D 9 w))) ((SH, nc, ns), hp_u (hp_u I 95 0 0) 95 11 0, J, F) := by
  have hD := hW.c
  have hH := hW.h
  have hT := hW.t
  have bt := hT.2
  obtain ⟨b0, b1, b2, b3, b4, b5, b6⟩ := hD.2
  refine e_aload_n (p := 1) dX12_woman_0 rfl rfl ?_
  refine e_callV_v (p := 4) (k' := 0) (a := [.ref 95]) (rr := []) dX12_woman_1 rfl rfl rfl rfl (rc_of rfl rfl (by decide) ⟨rfl, by decide⟩) (Nat.le_of_ble_eq_true rfl) (Nat.le_of_ble_eq_true rfl) (by decide) y_good (Or.inl rfl) rfl ?_
  refine e_aload_n (p := 5) dX12_woman_4 rfl rfl ?_
  refine e_iload_n (p := 6) dX12_woman_5 rfl rfl ?_
  refine e_callV_int (p := 9) (k' := 1) (a := [.ref 95, .int (nI w)]) (rr := []) dX12_woman_6 rfl rfl rfl rfl (rc_of rfl rfl (by decide) ⟨rfl, by decide⟩) (Nat.le_of_ble_eq_true rfl) (Nat.le_of_ble_eq_true rfl) (by decide) (Ev.i (ixB_ok (by omega) (by omega)) (y_isWoman hF (oM_u (oM_u hM (by decide)) (by decide)) hW (I_u (I_u hO (by decide)) (by decide)) )) (Or.inl rfl) rfl ?_
  refine e_if_eq (t := 21) (p := 12) dX12_woman_9 (by decide) rfl rfl (fun hc9 => absurd hc9 (by decide)) (fun hc9 => ?_)
  refine e_iload_n (p := 13) dX12_woman_12 rfl rfl ?_
  refine e_iconst (v := 0) (p := 14) dX12_woman_13 (by decide) rfl ?_
  refine e_iconst (v := 5) (p := 15) dX12_woman_14 (by decide) rfl ?_
  refine e_callS_int (p := 18) (k' := 0) (a := [.int 3, .int 0, .int 5]) (rr := []) dX12_woman_15 rfl rfl rfl rfl rfl (rc_st rfl) (Nat.le_of_ble_eq_true rfl) (Nat.le_of_ble_eq_true rfl) (by decide) (Ev.i (in_ok (a := 0) (b := 5) (n := 3) (by omega) (by omega) (by omega)) (y_in  )) (Or.inl rfl) rfl ?_
  refine e_if_ne (t := 27) (p := 21) dX12_woman_18 (by decide) rfl rfl (fun hc18 => ?_) (fun hc18 => absurd hc18 (by decide))
  refine e_iload_n (p := 28) dX12_woman_27 rfl rfl ?_
  refine e_iconst (v := 4) (p := 29) dX12_woman_28 (by decide) rfl ?_
  refine e_icmp_ge (t := 41) (p := 32) dX12_woman_29 (by decide) rfl rfl (fun hc29 => absurd hc29 (by decide)) (fun hc29 => ?_)
  refine e_aload_n (p := 33) dX12_woman_32 rfl rfl ?_
  refine e_iload_n (p := 34) dX12_woman_33 rfl rfl ?_
  refine e_iload_n (p := 35) dX12_woman_34 rfl rfl ?_
  refine e_callV_int (p := 38) (k' := 0) (a := [.ref 95, .int (nI w), .int 3]) (rr := []) dX12_woman_35 rfl rfl rfl rfl (rc_of rfl rfl (by decide) ⟨rfl, by decide⟩) (Nat.le_of_ble_eq_true rfl) (Nat.le_of_ble_eq_true rfl) (by decide) (y_ofWoman (x := w) (k := 3) hF (m9 (oM_u (oM_u hM (by decide)) (by decide)) (by omega)) (by omega) (by omega)) (Or.inl rfl) rfl ?_
  refine e_goto (p := 64) dX12_woman_38 (by decide) rfl ?_
  exact e_iretE dX12_woman_64 rfl rfl (by decide) ⟨rfl, rfl⟩
set_option maxRecDepth 10000 in
theorem q_woman_ok4 {I : Nat → Nat → Int32} {J : Nat → Nat → Int64} {F : Nat → Nat → Option Nat} {nc ns : Nat} {D : oD} (hF : RFok F) (hM : oM I 98 D) (hW : WF D) (hO : I 95 14 = tol D) {w : Nat} (hw : w < dN D 2)  : Ev 2 mX12_woman 0 [.ref 95, .int (nI w), .int 4] [] ((SH, nc, ns), I, J, F) (some (.int (rivalsS D (nI w)))) ((SH, nc, ns), hp_u (hp_u I 95 0 0) 95 11 0, J, F) := by
  have hD := hW.c
  have hH := hW.h
  have hT := hW.t
  have bt := hT.2
  obtain ⟨b0, b1, b2, b3, b4, b5, b6⟩ := hD.2
  refine e_aload_n (p := 1) dX12_woman_0 rfl rfl ?_
  refine e_callV_v (p := 4) (k' := 0) (a := [.ref 95]) (rr := []) dX12_woman_1 rfl rfl rfl rfl (rc_of rfl rfl (by decide) ⟨rfl, by decide⟩) (Nat.le_of_ble_eq_true rfl) (Nat.le_of_ble_eq_true rfl) (by decide) y_good (Or.inl rfl) rfl ?_
  refine e_aload_n (p := 5) dX12_woman_4 rfl rfl ?_
  refine e_iload_n (p := 6) dX12_woman_5 rfl rfl ?_
  refine e_callV_int (p := 9) (k' := 1) (a := [.ref 95, .int (nI w)]) (rr := []) dX12_woman_6 rfl rfl rfl rfl (rc_of rfl rfl (by decide) ⟨rfl, by decide⟩) (Nat.le_of_ble_eq_true rfl) (Nat.le_of_ble_eq_true rfl) (by decide) (Ev.i (ixB_ok (by omega) (by omega)) (y_isWoman hF (oM_u (oM_u hM (by decide)) (by decide)) hW (I_u (I_u hO (by decide)) (by decide)) )) (Or.inl rfl) rfl ?_
  refine e_if_eq (t := 21) (p := 12) dX12_woman_9 (by decide) rfl rfl (fun hc9 => absurd hc9 (by decide)) (fun hc9 => ?_)
  refine e_iload_n (p := 13) dX12_woman_12 rfl rfl ?_
  refine e_iconst (v := 0) (p := 14) dX12_woman_13 (by decide) rfl ?_
  refine e_iconst (v := 5) (p := 15) dX12_woman_14 (by decide) rfl ?_
  refine e_callS_int (p := 18) (k' := 0) (a := [.int 4, .int 0, .int 5]) (rr := []) dX12_woman_15 rfl rfl rfl rfl rfl (rc_st rfl) (Nat.le_of_ble_eq_true rfl) (Nat.le_of_ble_eq_true rfl) (by decide) (Ev.i (in_ok (a := 0) (b := 5) (n := 4) (by omega) (by omega) (by omega)) (y_in  )) (Or.inl rfl) rfl ?_
  refine e_if_ne (t := 27) (p := 21) dX12_woman_18 (by decide) rfl rfl (fun hc18 => ?_) (fun hc18 => absurd hc18 (by decide))
  refine e_iload_n (p := 28) dX12_woman_27 rfl rfl ?_
  refine e_iconst (v := 4) (p := 29) dX12_woman_28 (by decide) rfl ?_
  refine e_icmp_ge (t := 41) (p := 32) dX12_woman_29 (by decide) rfl rfl (fun hc29 => ?_) (fun hc29 => absurd (by decide) hc29)
  refine e_iload_n (p := 42) dX12_woman_41 rfl rfl ?_
  refine e_iconst (v := 4) (p := 43) dX12_woman_42 (by decide) rfl ?_
  refine e_icmp_ne (t := 54) (p := 46) dX12_woman_43 (by decide) rfl rfl (fun hc43 => absurd (by decide) hc43) (fun hc43 => ?_)
  refine e_aload_n (p := 47) dX12_woman_46 rfl rfl ?_
  refine e_iload_n (p := 48) dX12_woman_47 rfl rfl ?_
  refine e_callV_int (p := 51) (k' := 0) (a := [.ref 95, .int (nI w)]) (rr := []) dX12_woman_48 rfl rfl rfl rfl (rc_of rfl rfl (by decide) ⟨rfl, by decide⟩) (Nat.le_of_ble_eq_true rfl) (Nat.le_of_ble_eq_true rfl) (by decide) (y_rivalsOf hF (oM_u (oM_u hM (by decide)) (by decide)) hW ) (Or.inl rfl) rfl ?_
  refine e_goto (p := 64) dX12_woman_51 (by decide) rfl ?_
  exact e_iretE dX12_woman_64 rfl rfl (by decide) ⟨rfl, rfl⟩
set_option maxRecDepth 10000 in
theorem q_woman_ok5 {I : Nat → Nat → Int32} {J : Nat → Nat → Int64} {F : Nat → Nat → Option Nat} {nc ns : Nat} {D : oD} (hF : RFok F) (hM : oM I 98 D) (hW : WF D) (hO : I 95 14 = tol D) {s : Nat → Int32} (hs : stM I s) {w : Nat} (hw : w < dN D 2)  : Ev 2 mX12_woman 0 [.ref 95, .int (nI w), .int 5] [] ((SH, nc, ns), I, J, F) (some (.int ((s 4 >>> (nI w &&& 31)) &&& 1))) ((SH, nc, ns), hp_u (hp_u I 95 0 0) 95 11 0, J, F) := by
  have hD := hW.c
  have hH := hW.h
  have hT := hW.t
  have bt := hT.2
  obtain ⟨b0, b1, b2, b3, b4, b5, b6⟩ := hD.2
  refine e_aload_n (p := 1) dX12_woman_0 rfl rfl ?_
  refine e_callV_v (p := 4) (k' := 0) (a := [.ref 95]) (rr := []) dX12_woman_1 rfl rfl rfl rfl (rc_of rfl rfl (by decide) ⟨rfl, by decide⟩) (Nat.le_of_ble_eq_true rfl) (Nat.le_of_ble_eq_true rfl) (by decide) y_good (Or.inl rfl) rfl ?_
  refine e_aload_n (p := 5) dX12_woman_4 rfl rfl ?_
  refine e_iload_n (p := 6) dX12_woman_5 rfl rfl ?_
  refine e_callV_int (p := 9) (k' := 1) (a := [.ref 95, .int (nI w)]) (rr := []) dX12_woman_6 rfl rfl rfl rfl (rc_of rfl rfl (by decide) ⟨rfl, by decide⟩) (Nat.le_of_ble_eq_true rfl) (Nat.le_of_ble_eq_true rfl) (by decide) (Ev.i (ixB_ok (by omega) (by omega)) (y_isWoman hF (oM_u (oM_u hM (by decide)) (by decide)) hW (I_u (I_u hO (by decide)) (by decide)) )) (Or.inl rfl) rfl ?_
  refine e_if_eq (t := 21) (p := 12) dX12_woman_9 (by decide) rfl rfl (fun hc9 => absurd hc9 (by decide)) (fun hc9 => ?_)
  refine e_iload_n (p := 13) dX12_woman_12 rfl rfl ?_
  refine e_iconst (v := 0) (p := 14) dX12_woman_13 (by decide) rfl ?_
  refine e_iconst (v := 5) (p := 15) dX12_woman_14 (by decide) rfl ?_
  refine e_callS_int (p := 18) (k' := 0) (a := [.int 5, .int 0, .int 5]) (rr := []) dX12_woman_15 rfl rfl rfl rfl rfl (rc_st rfl) (Nat.le_of_ble_eq_true rfl) (Nat.le_of_ble_eq_true rfl) (by decide) (Ev.i (in_ok (a := 0) (b := 5) (n := 5) (by omega) (by omega) (by omega)) (y_in  )) (Or.inl rfl) rfl ?_
  refine e_if_ne (t := 27) (p := 21) dX12_woman_18 (by decide) rfl rfl (fun hc18 => ?_) (fun hc18 => absurd hc18 (by decide))
  refine e_iload_n (p := 28) dX12_woman_27 rfl rfl ?_
  refine e_iconst (v := 4) (p := 29) dX12_woman_28 (by decide) rfl ?_
  refine e_icmp_ge (t := 41) (p := 32) dX12_woman_29 (by decide) rfl rfl (fun hc29 => ?_) (fun hc29 => absurd (by decide) hc29)
  refine e_iload_n (p := 42) dX12_woman_41 rfl rfl ?_
  refine e_iconst (v := 4) (p := 43) dX12_woman_42 (by decide) rfl ?_
  refine e_icmp_ne (t := 54) (p := 46) dX12_woman_43 (by decide) rfl rfl (fun hc43 => ?_) (fun hc43 => absurd hc43 (by decide))
  refine e_aload_n (p := 55) dX12_woman_54 rfl rfl ?_
  refine e_getR (c := 11) (j := 17) (n := 37) (b := 100) (p := 58) dX12_woman_55 rfl rfl (by decide) (by decide) rfl (r_95_17 hF) rfl ?_
  refine e_iconst (v := 4) (p := 59) dX12_woman_58 (by decide) rfl ?_
  refine f_iald (n := 6) (i := 4) (v := s 4) (p := 60) dX12_woman_59 rfl (by decide) (by decide) (by decide) ((stM_u (stM_u hs (by decide)) (by decide)) 4 (by decide)) rfl ?_
  refine e_iload_n (p := 61) dX12_woman_60 rfl rfl ?_
  refine e_ishr (p := 62) dX12_woman_61 rfl ?_
  refine e_iconst (v := 1) (p := 63) dX12_woman_62 (by decide) rfl ?_
  refine e_iand (p := 64) dX12_woman_63 rfl ?_
  exact e_iretE dX12_woman_64 rfl rfl (by decide) ⟨rfl, rfl⟩
set_option maxRecDepth 10000 in
theorem q_age_no {I : Nat → Nat → Int32} {J : Nat → Nat → Int64} {F : Nat → Nat → Option Nat} {nc ns : Nat} {D : oD} (hF : RFok F) (hM : oM I 98 D) (hW : WF D) (hO : I 95 14 = tol D) {v l : Int32} (ht : ¬ (whS (ixB v (dN D 2)) l) = 0) : Ev 3 mX12_age 0 [.ref 95, .int v, .int l, .null] [] ((SH, nc, ns), I, J, F) (some (.int (-1000))) ((SH, nc, ns), hp_u (hp_u I 95 0 0) 95 11 (whS (ixB v (dN D 2)) l), J, F) := by
  have hD := hW.c
  have hH := hW.h
  have hT := hW.t
  have bt := hT.2
  obtain ⟨b0, b1, b2, b3, b4, b5, b6⟩ := hD.2
  refine e_aload_n (p := 1) dX12_age_0 rfl rfl ?_
  refine e_callV_v (p := 4) (k' := 0) (a := [.ref 95]) (rr := []) dX12_age_1 rfl rfl rfl rfl (rc_of rfl rfl (by decide) ⟨rfl, by decide⟩) (Nat.le_of_ble_eq_true rfl) (Nat.le_of_ble_eq_true rfl) (by decide) y_good (Or.inl rfl) rfl ?_
  refine e_aload_n (p := 5) dX12_age_4 rfl rfl ?_
  refine e_aload_n (p := 6) dX12_age_5 rfl rfl ?_
  refine e_iload_n (p := 7) dX12_age_6 rfl rfl ?_
  refine e_callV_int (p := 10) (k' := 1) (a := [.ref 95, .int v]) (rr := [.ref 95]) dX12_age_7 rfl rfl rfl rfl (rc_of rfl rfl (by decide) ⟨rfl, by decide⟩) (Nat.le_of_ble_eq_true rfl) (Nat.le_of_ble_eq_true rfl) (by decide) (y_isWoman hF (oM_u (oM_u hM (by decide)) (by decide)) hW (I_u (I_u hO (by decide)) (by decide)) ) (Or.inl rfl) rfl ?_
  refine e_iload_n (p := 11) dX12_age_10 rfl rfl ?_
  refine e_callV_int (p := 14) (k' := 2) (a := [.ref 95, .int (ixB v (dN D 2)), .int l]) (rr := []) dX12_age_11 rfl rfl rfl rfl (rc_of rfl rfl (by decide) ⟨rfl, by decide⟩) (Nat.le_of_ble_eq_true rfl) (Nat.le_of_ble_eq_true rfl) (by decide) (y_why  ) (Or.inl rfl) rfl ?_
  refine e_istore_n (ls1 := [.ref 95, .int v, .int l, .int (whS (ixB v (dN D 2)) l)]) (p := 15) dX12_age_14 rfl rfl ?_
  refine e_iload_n (p := 16) dX12_age_15 rfl rfl ?_
  refine e_if_ne (t := 32) (p := 19) dX12_age_16 (by decide) rfl rfl (fun hc16 => ?_) (fun hc16 => absurd hc16 ht)
  refine e_aload_n (p := 33) dX12_age_32 rfl rfl ?_
  refine e_iload_n (p := 34) dX12_age_33 rfl rfl ?_
  refine e_putI (c := 11) (j := 11) (n := 37)  (p := 37) dX12_age_34 rfl rfl (by decide) (by decide) rfl rfl rfl ?_
  refine e_sipush (v := -1000) (p := 40) dX12_age_37 (by decide) rfl ?_
  exact e_iretE dX12_age_40 rfl rfl (by decide) ⟨rfl, hpq rfl⟩
set_option maxRecDepth 10000 in
theorem q_age_ok {I : Nat → Nat → Int32} {J : Nat → Nat → Int64} {F : Nat → Nat → Option Nat} {nc ns : Nat} {D : oD} (hF : RFok F) (hM : oM I 98 D) (hW : WF D) (hO : I 95 14 = tol D) {w : Nat} (hw : w < dN D 2) {l : Nat} (hl : l ≤ 30)  : Ev 3 mX12_age 0 [.ref 95, .int (nI w), .int (nI l), .null] [] ((SH, nc, ns), I, J, F) (some (.int (nI l * D 0 0 - D 9 w))) ((SH, nc, ns), hp_u (hp_u I 95 0 0) 95 11 0, J, F) := by
  have hD := hW.c
  have hH := hW.h
  have hT := hW.t
  have bt := hT.2
  obtain ⟨b0, b1, b2, b3, b4, b5, b6⟩ := hD.2
  refine e_aload_n (p := 1) dX12_age_0 rfl rfl ?_
  refine e_callV_v (p := 4) (k' := 0) (a := [.ref 95]) (rr := []) dX12_age_1 rfl rfl rfl rfl (rc_of rfl rfl (by decide) ⟨rfl, by decide⟩) (Nat.le_of_ble_eq_true rfl) (Nat.le_of_ble_eq_true rfl) (by decide) y_good (Or.inl rfl) rfl ?_
  refine e_aload_n (p := 5) dX12_age_4 rfl rfl ?_
  refine e_aload_n (p := 6) dX12_age_5 rfl rfl ?_
  refine e_iload_n (p := 7) dX12_age_6 rfl rfl ?_
  refine e_callV_int (p := 10) (k' := 1) (a := [.ref 95, .int (nI w)]) (rr := [.ref 95]) dX12_age_7 rfl rfl rfl rfl (rc_of rfl rfl (by decide) ⟨rfl, by decide⟩) (Nat.le_of_ble_eq_true rfl) (Nat.le_of_ble_eq_true rfl) (by decide) (Ev.i (ixB_ok (by omega) (by omega)) (y_isWoman hF (oM_u (oM_u hM (by decide)) (by decide)) hW (I_u (I_u hO (by decide)) (by decide)) )) (Or.inl rfl) rfl ?_
  refine e_iload_n (p := 11) dX12_age_10 rfl rfl ?_
  refine e_callV_int (p := 14) (k' := 2) (a := [.ref 95, .int 1, .int (nI l)]) (rr := []) dX12_age_11 rfl rfl rfl rfl (rc_of rfl rfl (by decide) ⟨rfl, by decide⟩) (Nat.le_of_ble_eq_true rfl) (Nat.le_of_ble_eq_true rfl) (by decide) (Ev.i (wh_ok (by omega)) (y_why  )) (Or.inl rfl) rfl ?_
  refine e_istore_n (ls1 := [.ref 95, .int (nI w), .int (nI l), .int 0]) (p := 15) dX12_age_14 rfl rfl ?_
  refine e_iload_n (p := 16) dX12_age_15 rfl rfl ?_
  refine e_if_ne (t := 32) (p := 19) dX12_age_16 (by decide) rfl rfl (fun hc16 => absurd (by decide) hc16) (fun hc16 => ?_)
  refine e_aload_n (p := 20) dX12_age_19 rfl rfl ?_
  refine e_iload_n (p := 21) dX12_age_20 rfl rfl ?_
  refine e_iload_n (p := 22) dX12_age_21 rfl rfl ?_
  refine e_aload_n (p := 23) dX12_age_22 rfl rfl ?_
  refine e_getR (c := 11) (j := 15) (n := 37) (b := 98) (p := 26) dX12_age_23 rfl rfl (by decide) (by decide) rfl (r_95_15 hF) rfl ?_
  refine e_iconst (v := 0) (p := 27) dX12_age_26 (by decide) rfl ?_
  refine f_iald (n := 276) (i := 0) (v := D 0 0) (p := 28) dX12_age_27 rfl (by decide) (by decide) (by decide) (oM_u (oM_u hM (by decide)) (by decide)).1 rfl ?_
  refine e_callV_int (p := 31) (k' := 1) (a := [.ref 95, .int (nI w), .int (nI l), .int (D 0 0)]) (rr := []) dX12_age_28 rfl rfl rfl rfl (rc_of rfl rfl (by decide) ⟨rfl, by decide⟩) (Nat.le_of_ble_eq_true rfl) (Nat.le_of_ble_eq_true rfl) (by decide) (y_ageAt hF (oM_u (oM_u hM (by decide)) (by decide)) hW (by omega)) (Or.inl rfl) rfl ?_
  exact e_iretE dX12_age_31 rfl rfl (by decide) ⟨rfl, rfl⟩
set_option maxRecDepth 10000 in
theorem q_love_no {I : Nat → Nat → Int32} {J : Nat → Nat → Int64} {F : Nat → Nat → Option Nat} {nc ns : Nat} {D : oD} (hF : RFok F) (hM : oM I 98 D) (hW : WF D) (hO : I 95 14 = tol D) {v l : Int32} (ht : ¬ (whS (ixB v (dN D 2)) l) = 0) : Ev 5 mX12_love 0 [.ref 95, .int v, .int l, .null] [] ((SH, nc, ns), I, J, F) (some (.int (-1))) ((SH, nc, ns), hp_u (hp_u I 95 0 0) 95 11 (whS (ixB v (dN D 2)) l), J, F) := by
  have hD := hW.c
  have hH := hW.h
  have hT := hW.t
  have bt := hT.2
  obtain ⟨b0, b1, b2, b3, b4, b5, b6⟩ := hD.2
  refine e_aload_n (p := 1) dX12_love_0 rfl rfl ?_
  refine e_callV_v (p := 4) (k' := 0) (a := [.ref 95]) (rr := []) dX12_love_1 rfl rfl rfl rfl (rc_of rfl rfl (by decide) ⟨rfl, by decide⟩) (Nat.le_of_ble_eq_true rfl) (Nat.le_of_ble_eq_true rfl) (by decide) y_good (Or.inl rfl) rfl ?_
  refine e_aload_n (p := 5) dX12_love_4 rfl rfl ?_
  refine e_aload_n (p := 6) dX12_love_5 rfl rfl ?_
  refine e_iload_n (p := 7) dX12_love_6 rfl rfl ?_
  refine e_callV_int (p := 10) (k' := 1) (a := [.ref 95, .int v]) (rr := [.ref 95]) dX12_love_7 rfl rfl rfl rfl (rc_of rfl rfl (by decide) ⟨rfl, by decide⟩) (Nat.le_of_ble_eq_true rfl) (Nat.le_of_ble_eq_true rfl) (by decide) (y_isWoman hF (oM_u (oM_u hM (by decide)) (by decide)) hW (I_u (I_u hO (by decide)) (by decide)) ) (Or.inl rfl) rfl ?_
  refine e_iload_n (p := 11) dX12_love_10 rfl rfl ?_
  refine e_callV_int (p := 14) (k' := 2) (a := [.ref 95, .int (ixB v (dN D 2)), .int l]) (rr := []) dX12_love_11 rfl rfl rfl rfl (rc_of rfl rfl (by decide) ⟨rfl, by decide⟩) (Nat.le_of_ble_eq_true rfl) (Nat.le_of_ble_eq_true rfl) (by decide) (y_why  ) (Or.inl rfl) rfl ?_
  refine e_istore_n (ls1 := [.ref 95, .int v, .int l, .int (whS (ixB v (dN D 2)) l)]) (p := 15) dX12_love_14 rfl rfl ?_
  refine e_iload_n (p := 16) dX12_love_15 rfl rfl ?_
  refine e_if_eq (t := 27) (p := 19) dX12_love_16 (by decide) rfl rfl (fun hc16 => absurd hc16 ht) (fun hc16 => ?_)
  refine e_aload_n (p := 20) dX12_love_19 rfl rfl ?_
  refine e_iload_n (p := 21) dX12_love_20 rfl rfl ?_
  refine e_callV_int (p := 24) (k' := 0) (a := [.ref 95, .int (whS (ixB v (dN D 2)) l)]) (rr := []) dX12_love_21 rfl rfl rfl rfl (rc_of rfl rfl (by decide) ⟨rfl, by decide⟩) (Nat.le_of_ble_eq_true rfl) (Nat.le_of_ble_eq_true rfl) (by decide) y_no (Or.inl rfl) rfl ?_
  refine e_goto (p := 33) dX12_love_24 (by decide) rfl ?_
  exact e_iretE dX12_love_33 rfl rfl (by decide) ⟨rfl, hpq rfl⟩
set_option maxRecDepth 10000 in
theorem q_love_ok {I : Nat → Nat → Int32} {J : Nat → Nat → Int64} {F : Nat → Nat → Option Nat} {nc ns : Nat} {D : oD} (hF : RFok F) (hM : oM I 98 D) (hW : WF D) (hO : I 95 14 = tol D) {w : Nat} (hw : w < dN D 2) {l : Nat} (hl : l ≤ 30)  : Ev 5 mX12_love 0 [.ref 95, .int (nI w), .int (nI l), .null] [] ((SH, nc, ns), I, J, F) (some (.int (loveS D w (nI l * D 0 0)))) ((SH, nc, ns), hp_u (hp_u I 95 0 0) 95 11 0, J, F) := by
  have hD := hW.c
  have hH := hW.h
  have hT := hW.t
  have bt := hT.2
  obtain ⟨b0, b1, b2, b3, b4, b5, b6⟩ := hD.2
  refine e_aload_n (p := 1) dX12_love_0 rfl rfl ?_
  refine e_callV_v (p := 4) (k' := 0) (a := [.ref 95]) (rr := []) dX12_love_1 rfl rfl rfl rfl (rc_of rfl rfl (by decide) ⟨rfl, by decide⟩) (Nat.le_of_ble_eq_true rfl) (Nat.le_of_ble_eq_true rfl) (by decide) y_good (Or.inl rfl) rfl ?_
  refine e_aload_n (p := 5) dX12_love_4 rfl rfl ?_
  refine e_aload_n (p := 6) dX12_love_5 rfl rfl ?_
  refine e_iload_n (p := 7) dX12_love_6 rfl rfl ?_
  refine e_callV_int (p := 10) (k' := 1) (a := [.ref 95, .int (nI w)]) (rr := [.ref 95]) dX12_love_7 rfl rfl rfl rfl (rc_of rfl rfl (by decide) ⟨rfl, by decide⟩) (Nat.le_of_ble_eq_true rfl) (Nat.le_of_ble_eq_true rfl) (by decide) (Ev.i (ixB_ok (by omega) (by omega)) (y_isWoman hF (oM_u (oM_u hM (by decide)) (by decide)) hW (I_u (I_u hO (by decide)) (by decide)) )) (Or.inl rfl) rfl ?_
  refine e_iload_n (p := 11) dX12_love_10 rfl rfl ?_
  refine e_callV_int (p := 14) (k' := 2) (a := [.ref 95, .int 1, .int (nI l)]) (rr := []) dX12_love_11 rfl rfl rfl rfl (rc_of rfl rfl (by decide) ⟨rfl, by decide⟩) (Nat.le_of_ble_eq_true rfl) (Nat.le_of_ble_eq_true rfl) (by decide) (Ev.i (wh_ok (by omega)) (y_why  )) (Or.inl rfl) rfl ?_
  refine e_istore_n (ls1 := [.ref 95, .int (nI w), .int (nI l), .int 0]) (p := 15) dX12_love_14 rfl rfl ?_
  refine e_iload_n (p := 16) dX12_love_15 rfl rfl ?_
  refine e_if_eq (t := 27) (p := 19) dX12_love_16 (by decide) rfl rfl (fun hc16 => ?_) (fun hc16 => absurd (by decide) hc16)
  refine e_aload_n (p := 28) dX12_love_27 rfl rfl ?_
  refine e_iload_n (p := 29) dX12_love_28 rfl rfl ?_
  refine e_iload_n (p := 30) dX12_love_29 rfl rfl ?_
  refine e_callV_int (p := 33) (k' := 4) (a := [.ref 95, .int (nI w), .int (nI l)]) (rr := []) dX12_love_30 rfl rfl rfl rfl (rc_of rfl rfl (by decide) ⟨rfl, by decide⟩) (Nat.le_of_ble_eq_true rfl) (Nat.le_of_ble_eq_true rfl) (by decide) (y_loveOf hF (oM_u (oM_u hM (by decide)) (by decide)) hW (by omega)) (Or.inl rfl) rfl ?_
  exact e_iretE dX12_love_33 rfl rfl (by decide) ⟨rfl, rfl⟩
set_option maxRecDepth 10000 in
theorem q_alone_no {I : Nat → Nat → Int32} {J : Nat → Nat → Int64} {F : Nat → Nat → Option Nat} {nc ns : Nat} {D : oD} (hF : RFok F) (hM : oM I 98 D) (hW : WF D) (hO : I 95 14 = tol D) {v l : Int32} (ht : ¬ (whS (ixB v (dN D 2)) l) = 0) : Ev 5 mX12_alone 0 [.ref 95, .int v, .int l, .null] [] ((SH, nc, ns), I, J, F) (some (.int (-1))) ((SH, nc, ns), hp_u (hp_u I 95 0 0) 95 11 (whS (ixB v (dN D 2)) l), J, F) := by
  have hD := hW.c
  have hH := hW.h
  have hT := hW.t
  have bt := hT.2
  obtain ⟨b0, b1, b2, b3, b4, b5, b6⟩ := hD.2
  refine e_aload_n (p := 1) dX12_alone_0 rfl rfl ?_
  refine e_callV_v (p := 4) (k' := 0) (a := [.ref 95]) (rr := []) dX12_alone_1 rfl rfl rfl rfl (rc_of rfl rfl (by decide) ⟨rfl, by decide⟩) (Nat.le_of_ble_eq_true rfl) (Nat.le_of_ble_eq_true rfl) (by decide) y_good (Or.inl rfl) rfl ?_
  refine e_aload_n (p := 5) dX12_alone_4 rfl rfl ?_
  refine e_aload_n (p := 6) dX12_alone_5 rfl rfl ?_
  refine e_iload_n (p := 7) dX12_alone_6 rfl rfl ?_
  refine e_callV_int (p := 10) (k' := 1) (a := [.ref 95, .int v]) (rr := [.ref 95]) dX12_alone_7 rfl rfl rfl rfl (rc_of rfl rfl (by decide) ⟨rfl, by decide⟩) (Nat.le_of_ble_eq_true rfl) (Nat.le_of_ble_eq_true rfl) (by decide) (y_isWoman hF (oM_u (oM_u hM (by decide)) (by decide)) hW (I_u (I_u hO (by decide)) (by decide)) ) (Or.inl rfl) rfl ?_
  refine e_iload_n (p := 11) dX12_alone_10 rfl rfl ?_
  refine e_callV_int (p := 14) (k' := 2) (a := [.ref 95, .int (ixB v (dN D 2)), .int l]) (rr := []) dX12_alone_11 rfl rfl rfl rfl (rc_of rfl rfl (by decide) ⟨rfl, by decide⟩) (Nat.le_of_ble_eq_true rfl) (Nat.le_of_ble_eq_true rfl) (by decide) (y_why  ) (Or.inl rfl) rfl ?_
  refine e_istore_n (ls1 := [.ref 95, .int v, .int l, .int (whS (ixB v (dN D 2)) l)]) (p := 15) dX12_alone_14 rfl rfl ?_
  refine e_iload_n (p := 16) dX12_alone_15 rfl rfl ?_
  refine e_if_eq (t := 27) (p := 19) dX12_alone_16 (by decide) rfl rfl (fun hc16 => absurd hc16 ht) (fun hc16 => ?_)
  refine e_aload_n (p := 20) dX12_alone_19 rfl rfl ?_
  refine e_iload_n (p := 21) dX12_alone_20 rfl rfl ?_
  refine e_callV_int (p := 24) (k' := 0) (a := [.ref 95, .int (whS (ixB v (dN D 2)) l)]) (rr := []) dX12_alone_21 rfl rfl rfl rfl (rc_of rfl rfl (by decide) ⟨rfl, by decide⟩) (Nat.le_of_ble_eq_true rfl) (Nat.le_of_ble_eq_true rfl) (by decide) y_no (Or.inl rfl) rfl ?_
  refine e_goto (p := 39) dX12_alone_24 (by decide) rfl ?_
  exact e_iretE dX12_alone_39 rfl rfl (by decide) ⟨rfl, hpq rfl⟩
set_option maxRecDepth 10000 in
theorem q_alone_ok {I : Nat → Nat → Int32} {J : Nat → Nat → Int64} {F : Nat → Nat → Option Nat} {nc ns : Nat} {D : oD} (hF : RFok F) (hM : oM I 98 D) (hW : WF D) (hO : I 95 14 = tol D) {w : Nat} (hw : w < dN D 2) {l : Nat} (hl : l ≤ 30)  : Ev 5 mX12_alone 0 [.ref 95, .int (nI w), .int (nI l), .null] [] ((SH, nc, ns), I, J, F) (some (.int (heartS D w (nI l * D 0 0)))) ((SH, nc, ns), hp_u (hp_u I 95 0 0) 95 11 0, J, F) := by
  have hD := hW.c
  have hH := hW.h
  have hT := hW.t
  have bt := hT.2
  obtain ⟨b0, b1, b2, b3, b4, b5, b6⟩ := hD.2
  refine e_aload_n (p := 1) dX12_alone_0 rfl rfl ?_
  refine e_callV_v (p := 4) (k' := 0) (a := [.ref 95]) (rr := []) dX12_alone_1 rfl rfl rfl rfl (rc_of rfl rfl (by decide) ⟨rfl, by decide⟩) (Nat.le_of_ble_eq_true rfl) (Nat.le_of_ble_eq_true rfl) (by decide) y_good (Or.inl rfl) rfl ?_
  refine e_aload_n (p := 5) dX12_alone_4 rfl rfl ?_
  refine e_aload_n (p := 6) dX12_alone_5 rfl rfl ?_
  refine e_iload_n (p := 7) dX12_alone_6 rfl rfl ?_
  refine e_callV_int (p := 10) (k' := 1) (a := [.ref 95, .int (nI w)]) (rr := [.ref 95]) dX12_alone_7 rfl rfl rfl rfl (rc_of rfl rfl (by decide) ⟨rfl, by decide⟩) (Nat.le_of_ble_eq_true rfl) (Nat.le_of_ble_eq_true rfl) (by decide) (Ev.i (ixB_ok (by omega) (by omega)) (y_isWoman hF (oM_u (oM_u hM (by decide)) (by decide)) hW (I_u (I_u hO (by decide)) (by decide)) )) (Or.inl rfl) rfl ?_
  refine e_iload_n (p := 11) dX12_alone_10 rfl rfl ?_
  refine e_callV_int (p := 14) (k' := 2) (a := [.ref 95, .int 1, .int (nI l)]) (rr := []) dX12_alone_11 rfl rfl rfl rfl (rc_of rfl rfl (by decide) ⟨rfl, by decide⟩) (Nat.le_of_ble_eq_true rfl) (Nat.le_of_ble_eq_true rfl) (by decide) (Ev.i (wh_ok (by omega)) (y_why  )) (Or.inl rfl) rfl ?_
  refine e_istore_n (ls1 := [.ref 95, .int (nI w), .int (nI l), .int 0]) (p := 15) dX12_alone_14 rfl rfl ?_
  refine e_iload_n (p := 16) dX12_alone_15 rfl rfl ?_
  refine e_if_eq (t := 27) (p := 19) dX12_alone_16 (by decide) rfl rfl (fun hc16 => ?_) (fun hc16 => absurd (by decide) hc16)
  refine e_aload_n (p := 28) dX12_alone_27 rfl rfl ?_
  refine e_iload_n (p := 29) dX12_alone_28 rfl rfl ?_
  refine e_iload_n (p := 30) dX12_alone_29 rfl rfl ?_
  refine e_aload_n (p := 31) dX12_alone_30 rfl rfl ?_
  refine e_getR (c := 11) (j := 15) (n := 37) (b := 98) (p := 34) dX12_alone_31 rfl rfl (by decide) (by decide) rfl (r_95_15 hF) rfl ?_
  refine e_iconst (v := 0) (p := 35) dX12_alone_34 (by decide) rfl ?_
  refine f_iald (n := 276) (i := 0) (v := D 0 0) (p := 36) dX12_alone_35 rfl (by decide) (by decide) (by decide) (oM_u (oM_u hM (by decide)) (by decide)).1 rfl ?_
  refine e_callV_int (p := 39) (k' := 2) (a := [.ref 95, .int (nI w), .int (nI l), .int (D 0 0)]) (rr := []) dX12_alone_36 rfl rfl rfl rfl (rc_of rfl rfl (by decide) ⟨rfl, by decide⟩) (Nat.le_of_ble_eq_true rfl) (Nat.le_of_ble_eq_true rfl) (by decide) (y_heartAt hF (oM_u (oM_u hM (by decide)) (by decide)) hW (by omega)) (Or.inl rfl) rfl ?_
  exact e_iretE dX12_alone_39 rfl rfl (by decide) ⟨rfl, rfl⟩
def ofAgeF (D : oD) (w n : Nat) (a : Int32) : Int32 := if ageOk (nI n * D 0 0 - D 9 w) = 0 then a else a ||| bit n
def presF (D : oD) (l : Int32) (w : Nat) (a : Int32) : Int32 := if loveS D w (l * D 0 0) ≤ 0 then a else a ||| bit w
def bestF (D : oD) (w n : Nat) (a : Int32 × Int32) : Int32 × Int32 := if loveS D w (nI n * D 0 0) ≤ a.2 then a else (nI n, loveS D w (nI n * D 0 0))
def belF (D : oD) (h l : Int32) (w : Nat) (a : Int32 × Int32) : Int32 × Int32 := if D 7 w = h then (if loveS D w (l * D 0 0) ≤ a.2 then a else (nI w, loveS D w (l * D 0 0))) else a
def byF (D : oD) (l : Int32) (y : Nat) (b : Int32) : Int32 := if yS D (l * nI y) ≤ yS D (l * b) then b else nI y
set_option maxRecDepth 10000 in
theorem y_ofAge_L {I : Nat → Nat → Int32} {J : Nat → Nat → Int64} {F : Nat → Nat → Option Nat} {nc ns : Nat} {D : oD} (hF : RFok F) (hM : oM I 98 D) (hW : WF D) {w : Nat} (hw : w < dN D 2) : ∀ (m j : Nat) (acc : Int32), j + m = 31 → Ev 2 mX12_ofAge 22 [.ref 95, .int (nI w), .int acc, .int (nI j)] [] ((SH, nc, ns), I, J, F) (some (.int (gN (ofAgeF D w) j m acc))) ((SH, nc, ns), I, J, F)
  | 0, j, acc, hj => by
    have hD := hW.c
    have hH := hW.h
    have hT := hW.t
    have bt := hT.2
    obtain ⟨b0, b1, b2, b3, b4, b5, b6⟩ := hD.2
    refine e_iload_n (p := 23) dX12_ofAge_22 rfl rfl ?_
    refine e_bipush (v := 30) (p := 25) dX12_ofAge_23 (by decide) rfl ?_
    refine e_icmp_gt (t := 66) (p := 28) dX12_ofAge_25 (by decide) rfl rfl (fun hc25 => ?_) (fun hc25 => absurd (nI_lt (a := 30) (b := j) (by omega) (by omega)) hc25)
    refine e_iload_n (p := 67) dX12_ofAge_66 rfl rfl ?_
    exact e_iretE dX12_ofAge_67 rfl rfl (by decide) ⟨rfl, rfl⟩
  | m + 1, j, acc, hj => by
    have hD := hW.c
    have hH := hW.h
    have hT := hW.t
    have bt := hT.2
    obtain ⟨b0, b1, b2, b3, b4, b5, b6⟩ := hD.2
    refine e_iload_n (p := 23) dX12_ofAge_22 rfl rfl ?_
    refine e_bipush (v := 30) (p := 25) dX12_ofAge_23 (by decide) rfl ?_
    refine e_icmp_gt (t := 66) (p := 28) dX12_ofAge_25 (by decide) rfl rfl (fun hc25 => absurd hc25 (nI_nlt (a := 30) (b := j) (by omega) (by omega))) (fun hc25 => ?_)
    refine e_iload_n (p := 29) dX12_ofAge_28 rfl rfl ?_
    refine e_aload_n (p := 30) dX12_ofAge_29 rfl rfl ?_
    refine e_iload_n (p := 31) dX12_ofAge_30 rfl rfl ?_
    refine e_iload_n (p := 32) dX12_ofAge_31 rfl rfl ?_
    refine e_aload_n (p := 33) dX12_ofAge_32 rfl rfl ?_
    refine e_getR (c := 11) (j := 15) (n := 37) (b := 98) (p := 36) dX12_ofAge_33 rfl rfl (by decide) (by decide) rfl (r_95_15 hF) rfl ?_
    refine e_iconst (v := 0) (p := 37) dX12_ofAge_36 (by decide) rfl ?_
    refine f_iald (n := 276) (i := 0) (v := D 0 0) (p := 38) dX12_ofAge_37 rfl (by decide) (by decide) (by decide) hM.1 rfl ?_
    refine e_callV_int (p := 41) (k' := 1) (a := [.ref 95, .int (nI w), .int (nI j), .int (D 0 0)]) (rr := [.int acc]) dX12_ofAge_38 rfl rfl rfl rfl (rc_of rfl rfl (by decide) ⟨rfl, by decide⟩) (Nat.le_of_ble_eq_true rfl) (Nat.le_of_ble_eq_true rfl) (by decide) (y_ageAt hF hM hW (by omega)) (Or.inl rfl) rfl ?_
    refine e_bipush (v := 16) (p := 43) dX12_ofAge_41 (by decide) rfl ?_
    refine e_bipush (v := 40) (p := 45) dX12_ofAge_43 (by decide) rfl ?_
    refine e_callS_int (p := 48) (k' := 0) (a := [.int ((nI j) * (D 0 0) - D 9 w), .int 16, .int 40]) (rr := [.int acc]) dX12_ofAge_45 rfl rfl rfl rfl rfl (rc_st rfl) (Nat.le_of_ble_eq_true rfl) (Nat.le_of_ble_eq_true rfl) (by decide) (y_in  ) (Or.inl rfl) rfl ?_
    refine e_if_eq (t := 57) (p := 51) dX12_ofAge_48 (by decide) rfl rfl (fun hc48 => ?_) (fun hc48 => ?_)
    · skip
      refine e_iconst (v := 0) (p := 58) dX12_ofAge_57 (by decide) rfl ?_
      refine e_ior (p := 59) dX12_ofAge_58 rfl ?_
      refine e_istore_n (ls1 := [.ref 95, .int (nI w), .int (acc ||| 0), .int (nI j)]) (p := 60) dX12_ofAge_59 rfl rfl ?_
      refine e_iinc (ls1 := [.ref 95, .int (nI w), .int (acc ||| 0), .int ((nI j) + 1)]) (p := 63) dX12_ofAge_60 rfl rfl rfl ?_
      refine e_goto (p := 22) dX12_ofAge_63 (by decide) rfl ?_
      rw [nI_1]
      exact Ev.res (by simp only [gN_s, ofAgeF, ageOk_in, hc48, bit, Int32.or_zero, Int32.add_zero, ↓reduceIte]) (y_ofAge_L hF hM hW hw m (j + 1) (acc ||| 0)  (by omega))
    · skip
      refine e_iconst (v := 1) (p := 52) dX12_ofAge_51 (by decide) rfl ?_
      refine e_iload_n (p := 53) dX12_ofAge_52 rfl rfl ?_
      refine e_ishl (p := 54) dX12_ofAge_53 rfl ?_
      refine e_goto (p := 58) dX12_ofAge_54 (by decide) rfl ?_
      refine e_ior (p := 59) dX12_ofAge_58 rfl ?_
      refine e_istore_n (ls1 := [.ref 95, .int (nI w), .int (acc ||| (1 <<< ((nI j) &&& 31))), .int (nI j)]) (p := 60) dX12_ofAge_59 rfl rfl ?_
      refine e_iinc (ls1 := [.ref 95, .int (nI w), .int (acc ||| (1 <<< ((nI j) &&& 31))), .int ((nI j) + 1)]) (p := 63) dX12_ofAge_60 rfl rfl rfl ?_
      refine e_goto (p := 22) dX12_ofAge_63 (by decide) rfl ?_
      rw [nI_1]
      exact Ev.res (by simp only [gN_s, ofAgeF, ageOk_in, hc48, bit, Int32.or_zero, Int32.add_zero, ↓reduceIte]) (y_ofAge_L hF hM hW hw m (j + 1) (acc ||| (1 <<< ((nI j) &&& 31)))  (by omega))
set_option maxRecDepth 10000 in
theorem y_present_L {I : Nat → Nat → Int32} {J : Nat → Nat → Int64} {F : Nat → Nat → Option Nat} {nc ns : Nat} {D : oD} (hF : RFok F) (hM : oM I 98 D) (hW : WF D) {l z : Int32} : ∀ (m j : Nat) (acc : Int32), j + m = dN D 2 → Ev 5 mX12_present 29 [.ref 95, .int l, .int z, .int acc, .int (nI j)] [] ((SH, nc, ns), I, J, F) (some (.int (gN (presF D l) j m acc))) ((SH, nc, ns), I, J, F)
  | 0, j, acc, hj => by
    have hD := hW.c
    have hH := hW.h
    have hT := hW.t
    have bt := hT.2
    obtain ⟨b0, b1, b2, b3, b4, b5, b6⟩ := hD.2
    refine e_iload (p := 31) dX12_present_29 rfl rfl ?_
    refine e_aload_n (p := 32) dX12_present_31 rfl rfl ?_
    refine e_getR (c := 11) (j := 15) (n := 37) (b := 98) (p := 35) dX12_present_32 rfl rfl (by decide) (by decide) rfl (r_95_15 hF) rfl ?_
    refine e_iconst (v := 4) (p := 36) dX12_present_35 (by decide) rfl ?_
    refine f_iald (n := 276) (i := 4) (v := nI (dN D 2)) (p := 37) dX12_present_36 rfl (by decide) (by decide) (by decide) (mNn (i := 2) hM hD (by decide)) rfl ?_
    refine e_icmp_ge (t := 67) (p := 40) dX12_present_37 (by decide) rfl rfl (fun hc37 => ?_) (fun hc37 => absurd (nle (by omega) (by omega)) hc37)
    refine e_iload_n (p := 68) dX12_present_67 rfl rfl ?_
    exact e_iretE dX12_present_68 rfl rfl (by decide) ⟨rfl, rfl⟩
  | m + 1, j, acc, hj => by
    have hD := hW.c
    have hH := hW.h
    have hT := hW.t
    have bt := hT.2
    obtain ⟨b0, b1, b2, b3, b4, b5, b6⟩ := hD.2
    refine e_iload (p := 31) dX12_present_29 rfl rfl ?_
    refine e_aload_n (p := 32) dX12_present_31 rfl rfl ?_
    refine e_getR (c := 11) (j := 15) (n := 37) (b := 98) (p := 35) dX12_present_32 rfl rfl (by decide) (by decide) rfl (r_95_15 hF) rfl ?_
    refine e_iconst (v := 4) (p := 36) dX12_present_35 (by decide) rfl ?_
    refine f_iald (n := 276) (i := 4) (v := nI (dN D 2)) (p := 37) dX12_present_36 rfl (by decide) (by decide) (by decide) (mNn (i := 2) hM hD (by decide)) rfl ?_
    refine e_icmp_ge (t := 67) (p := 40) dX12_present_37 (by decide) rfl rfl (fun hc37 => absurd hc37 (nge (by omega) (by omega))) (fun hc37 => ?_)
    refine e_iload_n (p := 41) dX12_present_40 rfl rfl ?_
    refine e_aload_n (p := 42) dX12_present_41 rfl rfl ?_
    refine e_iload (p := 44) dX12_present_42 rfl rfl ?_
    refine e_iload_n (p := 45) dX12_present_44 rfl rfl ?_
    refine e_callV_int (p := 48) (k' := 4) (a := [.ref 95, .int (nI j), .int l]) (rr := [.int acc]) dX12_present_45 rfl rfl rfl rfl (rc_of rfl rfl (by decide) ⟨rfl, by decide⟩) (Nat.le_of_ble_eq_true rfl) (Nat.le_of_ble_eq_true rfl) (by decide) (y_loveOf hF hM hW (by omega)) (Or.inl rfl) rfl ?_
    refine e_if_le (t := 58) (p := 51) dX12_present_48 (by decide) rfl rfl (fun hc48 => ?_) (fun hc48 => ?_)
    · skip
      refine e_iconst (v := 0) (p := 59) dX12_present_58 (by decide) rfl ?_
      refine e_ior (p := 60) dX12_present_59 rfl ?_
      refine e_istore_n (ls1 := [.ref 95, .int l, .int z, .int (acc ||| 0), .int (nI j)]) (p := 61) dX12_present_60 rfl rfl ?_
      refine e_iinc (ls1 := [.ref 95, .int l, .int z, .int (acc ||| 0), .int ((nI j) + 1)]) (p := 64) dX12_present_61 rfl rfl rfl ?_
      refine e_goto (p := 29) dX12_present_64 (by decide) rfl ?_
      rw [nI_1]
      exact Ev.res (by simp only [gN_s, presF, hc48, (Int32.not_lt.mpr hc48), bit, Int32.or_zero, Int32.add_zero, ↓reduceIte]) (y_present_L hF hM hW m (j + 1) (acc ||| 0)  (by omega))
    · skip
      refine e_iconst (v := 1) (p := 52) dX12_present_51 (by decide) rfl ?_
      refine e_iload (p := 54) dX12_present_52 rfl rfl ?_
      refine e_ishl (p := 55) dX12_present_54 rfl ?_
      refine e_goto (p := 59) dX12_present_55 (by decide) rfl ?_
      refine e_ior (p := 60) dX12_present_59 rfl ?_
      refine e_istore_n (ls1 := [.ref 95, .int l, .int z, .int (acc ||| (1 <<< ((nI j) &&& 31))), .int (nI j)]) (p := 61) dX12_present_60 rfl rfl ?_
      refine e_iinc (ls1 := [.ref 95, .int l, .int z, .int (acc ||| (1 <<< ((nI j) &&& 31))), .int ((nI j) + 1)]) (p := 64) dX12_present_61 rfl rfl rfl ?_
      refine e_goto (p := 29) dX12_present_64 (by decide) rfl ?_
      rw [nI_1]
      exact Ev.res (by simp only [gN_s, presF, hc48, (Int32.not_le.mp hc48), bit, Int32.or_zero, Int32.add_zero, ↓reduceIte]) (y_present_L hF hM hW m (j + 1) (acc ||| (1 <<< ((nI j) &&& 31)))  (by omega))
set_option maxRecDepth 10000 in
theorem y_bestLanding_L {I : Nat → Nat → Int32} {J : Nat → Nat → Int64} {F : Nat → Nat → Option Nat} {nc ns : Nat} {D : oD} (hF : RFok F) (hM : oM I 98 D) (hW : WF D) {w : Nat} (hw : w < dN D 2) : ∀ (m j : Nat) (best : Int32) (most : Int32), j + m = 31 → Ev 5 mX12_bestLanding 26 [.ref 95, .int (nI w), .int best, .int most, .int (nI j)] [] ((SH, nc, ns), I, J, F) (some (.int (gN (bestF D w) j m (best, most)).1)) ((SH, nc, ns), I, J, F)
  | 0, j, best, most, hj => by
    have hD := hW.c
    have hH := hW.h
    have hT := hW.t
    have bt := hT.2
    obtain ⟨b0, b1, b2, b3, b4, b5, b6⟩ := hD.2
    refine e_iload (p := 28) dX12_bestLanding_26 rfl rfl ?_
    refine e_bipush (v := 30) (p := 30) dX12_bestLanding_28 (by decide) rfl ?_
    refine e_icmp_gt (t := 64) (p := 33) dX12_bestLanding_30 (by decide) rfl rfl (fun hc30 => ?_) (fun hc30 => absurd (nI_lt (a := 30) (b := j) (by omega) (by omega)) hc30)
    refine e_iload_n (p := 65) dX12_bestLanding_64 rfl rfl ?_
    exact e_iretE dX12_bestLanding_65 rfl rfl (by decide) ⟨rfl, rfl⟩
  | m + 1, j, best, most, hj => by
    have hD := hW.c
    have hH := hW.h
    have hT := hW.t
    have bt := hT.2
    obtain ⟨b0, b1, b2, b3, b4, b5, b6⟩ := hD.2
    refine e_iload (p := 28) dX12_bestLanding_26 rfl rfl ?_
    refine e_bipush (v := 30) (p := 30) dX12_bestLanding_28 (by decide) rfl ?_
    refine e_icmp_gt (t := 64) (p := 33) dX12_bestLanding_30 (by decide) rfl rfl (fun hc30 => absurd hc30 (nI_nlt (a := 30) (b := j) (by omega) (by omega))) (fun hc30 => ?_)
    refine e_aload_n (p := 34) dX12_bestLanding_33 rfl rfl ?_
    refine e_iload_n (p := 35) dX12_bestLanding_34 rfl rfl ?_
    refine e_iload (p := 37) dX12_bestLanding_35 rfl rfl ?_
    refine e_callV_int (p := 40) (k' := 4) (a := [.ref 95, .int (nI w), .int (nI j)]) (rr := []) dX12_bestLanding_37 rfl rfl rfl rfl (rc_of rfl rfl (by decide) ⟨rfl, by decide⟩) (Nat.le_of_ble_eq_true rfl) (Nat.le_of_ble_eq_true rfl) (by decide) (y_loveOf hF hM hW (by omega)) (Or.inl rfl) rfl ?_
    refine e_iload_n (p := 41) dX12_bestLanding_40 rfl rfl ?_
    refine e_icmp_gt (t := 47) (p := 44) dX12_bestLanding_41 (by decide) rfl rfl (fun hc41 => ?_) (fun hc41 => ?_)
    · skip
      refine e_iload (p := 49) dX12_bestLanding_47 rfl rfl ?_
      refine e_istore_n (ls1 := [.ref 95, .int (nI w), .int (nI j), .int most, .int (nI j)]) (p := 50) dX12_bestLanding_49 rfl rfl ?_
      refine e_aload_n (p := 51) dX12_bestLanding_50 rfl rfl ?_
      refine e_iload_n (p := 52) dX12_bestLanding_51 rfl rfl ?_
      refine e_iload (p := 54) dX12_bestLanding_52 rfl rfl ?_
      refine e_callV_int (p := 57) (k' := 4) (a := [.ref 95, .int (nI w), .int (nI j)]) (rr := []) dX12_bestLanding_54 rfl rfl rfl rfl (rc_of rfl rfl (by decide) ⟨rfl, by decide⟩) (Nat.le_of_ble_eq_true rfl) (Nat.le_of_ble_eq_true rfl) (by decide) (y_loveOf hF hM hW (by omega)) (Or.inl rfl) rfl ?_
      refine e_istore_n (ls1 := [.ref 95, .int (nI w), .int (nI j), .int (loveS D w ((nI j) * D 0 0)), .int (nI j)]) (p := 58) dX12_bestLanding_57 rfl rfl ?_
      refine e_iinc (ls1 := [.ref 95, .int (nI w), .int (nI j), .int (loveS D w ((nI j) * D 0 0)), .int ((nI j) + 1)]) (p := 61) dX12_bestLanding_58 rfl rfl rfl ?_
      refine e_goto (p := 26) dX12_bestLanding_61 (by decide) rfl ?_
      rw [nI_1]
      exact Ev.res (by simp only [gN_s, bestF, hc41, (Int32.not_le.mpr hc41), bit, Int32.or_zero, Int32.add_zero, ↓reduceIte]) (y_bestLanding_L hF hM hW hw m (j + 1) (nI j) (loveS D w ((nI j) * D 0 0))  (by omega))
    · skip
      refine e_goto (p := 58) dX12_bestLanding_44 (by decide) rfl ?_
      refine e_iinc (ls1 := [.ref 95, .int (nI w), .int best, .int most, .int ((nI j) + 1)]) (p := 61) dX12_bestLanding_58 rfl rfl rfl ?_
      refine e_goto (p := 26) dX12_bestLanding_61 (by decide) rfl ?_
      rw [nI_1]
      exact Ev.res (by simp only [gN_s, bestF, hc41, (Int32.not_lt.mp hc41), bit, Int32.or_zero, Int32.add_zero, ↓reduceIte]) (y_bestLanding_L hF hM hW hw m (j + 1) best most  (by omega))
set_option maxRecDepth 10000 in
theorem y_belle_L {I : Nat → Nat → Int32} {J : Nat → Nat → Int64} {F : Nat → Nat → Option Nat} {nc ns : Nat} {D : oD} (hF : RFok F) (hM : oM I 98 D) (hW : WF D) {h l z : Int32} : ∀ (m j : Nat) (best : Int32) (most : Int32), j + m = dN D 2 → Ev 5 mX12_belle 35 [.ref 95, .int h, .int l, .int z, .int best, .int most, .int (nI j)] [] ((SH, nc, ns), I, J, F) (some (.int (gN (belF D h l) j m (best, most)).1)) ((SH, nc, ns), I, J, F)
  | 0, j, best, most, hj => by
    have hD := hW.c
    have hH := hW.h
    have hT := hW.t
    have bt := hT.2
    obtain ⟨b0, b1, b2, b3, b4, b5, b6⟩ := hD.2
    refine e_iload (p := 37) dX12_belle_35 rfl rfl ?_
    refine e_aload_n (p := 38) dX12_belle_37 rfl rfl ?_
    refine e_getR (c := 11) (j := 15) (n := 37) (b := 98) (p := 41) dX12_belle_38 rfl rfl (by decide) (by decide) rfl (r_95_15 hF) rfl ?_
    refine e_iconst (v := 4) (p := 42) dX12_belle_41 (by decide) rfl ?_
    refine f_iald (n := 276) (i := 4) (v := nI (dN D 2)) (p := 43) dX12_belle_42 rfl (by decide) (by decide) (by decide) (mNn (i := 2) hM hD (by decide)) rfl ?_
    refine e_icmp_ge (t := 91) (p := 46) dX12_belle_43 (by decide) rfl rfl (fun hc43 => ?_) (fun hc43 => absurd (nle (by omega) (by omega)) hc43)
    refine e_iload (p := 93) dX12_belle_91 rfl rfl ?_
    exact e_iretE dX12_belle_93 rfl rfl (by decide) ⟨rfl, rfl⟩
  | m + 1, j, best, most, hj => by
    have hD := hW.c
    have hH := hW.h
    have hT := hW.t
    have bt := hT.2
    obtain ⟨b0, b1, b2, b3, b4, b5, b6⟩ := hD.2
    refine e_iload (p := 37) dX12_belle_35 rfl rfl ?_
    refine e_aload_n (p := 38) dX12_belle_37 rfl rfl ?_
    refine e_getR (c := 11) (j := 15) (n := 37) (b := 98) (p := 41) dX12_belle_38 rfl rfl (by decide) (by decide) rfl (r_95_15 hF) rfl ?_
    refine e_iconst (v := 4) (p := 42) dX12_belle_41 (by decide) rfl ?_
    refine f_iald (n := 276) (i := 4) (v := nI (dN D 2)) (p := 43) dX12_belle_42 rfl (by decide) (by decide) (by decide) (mNn (i := 2) hM hD (by decide)) rfl ?_
    refine e_icmp_ge (t := 91) (p := 46) dX12_belle_43 (by decide) rfl rfl (fun hc43 => absurd hc43 (nge (by omega) (by omega))) (fun hc43 => ?_)
    refine e_aload_n (p := 47) dX12_belle_46 rfl rfl ?_
    refine e_iload (p := 49) dX12_belle_47 rfl rfl ?_
    refine e_iconst (v := 1) (p := 50) dX12_belle_49 (by decide) rfl ?_
    refine e_callV_int (p := 53) (k' := 0) (a := [.ref 95, .int (nI j), .int 1]) (rr := []) dX12_belle_50 rfl rfl rfl rfl (rc_of rfl rfl (by decide) ⟨rfl, by decide⟩) (Nat.le_of_ble_eq_true rfl) (Nat.le_of_ble_eq_true rfl) (by decide) (y_ofWoman (x := j) (k := 1) hF (m7 hM (by omega)) (by omega) (by omega)) (Or.inl rfl) rfl ?_
    refine e_iload_n (p := 54) dX12_belle_53 rfl rfl ?_
    refine e_icmp_ne (t := 85) (p := 57) dX12_belle_54 (by decide) rfl rfl (fun hc54 => ?_) (fun hc54 => ?_)
    · skip
      refine e_iinc (ls1 := [.ref 95, .int h, .int l, .int z, .int best, .int most, .int ((nI j) + 1)]) (p := 88) dX12_belle_85 rfl rfl rfl ?_
      refine e_goto (p := 35) dX12_belle_88 (by decide) rfl ?_
      rw [nI_1]
      exact Ev.res (by simp only [gN_s, belF, hc54, bit, Int32.or_zero, Int32.add_zero, ↓reduceIte]) (y_belle_L hF hM hW m (j + 1) best most  (by omega))
    · skip
      refine e_aload_n (p := 58) dX12_belle_57 rfl rfl ?_
      refine e_iload (p := 60) dX12_belle_58 rfl rfl ?_
      refine e_iload_n (p := 61) dX12_belle_60 rfl rfl ?_
      refine e_callV_int (p := 64) (k' := 4) (a := [.ref 95, .int (nI j), .int l]) (rr := []) dX12_belle_61 rfl rfl rfl rfl (rc_of rfl rfl (by decide) ⟨rfl, by decide⟩) (Nat.le_of_ble_eq_true rfl) (Nat.le_of_ble_eq_true rfl) (by decide) (y_loveOf hF hM hW (by omega)) (Or.inl rfl) rfl ?_
      refine e_iload (p := 66) dX12_belle_64 rfl rfl ?_
      refine e_icmp_gt (t := 72) (p := 69) dX12_belle_66 (by decide) rfl rfl (fun hc66 => ?_) (fun hc66 => ?_)
      · skip
        refine e_iload (p := 74) dX12_belle_72 rfl rfl ?_
        refine e_istore (ls1 := [.ref 95, .int h, .int l, .int z, .int (nI j), .int most, .int (nI j)]) (p := 76) dX12_belle_74 rfl rfl ?_
        refine e_aload_n (p := 77) dX12_belle_76 rfl rfl ?_
        refine e_iload (p := 79) dX12_belle_77 rfl rfl ?_
        refine e_iload_n (p := 80) dX12_belle_79 rfl rfl ?_
        refine e_callV_int (p := 83) (k' := 4) (a := [.ref 95, .int (nI j), .int l]) (rr := []) dX12_belle_80 rfl rfl rfl rfl (rc_of rfl rfl (by decide) ⟨rfl, by decide⟩) (Nat.le_of_ble_eq_true rfl) (Nat.le_of_ble_eq_true rfl) (by decide) (y_loveOf hF hM hW (by omega)) (Or.inl rfl) rfl ?_
        refine e_istore (ls1 := [.ref 95, .int h, .int l, .int z, .int (nI j), .int (loveS D j (l * D 0 0)), .int (nI j)]) (p := 85) dX12_belle_83 rfl rfl ?_
        refine e_iinc (ls1 := [.ref 95, .int h, .int l, .int z, .int (nI j), .int (loveS D j (l * D 0 0)), .int ((nI j) + 1)]) (p := 88) dX12_belle_85 rfl rfl rfl ?_
        refine e_goto (p := 35) dX12_belle_88 (by decide) rfl ?_
        rw [nI_1]
        exact Ev.res (by simp only [gN_s, belF, hc54, hc66, (Int32.not_le.mpr hc66), bit, Int32.or_zero, Int32.add_zero, ↓reduceIte]) (y_belle_L hF hM hW m (j + 1) (nI j) (loveS D j (l * D 0 0))  (by omega))
      · skip
        refine e_goto (p := 85) dX12_belle_69 (by decide) rfl ?_
        refine e_iinc (ls1 := [.ref 95, .int h, .int l, .int z, .int best, .int most, .int ((nI j) + 1)]) (p := 88) dX12_belle_85 rfl rfl rfl ?_
        refine e_goto (p := 35) dX12_belle_88 (by decide) rfl ?_
        rw [nI_1]
        exact Ev.res (by simp only [gN_s, belF, hc54, hc66, (Int32.not_lt.mp hc66), bit, Int32.or_zero, Int32.add_zero, ↓reduceIte]) (y_belle_L hF hM hW m (j + 1) best most  (by omega))
set_option maxRecDepth 10000 in
theorem y_bestYears_L {I : Nat → Nat → Int32} {J : Nat → Nat → Int64} {F : Nat → Nat → Option Nat} {nc ns : Nat} {D : oD} (hF : RFok F) (hM : oM I 98 D) (hW : WF D) {l z : Int32} : ∀ (m j : Nat) (acc : Int32), j + m = 10 → Ev 5 mX12_bestYears 30 [.ref 95, .int l, .int z, .int acc, .int (nI j)] [] ((SH, nc, ns), I, J, F) (some (.int (gN (byF D l) j m acc))) ((SH, nc, ns), I, J, F)
  | 0, j, acc, hj => by
    have hD := hW.c
    have hH := hW.h
    have hT := hW.t
    have bt := hT.2
    obtain ⟨b0, b1, b2, b3, b4, b5, b6⟩ := hD.2
    refine e_iload (p := 32) dX12_bestYears_30 rfl rfl ?_
    refine e_bipush (v := 9) (p := 34) dX12_bestYears_32 (by decide) rfl ?_
    refine e_icmp_gt (t := 66) (p := 37) dX12_bestYears_34 (by decide) rfl rfl (fun hc34 => ?_) (fun hc34 => absurd (nI_lt (a := 9) (b := j) (by omega) (by omega)) hc34)
    refine e_iload_n (p := 67) dX12_bestYears_66 rfl rfl ?_
    exact e_iretE dX12_bestYears_67 rfl rfl (by decide) ⟨rfl, rfl⟩
  | m + 1, j, acc, hj => by
    have hD := hW.c
    have hH := hW.h
    have hT := hW.t
    have bt := hT.2
    obtain ⟨b0, b1, b2, b3, b4, b5, b6⟩ := hD.2
    refine e_iload (p := 32) dX12_bestYears_30 rfl rfl ?_
    refine e_bipush (v := 9) (p := 34) dX12_bestYears_32 (by decide) rfl ?_
    refine e_icmp_gt (t := 66) (p := 37) dX12_bestYears_34 (by decide) rfl rfl (fun hc34 => absurd hc34 (nI_nlt (a := 9) (b := j) (by omega) (by omega))) (fun hc34 => ?_)
    refine e_aload_n (p := 38) dX12_bestYears_37 rfl rfl ?_
    refine e_iload_n (p := 39) dX12_bestYears_38 rfl rfl ?_
    refine e_iload (p := 41) dX12_bestYears_39 rfl rfl ?_
    refine e_callV_int (p := 44) (k' := 4) (a := [.ref 95, .int l, .int (nI j)]) (rr := []) dX12_bestYears_41 rfl rfl rfl rfl (rc_of rfl rfl (by decide) ⟨rfl, by decide⟩) (Nat.le_of_ble_eq_true rfl) (Nat.le_of_ble_eq_true rfl) (by decide) (y_sumBy hF hM hW ) (Or.inl rfl) rfl ?_
    refine e_aload_n (p := 45) dX12_bestYears_44 rfl rfl ?_
    refine e_iload_n (p := 46) dX12_bestYears_45 rfl rfl ?_
    refine e_iload_n (p := 47) dX12_bestYears_46 rfl rfl ?_
    refine e_callV_int (p := 50) (k' := 4) (a := [.ref 95, .int l, .int acc]) (rr := [.int (yS D (l * (nI j)))]) dX12_bestYears_47 rfl rfl rfl rfl (rc_of rfl rfl (by decide) ⟨rfl, by decide⟩) (Nat.le_of_ble_eq_true rfl) (Nat.le_of_ble_eq_true rfl) (by decide) (y_sumBy hF hM hW ) (Or.inl rfl) rfl ?_
    refine e_icmp_le (t := 58) (p := 53) dX12_bestYears_50 (by decide) rfl rfl (fun hc50 => ?_) (fun hc50 => ?_)
    · skip
      refine e_iload_n (p := 59) dX12_bestYears_58 rfl rfl ?_
      refine e_istore_n (ls1 := [.ref 95, .int l, .int z, .int acc, .int (nI j)]) (p := 60) dX12_bestYears_59 rfl rfl ?_
      refine e_iinc (ls1 := [.ref 95, .int l, .int z, .int acc, .int ((nI j) + 1)]) (p := 63) dX12_bestYears_60 rfl rfl rfl ?_
      refine e_goto (p := 30) dX12_bestYears_63 (by decide) rfl ?_
      rw [nI_1]
      exact Ev.res (by simp only [gN_s, byF, hc50, (Int32.not_lt.mpr hc50), bit, Int32.or_zero, Int32.add_zero, ↓reduceIte]) (y_bestYears_L hF hM hW m (j + 1) acc  (by omega))
    · skip
      refine e_iload (p := 55) dX12_bestYears_53 rfl rfl ?_
      refine e_goto (p := 59) dX12_bestYears_55 (by decide) rfl ?_
      refine e_istore_n (ls1 := [.ref 95, .int l, .int z, .int (nI j), .int (nI j)]) (p := 60) dX12_bestYears_59 rfl rfl ?_
      refine e_iinc (ls1 := [.ref 95, .int l, .int z, .int (nI j), .int ((nI j) + 1)]) (p := 63) dX12_bestYears_60 rfl rfl rfl ?_
      refine e_goto (p := 30) dX12_bestYears_63 (by decide) rfl ?_
      rw [nI_1]
      exact Ev.res (by simp only [gN_s, byF, hc50, (Int32.not_le.mp hc50), bit, Int32.or_zero, Int32.add_zero, ↓reduceIte]) (y_bestYears_L hF hM hW m (j + 1) (nI j)  (by omega))
set_option maxRecDepth 10000 in
theorem q_ofAge_no {I : Nat → Nat → Int32} {J : Nat → Nat → Int64} {F : Nat → Nat → Option Nat} {nc ns : Nat} {D : oD} (hF : RFok F) (hM : oM I 98 D) (hW : WF D) (hO : I 95 14 = tol D) {v : Int32} (ht : ¬ (if ixB v (dN D 2) = 0 then 1 else 0) = 0) : Ev 2 mX12_ofAge 0 [.ref 95, .int v, .null, .null] [] ((SH, nc, ns), I, J, F) (some (.int (-1))) ((SH, nc, ns), hp_u (hp_u I 95 0 0) 95 11 (if ixB v (dN D 2) = 0 then 1 else 0), J, F) := by
  have hD := hW.c
  have hH := hW.h
  have hT := hW.t
  have bt := hT.2
  obtain ⟨b0, b1, b2, b3, b4, b5, b6⟩ := hD.2
  refine e_aload_n (p := 1) dX12_ofAge_0 rfl rfl ?_
  refine e_callV_v (p := 4) (k' := 0) (a := [.ref 95]) (rr := []) dX12_ofAge_1 rfl rfl rfl rfl (rc_of rfl rfl (by decide) ⟨rfl, by decide⟩) (Nat.le_of_ble_eq_true rfl) (Nat.le_of_ble_eq_true rfl) (by decide) y_good (Or.inl rfl) rfl ?_
  refine e_aload_n (p := 5) dX12_ofAge_4 rfl rfl ?_
  refine e_iload_n (p := 6) dX12_ofAge_5 rfl rfl ?_
  refine e_callV_int (p := 9) (k' := 1) (a := [.ref 95, .int v]) (rr := []) dX12_ofAge_6 rfl rfl rfl rfl (rc_of rfl rfl (by decide) ⟨rfl, by decide⟩) (Nat.le_of_ble_eq_true rfl) (Nat.le_of_ble_eq_true rfl) (by decide) (y_isWoman hF (oM_u (oM_u hM (by decide)) (by decide)) hW (I_u (I_u hO (by decide)) (by decide)) ) (Or.inl rfl) rfl ?_
  refine e_if_ne (t := 18) (p := 12) dX12_ofAge_9 (by decide) rfl rfl (fun hc9 => ?_) (fun hc9 => ?_)
  · skip
    first | (refine absurd ?_ ht; simp only [hc9, ↓reduceIte]; done) | (exfalso; simp_all; done)
  · skip
    refine e_aload_n (p := 13) dX12_ofAge_12 rfl rfl ?_
    refine e_iconst (v := 1) (p := 14) dX12_ofAge_13 (by decide) rfl ?_
    refine e_callV_int (p := 17) (k' := 0) (a := [.ref 95, .int 1]) (rr := []) dX12_ofAge_14 rfl rfl rfl rfl (rc_of rfl rfl (by decide) ⟨rfl, by decide⟩) (Nat.le_of_ble_eq_true rfl) (Nat.le_of_ble_eq_true rfl) (by decide) y_no (Or.inl rfl) rfl ?_
    exact e_iretE dX12_ofAge_17 rfl rfl (by decide) ⟨rfl, hpq (by first | (simp only [hc9, ↓reduceIte]; done) | (exfalso; simp_all; done))⟩
set_option maxRecDepth 10000 in
theorem q_ofAge_ok {I : Nat → Nat → Int32} {J : Nat → Nat → Int64} {F : Nat → Nat → Option Nat} {nc ns : Nat} {D : oD} (hF : RFok F) (hM : oM I 98 D) (hW : WF D) (hO : I 95 14 = tol D) {w : Nat} (hw : w < dN D 2)  : Ev 2 mX12_ofAge 0 [.ref 95, .int (nI w), .null, .null] [] ((SH, nc, ns), I, J, F) (some (.int (gN (ofAgeF D w) 0 31 0))) ((SH, nc, ns), hp_u (hp_u I 95 0 0) 95 11 0, J, F) := by
  have hD := hW.c
  have hH := hW.h
  have hT := hW.t
  have bt := hT.2
  obtain ⟨b0, b1, b2, b3, b4, b5, b6⟩ := hD.2
  refine e_aload_n (p := 1) dX12_ofAge_0 rfl rfl ?_
  refine e_callV_v (p := 4) (k' := 0) (a := [.ref 95]) (rr := []) dX12_ofAge_1 rfl rfl rfl rfl (rc_of rfl rfl (by decide) ⟨rfl, by decide⟩) (Nat.le_of_ble_eq_true rfl) (Nat.le_of_ble_eq_true rfl) (by decide) y_good (Or.inl rfl) rfl ?_
  refine e_aload_n (p := 5) dX12_ofAge_4 rfl rfl ?_
  refine e_iload_n (p := 6) dX12_ofAge_5 rfl rfl ?_
  refine e_callV_int (p := 9) (k' := 1) (a := [.ref 95, .int (nI w)]) (rr := []) dX12_ofAge_6 rfl rfl rfl rfl (rc_of rfl rfl (by decide) ⟨rfl, by decide⟩) (Nat.le_of_ble_eq_true rfl) (Nat.le_of_ble_eq_true rfl) (by decide) (Ev.i (ixB_ok (by omega) (by omega)) (y_isWoman hF (oM_u (oM_u hM (by decide)) (by decide)) hW (I_u (I_u hO (by decide)) (by decide)) )) (Or.inl rfl) rfl ?_
  refine e_if_ne (t := 18) (p := 12) dX12_ofAge_9 (by decide) rfl rfl (fun hc9 => ?_) (fun hc9 => absurd hc9 (by decide))
  refine e_iconst (v := 0) (p := 19) dX12_ofAge_18 (by decide) rfl ?_
  refine e_istore_n (ls1 := [.ref 95, .int (nI w), .int 0, .null]) (p := 20) dX12_ofAge_19 rfl rfl ?_
  refine e_iconst (v := 0) (p := 21) dX12_ofAge_20 (by decide) rfl ?_
  refine e_istore_n (ls1 := [.ref 95, .int (nI w), .int 0, .int 0]) (p := 22) dX12_ofAge_21 rfl rfl ?_
  exact y_ofAge_L hF (oM_u (oM_u hM (by decide)) (by decide)) hW hw _ 0 _ (by omega)
set_option maxRecDepth 10000 in
theorem q_present_no {I : Nat → Nat → Int32} {J : Nat → Nat → Int64} {F : Nat → Nat → Option Nat} {nc ns : Nat} {D : oD} (hF : RFok F) (hM : oM I 98 D) (hW : WF D) (hO : I 95 14 = tol D) {l : Int32} (ht : ¬ (whS (tol D) l) = 0) : Ev 5 mX12_present 0 [.ref 95, .int l, .null, .null, .null] [] ((SH, nc, ns), I, J, F) (some (.int (-1))) ((SH, nc, ns), hp_u (hp_u I 95 0 0) 95 11 (whS (tol D) l), J, F) := by
  have hD := hW.c
  have hH := hW.h
  have hT := hW.t
  have bt := hT.2
  obtain ⟨b0, b1, b2, b3, b4, b5, b6⟩ := hD.2
  refine e_aload_n (p := 1) dX12_present_0 rfl rfl ?_
  refine e_callV_v (p := 4) (k' := 0) (a := [.ref 95]) (rr := []) dX12_present_1 rfl rfl rfl rfl (rc_of rfl rfl (by decide) ⟨rfl, by decide⟩) (Nat.le_of_ble_eq_true rfl) (Nat.le_of_ble_eq_true rfl) (by decide) y_good (Or.inl rfl) rfl ?_
  refine e_aload_n (p := 5) dX12_present_4 rfl rfl ?_
  refine e_aload_n (p := 6) dX12_present_5 rfl rfl ?_
  refine f_getI (c := 11) (j := 14) (n := 37) (v := tol D) (p := 9) dX12_present_6 rfl rfl (by decide) (by decide) (Or.inr rfl) (I_u (I_u hO (by decide)) (by decide)) rfl ?_
  refine e_iload_n (p := 10) dX12_present_9 rfl rfl ?_
  refine e_callV_int (p := 13) (k' := 2) (a := [.ref 95, .int (tol D), .int l]) (rr := []) dX12_present_10 rfl rfl rfl rfl (rc_of rfl rfl (by decide) ⟨rfl, by decide⟩) (Nat.le_of_ble_eq_true rfl) (Nat.le_of_ble_eq_true rfl) (by decide) (y_why  ) (Or.inl rfl) rfl ?_
  refine e_istore_n (ls1 := [.ref 95, .int l, .int (whS (tol D) l), .null, .null]) (p := 14) dX12_present_13 rfl rfl ?_
  refine e_iload_n (p := 15) dX12_present_14 rfl rfl ?_
  refine e_if_eq (t := 24) (p := 18) dX12_present_15 (by decide) rfl rfl (fun hc15 => absurd hc15 ht) (fun hc15 => ?_)
  refine e_aload_n (p := 19) dX12_present_18 rfl rfl ?_
  refine e_iload_n (p := 20) dX12_present_19 rfl rfl ?_
  refine e_callV_int (p := 23) (k' := 0) (a := [.ref 95, .int (whS (tol D) l)]) (rr := []) dX12_present_20 rfl rfl rfl rfl (rc_of rfl rfl (by decide) ⟨rfl, by decide⟩) (Nat.le_of_ble_eq_true rfl) (Nat.le_of_ble_eq_true rfl) (by decide) y_no (Or.inl rfl) rfl ?_
  exact e_iretE dX12_present_23 rfl rfl (by decide) ⟨rfl, hpq rfl⟩
set_option maxRecDepth 10000 in
theorem q_present_ok {I : Nat → Nat → Int32} {J : Nat → Nat → Int64} {F : Nat → Nat → Option Nat} {nc ns : Nat} {D : oD} (hF : RFok F) (hM : oM I 98 D) (hW : WF D) (hO : I 95 14 = tol D) (ht1 : tol D = 1) {l : Nat} (hl : l ≤ 30)  : Ev 5 mX12_present 0 [.ref 95, .int (nI l), .null, .null, .null] [] ((SH, nc, ns), I, J, F) (some (.int (gN (presF D (nI l)) 0 (dN D 2) 0))) ((SH, nc, ns), hp_u (hp_u I 95 0 0) 95 11 0, J, F) := by
  have hD := hW.c
  have hH := hW.h
  have hT := hW.t
  have bt := hT.2
  obtain ⟨b0, b1, b2, b3, b4, b5, b6⟩ := hD.2
  refine e_aload_n (p := 1) dX12_present_0 rfl rfl ?_
  refine e_callV_v (p := 4) (k' := 0) (a := [.ref 95]) (rr := []) dX12_present_1 rfl rfl rfl rfl (rc_of rfl rfl (by decide) ⟨rfl, by decide⟩) (Nat.le_of_ble_eq_true rfl) (Nat.le_of_ble_eq_true rfl) (by decide) y_good (Or.inl rfl) rfl ?_
  refine e_aload_n (p := 5) dX12_present_4 rfl rfl ?_
  refine e_aload_n (p := 6) dX12_present_5 rfl rfl ?_
  refine f_getI (c := 11) (j := 14) (n := 37) (v := 1) (p := 9) dX12_present_6 rfl rfl (by decide) (by decide) (Or.inr rfl) ((I_u (I_u hO (by decide)) (by decide)).trans ht1) rfl ?_
  refine e_iload_n (p := 10) dX12_present_9 rfl rfl ?_
  refine e_callV_int (p := 13) (k' := 2) (a := [.ref 95, .int 1, .int (nI l)]) (rr := []) dX12_present_10 rfl rfl rfl rfl (rc_of rfl rfl (by decide) ⟨rfl, by decide⟩) (Nat.le_of_ble_eq_true rfl) (Nat.le_of_ble_eq_true rfl) (by decide) (Ev.i (wh_ok (by omega)) (y_why  )) (Or.inl rfl) rfl ?_
  refine e_istore_n (ls1 := [.ref 95, .int (nI l), .int 0, .null, .null]) (p := 14) dX12_present_13 rfl rfl ?_
  refine e_iload_n (p := 15) dX12_present_14 rfl rfl ?_
  refine e_if_eq (t := 24) (p := 18) dX12_present_15 (by decide) rfl rfl (fun hc15 => ?_) (fun hc15 => absurd (by decide) hc15)
  refine e_iconst (v := 0) (p := 25) dX12_present_24 (by decide) rfl ?_
  refine e_istore_n (ls1 := [.ref 95, .int (nI l), .int 0, .int 0, .null]) (p := 26) dX12_present_25 rfl rfl ?_
  refine e_iconst (v := 0) (p := 27) dX12_present_26 (by decide) rfl ?_
  refine e_istore (ls1 := [.ref 95, .int (nI l), .int 0, .int 0, .int 0]) (p := 29) dX12_present_27 rfl rfl ?_
  exact y_present_L hF (oM_u (oM_u hM (by decide)) (by decide)) hW _ 0 _ (by omega)
set_option maxRecDepth 10000 in
theorem q_bestLanding_no {I : Nat → Nat → Int32} {J : Nat → Nat → Int64} {F : Nat → Nat → Option Nat} {nc ns : Nat} {D : oD} (hF : RFok F) (hM : oM I 98 D) (hW : WF D) (hO : I 95 14 = tol D) {v : Int32} (ht : ¬ (if ixB v (dN D 2) = 0 then 1 else 0) = 0) : Ev 5 mX12_bestLanding 0 [.ref 95, .int v, .null, .null, .null] [] ((SH, nc, ns), I, J, F) (some (.int (-1))) ((SH, nc, ns), hp_u (hp_u I 95 0 0) 95 11 (if ixB v (dN D 2) = 0 then 1 else 0), J, F) := by
  have hD := hW.c
  have hH := hW.h
  have hT := hW.t
  have bt := hT.2
  obtain ⟨b0, b1, b2, b3, b4, b5, b6⟩ := hD.2
  refine e_aload_n (p := 1) dX12_bestLanding_0 rfl rfl ?_
  refine e_callV_v (p := 4) (k' := 0) (a := [.ref 95]) (rr := []) dX12_bestLanding_1 rfl rfl rfl rfl (rc_of rfl rfl (by decide) ⟨rfl, by decide⟩) (Nat.le_of_ble_eq_true rfl) (Nat.le_of_ble_eq_true rfl) (by decide) y_good (Or.inl rfl) rfl ?_
  refine e_aload_n (p := 5) dX12_bestLanding_4 rfl rfl ?_
  refine e_iload_n (p := 6) dX12_bestLanding_5 rfl rfl ?_
  refine e_callV_int (p := 9) (k' := 1) (a := [.ref 95, .int v]) (rr := []) dX12_bestLanding_6 rfl rfl rfl rfl (rc_of rfl rfl (by decide) ⟨rfl, by decide⟩) (Nat.le_of_ble_eq_true rfl) (Nat.le_of_ble_eq_true rfl) (by decide) (y_isWoman hF (oM_u (oM_u hM (by decide)) (by decide)) hW (I_u (I_u hO (by decide)) (by decide)) ) (Or.inl rfl) rfl ?_
  refine e_if_ne (t := 18) (p := 12) dX12_bestLanding_9 (by decide) rfl rfl (fun hc9 => ?_) (fun hc9 => ?_)
  · skip
    first | (refine absurd ?_ ht; simp only [hc9, ↓reduceIte]; done) | (exfalso; simp_all; done)
  · skip
    refine e_aload_n (p := 13) dX12_bestLanding_12 rfl rfl ?_
    refine e_iconst (v := 1) (p := 14) dX12_bestLanding_13 (by decide) rfl ?_
    refine e_callV_int (p := 17) (k' := 0) (a := [.ref 95, .int 1]) (rr := []) dX12_bestLanding_14 rfl rfl rfl rfl (rc_of rfl rfl (by decide) ⟨rfl, by decide⟩) (Nat.le_of_ble_eq_true rfl) (Nat.le_of_ble_eq_true rfl) (by decide) y_no (Or.inl rfl) rfl ?_
    exact e_iretE dX12_bestLanding_17 rfl rfl (by decide) ⟨rfl, hpq (by first | (simp only [hc9, ↓reduceIte]; done) | (exfalso; simp_all; done))⟩
set_option maxRecDepth 10000 in
theorem q_bestLanding_ok {I : Nat → Nat → Int32} {J : Nat → Nat → Int64} {F : Nat → Nat → Option Nat} {nc ns : Nat} {D : oD} (hF : RFok F) (hM : oM I 98 D) (hW : WF D) (hO : I 95 14 = tol D) {w : Nat} (hw : w < dN D 2)  : Ev 5 mX12_bestLanding 0 [.ref 95, .int (nI w), .null, .null, .null] [] ((SH, nc, ns), I, J, F) (some (.int ((gN (bestF D w) 0 31 (-2, 0)).1))) ((SH, nc, ns), hp_u (hp_u I 95 0 0) 95 11 0, J, F) := by
  have hD := hW.c
  have hH := hW.h
  have hT := hW.t
  have bt := hT.2
  obtain ⟨b0, b1, b2, b3, b4, b5, b6⟩ := hD.2
  refine e_aload_n (p := 1) dX12_bestLanding_0 rfl rfl ?_
  refine e_callV_v (p := 4) (k' := 0) (a := [.ref 95]) (rr := []) dX12_bestLanding_1 rfl rfl rfl rfl (rc_of rfl rfl (by decide) ⟨rfl, by decide⟩) (Nat.le_of_ble_eq_true rfl) (Nat.le_of_ble_eq_true rfl) (by decide) y_good (Or.inl rfl) rfl ?_
  refine e_aload_n (p := 5) dX12_bestLanding_4 rfl rfl ?_
  refine e_iload_n (p := 6) dX12_bestLanding_5 rfl rfl ?_
  refine e_callV_int (p := 9) (k' := 1) (a := [.ref 95, .int (nI w)]) (rr := []) dX12_bestLanding_6 rfl rfl rfl rfl (rc_of rfl rfl (by decide) ⟨rfl, by decide⟩) (Nat.le_of_ble_eq_true rfl) (Nat.le_of_ble_eq_true rfl) (by decide) (Ev.i (ixB_ok (by omega) (by omega)) (y_isWoman hF (oM_u (oM_u hM (by decide)) (by decide)) hW (I_u (I_u hO (by decide)) (by decide)) )) (Or.inl rfl) rfl ?_
  refine e_if_ne (t := 18) (p := 12) dX12_bestLanding_9 (by decide) rfl rfl (fun hc9 => ?_) (fun hc9 => absurd hc9 (by decide))
  refine e_bipush (v := -2) (p := 20) dX12_bestLanding_18 (by decide) rfl ?_
  refine e_istore_n (ls1 := [.ref 95, .int (nI w), .int (-2), .null, .null]) (p := 21) dX12_bestLanding_20 rfl rfl ?_
  refine e_iconst (v := 0) (p := 22) dX12_bestLanding_21 (by decide) rfl ?_
  refine e_istore_n (ls1 := [.ref 95, .int (nI w), .int (-2), .int 0, .null]) (p := 23) dX12_bestLanding_22 rfl rfl ?_
  refine e_iconst (v := 0) (p := 24) dX12_bestLanding_23 (by decide) rfl ?_
  refine e_istore (ls1 := [.ref 95, .int (nI w), .int (-2), .int 0, .int 0]) (p := 26) dX12_bestLanding_24 rfl rfl ?_
  exact y_bestLanding_L hF (oM_u (oM_u hM (by decide)) (by decide)) hW hw _ 0 _ _ (by omega)
set_option maxRecDepth 10000 in
theorem q_belle_no {I : Nat → Nat → Int32} {J : Nat → Nat → Int64} {F : Nat → Nat → Option Nat} {nc ns : Nat} {D : oD} (hF : RFok F) (hM : oM I 98 D) (hW : WF D) (hO : I 95 14 = tol D) {v l : Int32} (ht : ¬ (whS (ixB v (dN D 0)) l) = 0) : Ev 5 mX12_belle 0 [.ref 95, .int v, .int l, .null, .null, .null, .null] [] ((SH, nc, ns), I, J, F) (some (.int (-1))) ((SH, nc, ns), hp_u (hp_u I 95 0 0) 95 11 (whS (ixB v (dN D 0)) l), J, F) := by
  have hD := hW.c
  have hH := hW.h
  have hT := hW.t
  have bt := hT.2
  obtain ⟨b0, b1, b2, b3, b4, b5, b6⟩ := hD.2
  refine e_aload_n (p := 1) dX12_belle_0 rfl rfl ?_
  refine e_callV_v (p := 4) (k' := 0) (a := [.ref 95]) (rr := []) dX12_belle_1 rfl rfl rfl rfl (rc_of rfl rfl (by decide) ⟨rfl, by decide⟩) (Nat.le_of_ble_eq_true rfl) (Nat.le_of_ble_eq_true rfl) (by decide) y_good (Or.inl rfl) rfl ?_
  refine e_aload_n (p := 5) dX12_belle_4 rfl rfl ?_
  refine e_aload_n (p := 6) dX12_belle_5 rfl rfl ?_
  refine e_iload_n (p := 7) dX12_belle_6 rfl rfl ?_
  refine e_callV_int (p := 10) (k' := 1) (a := [.ref 95, .int v]) (rr := [.ref 95]) dX12_belle_7 rfl rfl rfl rfl (rc_of rfl rfl (by decide) ⟨rfl, by decide⟩) (Nat.le_of_ble_eq_true rfl) (Nat.le_of_ble_eq_true rfl) (by decide) (y_isHarbour hF (oM_u (oM_u hM (by decide)) (by decide)) hW (I_u (I_u hO (by decide)) (by decide)) ) (Or.inl rfl) rfl ?_
  refine e_iload_n (p := 11) dX12_belle_10 rfl rfl ?_
  refine e_callV_int (p := 14) (k' := 2) (a := [.ref 95, .int (ixB v (dN D 0)), .int l]) (rr := []) dX12_belle_11 rfl rfl rfl rfl (rc_of rfl rfl (by decide) ⟨rfl, by decide⟩) (Nat.le_of_ble_eq_true rfl) (Nat.le_of_ble_eq_true rfl) (by decide) (y_why  ) (Or.inl rfl) rfl ?_
  refine e_istore_n (ls1 := [.ref 95, .int v, .int l, .int (whS (ixB v (dN D 0)) l), .null, .null, .null]) (p := 15) dX12_belle_14 rfl rfl ?_
  refine e_iload_n (p := 16) dX12_belle_15 rfl rfl ?_
  refine e_if_eq (t := 25) (p := 19) dX12_belle_16 (by decide) rfl rfl (fun hc16 => absurd hc16 ht) (fun hc16 => ?_)
  refine e_aload_n (p := 20) dX12_belle_19 rfl rfl ?_
  refine e_iload_n (p := 21) dX12_belle_20 rfl rfl ?_
  refine e_callV_int (p := 24) (k' := 0) (a := [.ref 95, .int (whS (ixB v (dN D 0)) l)]) (rr := []) dX12_belle_21 rfl rfl rfl rfl (rc_of rfl rfl (by decide) ⟨rfl, by decide⟩) (Nat.le_of_ble_eq_true rfl) (Nat.le_of_ble_eq_true rfl) (by decide) y_no (Or.inl rfl) rfl ?_
  exact e_iretE dX12_belle_24 rfl rfl (by decide) ⟨rfl, hpq rfl⟩
set_option maxRecDepth 10000 in
theorem q_belle_ok {I : Nat → Nat → Int32} {J : Nat → Nat → Int64} {F : Nat → Nat → Option Nat} {nc ns : Nat} {D : oD} (hF : RFok F) (hM : oM I 98 D) (hW : WF D) (hO : I 95 14 = tol D) {h : Nat} (hh : h < dN D 0) {l : Nat} (hl : l ≤ 30)  : Ev 5 mX12_belle 0 [.ref 95, .int (nI h), .int (nI l), .null, .null, .null, .null] [] ((SH, nc, ns), I, J, F) (some (.int ((gN (belF D (nI h) (nI l)) 0 (dN D 2) (-2, 0)).1))) ((SH, nc, ns), hp_u (hp_u I 95 0 0) 95 11 0, J, F) := by
  have hD := hW.c
  have hH := hW.h
  have hT := hW.t
  have bt := hT.2
  obtain ⟨b0, b1, b2, b3, b4, b5, b6⟩ := hD.2
  refine e_aload_n (p := 1) dX12_belle_0 rfl rfl ?_
  refine e_callV_v (p := 4) (k' := 0) (a := [.ref 95]) (rr := []) dX12_belle_1 rfl rfl rfl rfl (rc_of rfl rfl (by decide) ⟨rfl, by decide⟩) (Nat.le_of_ble_eq_true rfl) (Nat.le_of_ble_eq_true rfl) (by decide) y_good (Or.inl rfl) rfl ?_
  refine e_aload_n (p := 5) dX12_belle_4 rfl rfl ?_
  refine e_aload_n (p := 6) dX12_belle_5 rfl rfl ?_
  refine e_iload_n (p := 7) dX12_belle_6 rfl rfl ?_
  refine e_callV_int (p := 10) (k' := 1) (a := [.ref 95, .int (nI h)]) (rr := [.ref 95]) dX12_belle_7 rfl rfl rfl rfl (rc_of rfl rfl (by decide) ⟨rfl, by decide⟩) (Nat.le_of_ble_eq_true rfl) (Nat.le_of_ble_eq_true rfl) (by decide) (Ev.i (ixB_ok (by omega) (by omega)) (y_isHarbour hF (oM_u (oM_u hM (by decide)) (by decide)) hW (I_u (I_u hO (by decide)) (by decide)) )) (Or.inl rfl) rfl ?_
  refine e_iload_n (p := 11) dX12_belle_10 rfl rfl ?_
  refine e_callV_int (p := 14) (k' := 2) (a := [.ref 95, .int 1, .int (nI l)]) (rr := []) dX12_belle_11 rfl rfl rfl rfl (rc_of rfl rfl (by decide) ⟨rfl, by decide⟩) (Nat.le_of_ble_eq_true rfl) (Nat.le_of_ble_eq_true rfl) (by decide) (Ev.i (wh_ok (by omega)) (y_why  )) (Or.inl rfl) rfl ?_
  refine e_istore_n (ls1 := [.ref 95, .int (nI h), .int (nI l), .int 0, .null, .null, .null]) (p := 15) dX12_belle_14 rfl rfl ?_
  refine e_iload_n (p := 16) dX12_belle_15 rfl rfl ?_
  refine e_if_eq (t := 25) (p := 19) dX12_belle_16 (by decide) rfl rfl (fun hc16 => ?_) (fun hc16 => absurd (by decide) hc16)
  refine e_bipush (v := -2) (p := 27) dX12_belle_25 (by decide) rfl ?_
  refine e_istore (ls1 := [.ref 95, .int (nI h), .int (nI l), .int 0, .int (-2), .null, .null]) (p := 29) dX12_belle_27 rfl rfl ?_
  refine e_iconst (v := 0) (p := 30) dX12_belle_29 (by decide) rfl ?_
  refine e_istore (ls1 := [.ref 95, .int (nI h), .int (nI l), .int 0, .int (-2), .int 0, .null]) (p := 32) dX12_belle_30 rfl rfl ?_
  refine e_iconst (v := 0) (p := 33) dX12_belle_32 (by decide) rfl ?_
  refine e_istore (ls1 := [.ref 95, .int (nI h), .int (nI l), .int 0, .int (-2), .int 0, .int 0]) (p := 35) dX12_belle_33 rfl rfl ?_
  exact y_belle_L hF (oM_u (oM_u hM (by decide)) (by decide)) hW _ 0 _ _ (by omega)
set_option maxRecDepth 10000 in
theorem q_byYears_no {I : Nat → Nat → Int32} {J : Nat → Nat → Int64} {F : Nat → Nat → Option Nat} {nc ns : Nat} {D : oD} (hF : RFok F) (hM : oM I 98 D) (hW : WF D) (hO : I 95 14 = tol D) {v l y : Int32} (ht : ¬ (if whS (ixB v (dN D 2)) l = 0 then (if inS y 5 9 = 0 then 2 else 0) else whS (ixB v (dN D 2)) l) = 0) : Ev 4 mX12_byYears 0 [.ref 95, .int v, .int l, .int y, .null] [] ((SH, nc, ns), I, J, F) (some (.int (-1))) ((SH, nc, ns), hp_u (hp_u I 95 0 0) 95 11 (if whS (ixB v (dN D 2)) l = 0 then (if inS y 5 9 = 0 then 2 else 0) else whS (ixB v (dN D 2)) l), J, F) := by
  have hD := hW.c
  have hH := hW.h
  have hT := hW.t
  have bt := hT.2
  obtain ⟨b0, b1, b2, b3, b4, b5, b6⟩ := hD.2
  refine e_aload_n (p := 1) dX12_byYears_0 rfl rfl ?_
  refine e_callV_v (p := 4) (k' := 0) (a := [.ref 95]) (rr := []) dX12_byYears_1 rfl rfl rfl rfl (rc_of rfl rfl (by decide) ⟨rfl, by decide⟩) (Nat.le_of_ble_eq_true rfl) (Nat.le_of_ble_eq_true rfl) (by decide) y_good (Or.inl rfl) rfl ?_
  refine e_aload_n (p := 5) dX12_byYears_4 rfl rfl ?_
  refine e_aload_n (p := 6) dX12_byYears_5 rfl rfl ?_
  refine e_iload_n (p := 7) dX12_byYears_6 rfl rfl ?_
  refine e_callV_int (p := 10) (k' := 1) (a := [.ref 95, .int v]) (rr := [.ref 95]) dX12_byYears_7 rfl rfl rfl rfl (rc_of rfl rfl (by decide) ⟨rfl, by decide⟩) (Nat.le_of_ble_eq_true rfl) (Nat.le_of_ble_eq_true rfl) (by decide) (y_isWoman hF (oM_u (oM_u hM (by decide)) (by decide)) hW (I_u (I_u hO (by decide)) (by decide)) ) (Or.inl rfl) rfl ?_
  refine e_iload_n (p := 11) dX12_byYears_10 rfl rfl ?_
  refine e_callV_int (p := 14) (k' := 2) (a := [.ref 95, .int (ixB v (dN D 2)), .int l]) (rr := []) dX12_byYears_11 rfl rfl rfl rfl (rc_of rfl rfl (by decide) ⟨rfl, by decide⟩) (Nat.le_of_ble_eq_true rfl) (Nat.le_of_ble_eq_true rfl) (by decide) (y_why  ) (Or.inl rfl) rfl ?_
  refine e_istore (ls1 := [.ref 95, .int v, .int l, .int y, .int (whS (ixB v (dN D 2)) l)]) (p := 16) dX12_byYears_14 rfl rfl ?_
  refine e_iload (p := 18) dX12_byYears_16 rfl rfl ?_
  refine e_if_ne (t := 34) (p := 21) dX12_byYears_18 (by decide) rfl rfl (fun hc18 => ?_) (fun hc18 => ?_)
  · skip
    refine e_iload (p := 36) dX12_byYears_34 rfl rfl ?_
    refine e_if_eq (t := 48) (p := 39) dX12_byYears_36 (by decide) rfl rfl (fun hc36 => ?_) (fun hc36 => ?_)
    · skip
      first | (refine absurd ?_ ht; simp only [hc18, hc36, ↓reduceIte]; done) | (exfalso; simp_all; done)
    · skip
      refine e_aload_n (p := 40) dX12_byYears_39 rfl rfl ?_
      refine e_iload (p := 42) dX12_byYears_40 rfl rfl ?_
      refine e_callV_int (p := 45) (k' := 0) (a := [.ref 95, .int (whS (ixB v (dN D 2)) l)]) (rr := []) dX12_byYears_42 rfl rfl rfl rfl (rc_of rfl rfl (by decide) ⟨rfl, by decide⟩) (Nat.le_of_ble_eq_true rfl) (Nat.le_of_ble_eq_true rfl) (by decide) y_no (Or.inl rfl) rfl ?_
      refine e_goto (p := 55) dX12_byYears_45 (by decide) rfl ?_
      exact e_iretE dX12_byYears_55 rfl rfl (by decide) ⟨rfl, hpq (by first | (simp only [hc18, hc36, ↓reduceIte]; done) | (exfalso; simp_all; done))⟩
  · skip
    refine e_iload_n (p := 22) dX12_byYears_21 rfl rfl ?_
    refine e_iconst (v := 5) (p := 23) dX12_byYears_22 (by decide) rfl ?_
    refine e_bipush (v := 9) (p := 25) dX12_byYears_23 (by decide) rfl ?_
    refine e_callS_int (p := 28) (k' := 0) (a := [.int y, .int 5, .int 9]) (rr := []) dX12_byYears_25 rfl rfl rfl rfl rfl (rc_st rfl) (Nat.le_of_ble_eq_true rfl) (Nat.le_of_ble_eq_true rfl) (by decide) (y_in  ) (Or.inl rfl) rfl ?_
    refine e_if_ne (t := 34) (p := 31) dX12_byYears_28 (by decide) rfl rfl (fun hc28 => ?_) (fun hc28 => ?_)
    · skip
      refine e_iload (p := 36) dX12_byYears_34 rfl rfl ?_
      refine e_if_eq (t := 48) (p := 39) dX12_byYears_36 (by decide) rfl rfl (fun hc36 => ?_) (fun hc36 => ?_)
      · skip
        first | (refine absurd ?_ ht; simp only [hc18, hc28, hc36, ↓reduceIte]; done) | (exfalso; simp_all; done)
      · skip
        refine e_aload_n (p := 40) dX12_byYears_39 rfl rfl ?_
        refine e_iload (p := 42) dX12_byYears_40 rfl rfl ?_
        refine e_callV_int (p := 45) (k' := 0) (a := [.ref 95, .int (whS (ixB v (dN D 2)) l)]) (rr := []) dX12_byYears_42 rfl rfl rfl rfl (rc_of rfl rfl (by decide) ⟨rfl, by decide⟩) (Nat.le_of_ble_eq_true rfl) (Nat.le_of_ble_eq_true rfl) (by decide) y_no (Or.inl rfl) rfl ?_
        refine e_goto (p := 55) dX12_byYears_45 (by decide) rfl ?_
        exact e_iretE dX12_byYears_55 rfl rfl (by decide) ⟨rfl, hpq (by first | (simp only [hc18, hc28, hc36, ↓reduceIte]; done) | (exfalso; simp_all; done))⟩
    · skip
      refine e_iconst (v := 2) (p := 32) dX12_byYears_31 (by decide) rfl ?_
      refine e_istore (ls1 := [.ref 95, .int v, .int l, .int y, .int 2]) (p := 34) dX12_byYears_32 rfl rfl ?_
      refine e_iload (p := 36) dX12_byYears_34 rfl rfl ?_
      refine e_if_eq (t := 48) (p := 39) dX12_byYears_36 (by decide) rfl rfl (fun hc36 => absurd hc36 (by decide)) (fun hc36 => ?_)
      refine e_aload_n (p := 40) dX12_byYears_39 rfl rfl ?_
      refine e_iload (p := 42) dX12_byYears_40 rfl rfl ?_
      refine e_callV_int (p := 45) (k' := 0) (a := [.ref 95, .int 2]) (rr := []) dX12_byYears_42 rfl rfl rfl rfl (rc_of rfl rfl (by decide) ⟨rfl, by decide⟩) (Nat.le_of_ble_eq_true rfl) (Nat.le_of_ble_eq_true rfl) (by decide) y_no (Or.inl rfl) rfl ?_
      refine e_goto (p := 55) dX12_byYears_45 (by decide) rfl ?_
      exact e_iretE dX12_byYears_55 rfl rfl (by decide) ⟨rfl, hpq (by first | (simp only [hc18, hc28, ↓reduceIte]; done) | (exfalso; simp_all; done))⟩
set_option maxRecDepth 10000 in
theorem q_byYears_ok {I : Nat → Nat → Int32} {J : Nat → Nat → Int64} {F : Nat → Nat → Option Nat} {nc ns : Nat} {D : oD} (hF : RFok F) (hM : oM I 98 D) (hW : WF D) (hO : I 95 14 = tol D) {w : Nat} (hw : w < dN D 2) {l : Nat} (hl : l ≤ 30) {y : Nat} (hy : 5 ≤ y) (hy9 : y ≤ 9)  : Ev 4 mX12_byYears 0 [.ref 95, .int (nI w), .int (nI l), .int (nI y), .null] [] ((SH, nc, ns), I, J, F) (some (.int (loveS D w (nI l * nI y)))) ((SH, nc, ns), hp_u (hp_u I 95 0 0) 95 11 0, J, F) := by
  have hD := hW.c
  have hH := hW.h
  have hT := hW.t
  have bt := hT.2
  obtain ⟨b0, b1, b2, b3, b4, b5, b6⟩ := hD.2
  refine e_aload_n (p := 1) dX12_byYears_0 rfl rfl ?_
  refine e_callV_v (p := 4) (k' := 0) (a := [.ref 95]) (rr := []) dX12_byYears_1 rfl rfl rfl rfl (rc_of rfl rfl (by decide) ⟨rfl, by decide⟩) (Nat.le_of_ble_eq_true rfl) (Nat.le_of_ble_eq_true rfl) (by decide) y_good (Or.inl rfl) rfl ?_
  refine e_aload_n (p := 5) dX12_byYears_4 rfl rfl ?_
  refine e_aload_n (p := 6) dX12_byYears_5 rfl rfl ?_
  refine e_iload_n (p := 7) dX12_byYears_6 rfl rfl ?_
  refine e_callV_int (p := 10) (k' := 1) (a := [.ref 95, .int (nI w)]) (rr := [.ref 95]) dX12_byYears_7 rfl rfl rfl rfl (rc_of rfl rfl (by decide) ⟨rfl, by decide⟩) (Nat.le_of_ble_eq_true rfl) (Nat.le_of_ble_eq_true rfl) (by decide) (Ev.i (ixB_ok (by omega) (by omega)) (y_isWoman hF (oM_u (oM_u hM (by decide)) (by decide)) hW (I_u (I_u hO (by decide)) (by decide)) )) (Or.inl rfl) rfl ?_
  refine e_iload_n (p := 11) dX12_byYears_10 rfl rfl ?_
  refine e_callV_int (p := 14) (k' := 2) (a := [.ref 95, .int 1, .int (nI l)]) (rr := []) dX12_byYears_11 rfl rfl rfl rfl (rc_of rfl rfl (by decide) ⟨rfl, by decide⟩) (Nat.le_of_ble_eq_true rfl) (Nat.le_of_ble_eq_true rfl) (by decide) (Ev.i (wh_ok (by omega)) (y_why  )) (Or.inl rfl) rfl ?_
  refine e_istore (ls1 := [.ref 95, .int (nI w), .int (nI l), .int (nI y), .int 0]) (p := 16) dX12_byYears_14 rfl rfl ?_
  refine e_iload (p := 18) dX12_byYears_16 rfl rfl ?_
  refine e_if_ne (t := 34) (p := 21) dX12_byYears_18 (by decide) rfl rfl (fun hc18 => absurd (by decide) hc18) (fun hc18 => ?_)
  refine e_iload_n (p := 22) dX12_byYears_21 rfl rfl ?_
  refine e_iconst (v := 5) (p := 23) dX12_byYears_22 (by decide) rfl ?_
  refine e_bipush (v := 9) (p := 25) dX12_byYears_23 (by decide) rfl ?_
  refine e_callS_int (p := 28) (k' := 0) (a := [.int (nI y), .int 5, .int 9]) (rr := []) dX12_byYears_25 rfl rfl rfl rfl rfl (rc_st rfl) (Nat.le_of_ble_eq_true rfl) (Nat.le_of_ble_eq_true rfl) (by decide) (Ev.i (in_ok (a := 5) (b := 9) (n := y) (by omega) (by omega) (by omega)) (y_in  )) (Or.inl rfl) rfl ?_
  refine e_if_ne (t := 34) (p := 31) dX12_byYears_28 (by decide) rfl rfl (fun hc28 => ?_) (fun hc28 => absurd hc28 (by decide))
  refine e_iload (p := 36) dX12_byYears_34 rfl rfl ?_
  refine e_if_eq (t := 48) (p := 39) dX12_byYears_36 (by decide) rfl rfl (fun hc36 => ?_) (fun hc36 => absurd (by decide) hc36)
  refine e_aload_n (p := 49) dX12_byYears_48 rfl rfl ?_
  refine e_iload_n (p := 50) dX12_byYears_49 rfl rfl ?_
  refine e_iload_n (p := 51) dX12_byYears_50 rfl rfl ?_
  refine e_iload_n (p := 52) dX12_byYears_51 rfl rfl ?_
  refine e_callV_int (p := 55) (k' := 3) (a := [.ref 95, .int (nI w), .int (nI l), .int (nI y)]) (rr := []) dX12_byYears_52 rfl rfl rfl rfl (rc_of rfl rfl (by decide) ⟨rfl, by decide⟩) (Nat.le_of_ble_eq_true rfl) (Nat.le_of_ble_eq_true rfl) (by decide) (y_loveAt hF (oM_u (oM_u hM (by decide)) (by decide)) hW (by omega)) (Or.inl rfl) rfl ?_
  exact e_iretE dX12_byYears_55 rfl rfl (by decide) ⟨rfl, rfl⟩
set_option maxRecDepth 10000 in
theorem q_bestYears_no {I : Nat → Nat → Int32} {J : Nat → Nat → Int64} {F : Nat → Nat → Option Nat} {nc ns : Nat} {D : oD} (hF : RFok F) (hM : oM I 98 D) (hW : WF D) (hO : I 95 14 = tol D) {l : Int32} (ht : ¬ (whS (tol D) l) = 0) : Ev 5 mX12_bestYears 0 [.ref 95, .int l, .null, .null, .null] [] ((SH, nc, ns), I, J, F) (some (.int (-1))) ((SH, nc, ns), hp_u (hp_u I 95 0 0) 95 11 (whS (tol D) l), J, F) := by
  have hD := hW.c
  have hH := hW.h
  have hT := hW.t
  have bt := hT.2
  obtain ⟨b0, b1, b2, b3, b4, b5, b6⟩ := hD.2
  refine e_aload_n (p := 1) dX12_bestYears_0 rfl rfl ?_
  refine e_callV_v (p := 4) (k' := 0) (a := [.ref 95]) (rr := []) dX12_bestYears_1 rfl rfl rfl rfl (rc_of rfl rfl (by decide) ⟨rfl, by decide⟩) (Nat.le_of_ble_eq_true rfl) (Nat.le_of_ble_eq_true rfl) (by decide) y_good (Or.inl rfl) rfl ?_
  refine e_aload_n (p := 5) dX12_bestYears_4 rfl rfl ?_
  refine e_aload_n (p := 6) dX12_bestYears_5 rfl rfl ?_
  refine f_getI (c := 11) (j := 14) (n := 37) (v := tol D) (p := 9) dX12_bestYears_6 rfl rfl (by decide) (by decide) (Or.inr rfl) (I_u (I_u hO (by decide)) (by decide)) rfl ?_
  refine e_iload_n (p := 10) dX12_bestYears_9 rfl rfl ?_
  refine e_callV_int (p := 13) (k' := 2) (a := [.ref 95, .int (tol D), .int l]) (rr := []) dX12_bestYears_10 rfl rfl rfl rfl (rc_of rfl rfl (by decide) ⟨rfl, by decide⟩) (Nat.le_of_ble_eq_true rfl) (Nat.le_of_ble_eq_true rfl) (by decide) (y_why  ) (Or.inl rfl) rfl ?_
  refine e_istore_n (ls1 := [.ref 95, .int l, .int (whS (tol D) l), .null, .null]) (p := 14) dX12_bestYears_13 rfl rfl ?_
  refine e_iload_n (p := 15) dX12_bestYears_14 rfl rfl ?_
  refine e_if_eq (t := 24) (p := 18) dX12_bestYears_15 (by decide) rfl rfl (fun hc15 => absurd hc15 ht) (fun hc15 => ?_)
  refine e_aload_n (p := 19) dX12_bestYears_18 rfl rfl ?_
  refine e_iload_n (p := 20) dX12_bestYears_19 rfl rfl ?_
  refine e_callV_int (p := 23) (k' := 0) (a := [.ref 95, .int (whS (tol D) l)]) (rr := []) dX12_bestYears_20 rfl rfl rfl rfl (rc_of rfl rfl (by decide) ⟨rfl, by decide⟩) (Nat.le_of_ble_eq_true rfl) (Nat.le_of_ble_eq_true rfl) (by decide) y_no (Or.inl rfl) rfl ?_
  exact e_iretE dX12_bestYears_23 rfl rfl (by decide) ⟨rfl, hpq rfl⟩
set_option maxRecDepth 10000 in
theorem q_bestYears_ok {I : Nat → Nat → Int32} {J : Nat → Nat → Int64} {F : Nat → Nat → Option Nat} {nc ns : Nat} {D : oD} (hF : RFok F) (hM : oM I 98 D) (hW : WF D) (hO : I 95 14 = tol D) (ht1 : tol D = 1) {l : Nat} (hl : l ≤ 30)  : Ev 5 mX12_bestYears 0 [.ref 95, .int (nI l), .null, .null, .null] [] ((SH, nc, ns), I, J, F) (some (.int (gN (byF D (nI l)) 6 4 5))) ((SH, nc, ns), hp_u (hp_u I 95 0 0) 95 11 0, J, F) := by
  have hD := hW.c
  have hH := hW.h
  have hT := hW.t
  have bt := hT.2
  obtain ⟨b0, b1, b2, b3, b4, b5, b6⟩ := hD.2
  refine e_aload_n (p := 1) dX12_bestYears_0 rfl rfl ?_
  refine e_callV_v (p := 4) (k' := 0) (a := [.ref 95]) (rr := []) dX12_bestYears_1 rfl rfl rfl rfl (rc_of rfl rfl (by decide) ⟨rfl, by decide⟩) (Nat.le_of_ble_eq_true rfl) (Nat.le_of_ble_eq_true rfl) (by decide) y_good (Or.inl rfl) rfl ?_
  refine e_aload_n (p := 5) dX12_bestYears_4 rfl rfl ?_
  refine e_aload_n (p := 6) dX12_bestYears_5 rfl rfl ?_
  refine f_getI (c := 11) (j := 14) (n := 37) (v := 1) (p := 9) dX12_bestYears_6 rfl rfl (by decide) (by decide) (Or.inr rfl) ((I_u (I_u hO (by decide)) (by decide)).trans ht1) rfl ?_
  refine e_iload_n (p := 10) dX12_bestYears_9 rfl rfl ?_
  refine e_callV_int (p := 13) (k' := 2) (a := [.ref 95, .int 1, .int (nI l)]) (rr := []) dX12_bestYears_10 rfl rfl rfl rfl (rc_of rfl rfl (by decide) ⟨rfl, by decide⟩) (Nat.le_of_ble_eq_true rfl) (Nat.le_of_ble_eq_true rfl) (by decide) (Ev.i (wh_ok (by omega)) (y_why  )) (Or.inl rfl) rfl ?_
  refine e_istore_n (ls1 := [.ref 95, .int (nI l), .int 0, .null, .null]) (p := 14) dX12_bestYears_13 rfl rfl ?_
  refine e_iload_n (p := 15) dX12_bestYears_14 rfl rfl ?_
  refine e_if_eq (t := 24) (p := 18) dX12_bestYears_15 (by decide) rfl rfl (fun hc15 => ?_) (fun hc15 => absurd (by decide) hc15)
  refine e_iconst (v := 5) (p := 25) dX12_bestYears_24 (by decide) rfl ?_
  refine e_istore_n (ls1 := [.ref 95, .int (nI l), .int 0, .int 5, .null]) (p := 26) dX12_bestYears_25 rfl rfl ?_
  refine e_bipush (v := 6) (p := 28) dX12_bestYears_26 (by decide) rfl ?_
  refine e_istore (ls1 := [.ref 95, .int (nI l), .int 0, .int 5, .int 6]) (p := 30) dX12_bestYears_28 rfl rfl ?_
  exact y_bestYears_L hF (oM_u (oM_u hM (by decide)) (by decide)) hW _ 6 _ (by omega)
/-- the soonest landing at a harbour -/
def soonS (D : oD) (s : Nat → Int32) (h : Int32) : Int32 := if s 2 ≤ 0 then (if apartS D (s 1).toNatClampNeg h = -2 then -2 else s 0 + (if 1 < apartS D (s 1).toNatClampNeg h then apartS D (s 1).toNatClampNeg h else 1)) else -2
theorem WFs.at_ {D : oD} {s : Nat → Int32} (h : WFs D s) (h0 : 0 < dN D 0) : s 1 = nI (s 1).toNatClampNeg ∧ (s 1).toNatClampNeg < dN D 0 ∧ (s 1).toNatClampNeg < 6 := by
  obtain ⟨-, ⟨a, h1, h2, h3⟩, -⟩ := h
  rw [h3, nI_cl (by omega)]
  exact ⟨rfl, by omega, h1⟩
theorem apS_of {D : oD} {a : Nat} {b : Int32} (hD : WFc D) : apartS D a b = -2 ∨ ∃ n, n < 6 ∧ apartS D a b = nI n := by
  have b0 := hD.2.1
  rcases apartG_of (D := D) (b := b) (dN D 0) 0 (bit a) with h | ⟨n, h1, h2, h3⟩
  · exact Or.inl h
  · exact Or.inr ⟨n, by omega, h3⟩
theorem soon_eq {D : oD} {s : Nat → Int32} {h : Int32} (hD : WFc D) : soonS D s h = if s 2 ≤ 0 then (if apartS D (s 1).toNatClampNeg h < 0 then -2 else s 0 + (if apartS D (s 1).toNatClampNeg h = 0 then 1 else apartS D (s 1).toNatClampNeg h)) else -2 := by
  unfold soonS
  rcases apS_of (a := (s 1).toNatClampNeg) (b := h) hD with e | ⟨n, h1, e⟩
  · rw [e, if_pos rfl, if_pos (show (-2 : Int32) < 0 by decide)]
  · have : (if 1 < nI n then nI n else 1) = (if nI n = 0 then 1 else nI n) := by
      rcases (show n = 0 ∨ n = 1 ∨ n = 2 ∨ n = 3 ∨ n = 4 ∨ n = 5 by omega) with rfl | rfl | rfl | rfl | rfl | rfl <;> decide
    rw [e, if_neg (nI_m2 (by omega)), if_neg (nI_pos (by omega)), this]
set_option maxRecDepth 10000 in
theorem y_soonestAt {I : Nat → Nat → Int32} {J : Nat → Nat → Int64} {F : Nat → Nat → Option Nat} {nc ns : Nat} {D : oD} (hF : RFok F) (hM : oM I 98 D) (hW : WF D) (hO : I 95 14 = tol D) {s : Nat → Int32} (hs : stM I s) (hS : WFs D s) {b : Nat} {y : Int32} (hy : y = nI b) (hb : b < dN D 0) : Ev 3 mX12_soonestAt 0 [.ref 95, .int y, .null] [] ((SH, nc, ns), I, J, F) (some (.int (soonS D s y))) ((SH, nc, ns), I, J, F) := by
  have hD := hW.c
  have hH := hW.h
  have hT := hW.t
  have bt := hT.2
  obtain ⟨b0, b1, b2, b3, b4, b5, b6⟩ := hD.2
  have hat := hS.at_ (by omega)
  refine e_aload_n (p := 1) dX12_soonestAt_0 rfl rfl ?_
  refine e_getR (c := 11) (j := 17) (n := 37) (b := 100) (p := 4) dX12_soonestAt_1 rfl rfl (by decide) (by decide) rfl (r_95_17 hF) rfl ?_
  refine e_iconst (v := 2) (p := 5) dX12_soonestAt_4 (by decide) rfl ?_
  refine f_iald (n := 6) (i := 2) (v := s 2) (p := 6) dX12_soonestAt_5 rfl (by decide) (by decide) (by decide) (hs 2 (by decide)) rfl ?_
  refine e_if_le (t := 14) (p := 9) dX12_soonestAt_6 (by decide) rfl rfl (fun hc6 => ?_) (fun hc6 => ?_)
  · skip
    refine e_aload_n (p := 15) dX12_soonestAt_14 rfl rfl ?_
    refine e_aload_n (p := 16) dX12_soonestAt_15 rfl rfl ?_
    refine e_getR (c := 11) (j := 17) (n := 37) (b := 100) (p := 19) dX12_soonestAt_16 rfl rfl (by decide) (by decide) rfl (r_95_17 hF) rfl ?_
    refine e_iconst (v := 1) (p := 20) dX12_soonestAt_19 (by decide) rfl ?_
    refine f_iald (n := 6) (i := 1) (v := s 1) (p := 21) dX12_soonestAt_20 rfl (by decide) (by decide) (by decide) (hs 1 (by decide)) rfl ?_
    refine e_iload_n (p := 22) dX12_soonestAt_21 rfl rfl ?_
    refine e_callV_int (p := 25) (k' := 2) (a := [.ref 95, .int (s 1), .int y]) (rr := []) dX12_soonestAt_22 rfl rfl rfl rfl (rc_of rfl rfl (by decide) ⟨rfl, by decide⟩) (Nat.le_of_ble_eq_true rfl) (Nat.le_of_ble_eq_true rfl) (by decide) (y_sevensOf hF hM hW hat.1 hy hat.2.1 (by omega)) (Or.inl rfl) rfl ?_
    refine e_istore_n (ls1 := [.ref 95, .int y, .int (apartS D (s 1).toNatClampNeg y)]) (p := 26) dX12_soonestAt_25 rfl rfl ?_
    refine e_iload_n (p := 27) dX12_soonestAt_26 rfl rfl ?_
    refine e_if_ge (t := 35) (p := 30) dX12_soonestAt_27 (by decide) rfl rfl (fun hc27 => ?_) (fun hc27 => ?_)
    · skip
      refine e_aload_n (p := 36) dX12_soonestAt_35 rfl rfl ?_
      refine e_getR (c := 11) (j := 17) (n := 37) (b := 100) (p := 39) dX12_soonestAt_36 rfl rfl (by decide) (by decide) rfl (r_95_17 hF) rfl ?_
      refine e_iconst (v := 0) (p := 40) dX12_soonestAt_39 (by decide) rfl ?_
      refine f_iald (n := 6) (i := 0) (v := s 0) (p := 41) dX12_soonestAt_40 rfl (by decide) (by decide) (by decide) (hs 0 (by decide)) rfl ?_
      refine e_iload_n (p := 42) dX12_soonestAt_41 rfl rfl ?_
      refine e_if_ne (t := 49) (p := 45) dX12_soonestAt_42 (by decide) rfl rfl (fun hc42 => ?_) (fun hc42 => ?_)
      · skip
        refine e_iload_n (p := 50) dX12_soonestAt_49 rfl rfl ?_
        refine e_iadd (p := 51) dX12_soonestAt_50 rfl ?_
        exact e_iretE dX12_soonestAt_51 rfl rfl (by decide) ⟨by subst hy; simp only [soon_eq hD, hc6, hc27, hc42, (Int32.not_lt.mpr hc6), (Int32.not_lt.mpr hc27), (show ¬ (0 : Int32) < 0 by decide), ↓reduceIte], rfl⟩
      · skip
        refine e_iconst (v := 1) (p := 46) dX12_soonestAt_45 (by decide) rfl ?_
        refine e_goto (p := 50) dX12_soonestAt_46 (by decide) rfl ?_
        refine e_iadd (p := 51) dX12_soonestAt_50 rfl ?_
        exact e_iretE dX12_soonestAt_51 rfl rfl (by decide) ⟨by subst hy; simp only [soon_eq hD, hc6, hc27, hc42, (Int32.not_lt.mpr hc6), (Int32.not_lt.mpr hc27), (show ¬ (0 : Int32) < 0 by decide), ↓reduceIte], rfl⟩
    · skip
      refine e_bipush (v := -2) (p := 32) dX12_soonestAt_30 (by decide) rfl ?_
      refine e_goto (p := 51) dX12_soonestAt_32 (by decide) rfl ?_
      exact e_iretE dX12_soonestAt_51 rfl rfl (by decide) ⟨by subst hy; simp only [soon_eq hD, hc6, hc27, (Int32.not_lt.mpr hc6), (Int32.not_le.mp hc27), (show ¬ (0 : Int32) < 0 by decide), ↓reduceIte], rfl⟩
  · skip
    refine e_bipush (v := -2) (p := 11) dX12_soonestAt_9 (by decide) rfl ?_
    refine e_goto (p := 25) dX12_soonestAt_11 (by decide) rfl ?_
    refine e_istore_n (ls1 := [.ref 95, .int y, .int (-2)]) (p := 26) dX12_soonestAt_25 rfl rfl ?_
    refine e_iload_n (p := 27) dX12_soonestAt_26 rfl rfl ?_
    refine e_if_ge (t := 35) (p := 30) dX12_soonestAt_27 (by decide) rfl rfl (fun hc27 => absurd hc27 (by decide)) (fun hc27 => ?_)
    refine e_bipush (v := -2) (p := 32) dX12_soonestAt_30 (by decide) rfl ?_
    refine e_goto (p := 51) dX12_soonestAt_32 (by decide) rfl ?_
    exact e_iretE dX12_soonestAt_51 rfl rfl (by decide) ⟨by subst hy; simp only [soon_eq hD, hc6, (Int32.not_le.mp hc6), (show ¬ (0 : Int32) < 0 by decide), ↓reduceIte], rfl⟩
theorem lt_eq {D : oD} {k : Nat} (hW : WF D) (hk : k < dN D 4) : D 12 k = nI (D 12 k).toNatClampNeg ∧ (D 12 k).toNatClampNeg < dN D 0 := by
  obtain ⟨h, h1, h2⟩ := (hW.q.2.2.2.2.1 k hk).1
  have := hW.c.2.1
  rw [h2, nI_cl (by omega)]
  exact ⟨rfl, h1⟩
def lostF (D : oD) (s : Nat → Int32) (k : Nat) (a : Int32) : Int32 := if hbS (s 5) (nI k) = 0 then (if soonS D s (D 12 k) < 0 then a ||| bit k else if soonS D s (D 12 k) ≤ D 13 k then a else a ||| bit k) else a
set_option maxRecDepth 10000 in
theorem q_soonest_no {I : Nat → Nat → Int32} {J : Nat → Nat → Int64} {F : Nat → Nat → Option Nat} {nc ns : Nat} {D : oD} (hF : RFok F) (hM : oM I 98 D) (hW : WF D) (hO : I 95 14 = tol D) {v : Int32} (ht : ¬ (if ixB v (dN D 0) = 0 then 1 else 0) = 0) : Ev 4 mX12_soonest 0 [.ref 95, .int v] [] ((SH, nc, ns), I, J, F) (some (.int (-1))) ((SH, nc, ns), hp_u (hp_u I 95 0 0) 95 11 (if ixB v (dN D 0) = 0 then 1 else 0), J, F) := by
  have hD := hW.c
  have hH := hW.h
  have hT := hW.t
  have bt := hT.2
  obtain ⟨b0, b1, b2, b3, b4, b5, b6⟩ := hD.2
  refine e_aload_n (p := 1) dX12_soonest_0 rfl rfl ?_
  refine e_callV_v (p := 4) (k' := 0) (a := [.ref 95]) (rr := []) dX12_soonest_1 rfl rfl rfl rfl (rc_of rfl rfl (by decide) ⟨rfl, by decide⟩) (Nat.le_of_ble_eq_true rfl) (Nat.le_of_ble_eq_true rfl) (by decide) y_good (Or.inl rfl) rfl ?_
  refine e_aload_n (p := 5) dX12_soonest_4 rfl rfl ?_
  refine e_iload_n (p := 6) dX12_soonest_5 rfl rfl ?_
  refine e_callV_int (p := 9) (k' := 1) (a := [.ref 95, .int v]) (rr := []) dX12_soonest_6 rfl rfl rfl rfl (rc_of rfl rfl (by decide) ⟨rfl, by decide⟩) (Nat.le_of_ble_eq_true rfl) (Nat.le_of_ble_eq_true rfl) (by decide) (y_isHarbour hF (oM_u (oM_u hM (by decide)) (by decide)) hW (I_u (I_u hO (by decide)) (by decide)) ) (Or.inl rfl) rfl ?_
  refine e_if_eq (t := 20) (p := 12) dX12_soonest_9 (by decide) rfl rfl (fun hc9 => ?_) (fun hc9 => ?_)
  · skip
    refine e_aload_n (p := 21) dX12_soonest_20 rfl rfl ?_
    refine e_iconst (v := 1) (p := 22) dX12_soonest_21 (by decide) rfl ?_
    refine e_callV_int (p := 25) (k' := 0) (a := [.ref 95, .int 1]) (rr := []) dX12_soonest_22 rfl rfl rfl rfl (rc_of rfl rfl (by decide) ⟨rfl, by decide⟩) (Nat.le_of_ble_eq_true rfl) (Nat.le_of_ble_eq_true rfl) (by decide) y_no (Or.inl rfl) rfl ?_
    exact e_iretE dX12_soonest_25 rfl rfl (by decide) ⟨rfl, hpq (by first | (simp only [hc9, ↓reduceIte]; done) | (exfalso; simp_all; done))⟩
  · skip
    first | (refine absurd ?_ ht; simp only [hc9, ↓reduceIte]; done) | (exfalso; simp_all; done)
set_option maxRecDepth 10000 in
theorem q_soonest_ok {I : Nat → Nat → Int32} {J : Nat → Nat → Int64} {F : Nat → Nat → Option Nat} {nc ns : Nat} {D : oD} (hF : RFok F) (hM : oM I 98 D) (hW : WF D) (hO : I 95 14 = tol D) {s : Nat → Int32} (hs : stM I s) (hS : WFs D s) {h : Nat} (hh : h < dN D 0)  : Ev 4 mX12_soonest 0 [.ref 95, .int (nI h)] [] ((SH, nc, ns), I, J, F) (some (.int (soonS D s (nI h)))) ((SH, nc, ns), hp_u (hp_u I 95 0 0) 95 11 0, J, F) := by
  have hD := hW.c
  have hH := hW.h
  have hT := hW.t
  have bt := hT.2
  obtain ⟨b0, b1, b2, b3, b4, b5, b6⟩ := hD.2
  refine e_aload_n (p := 1) dX12_soonest_0 rfl rfl ?_
  refine e_callV_v (p := 4) (k' := 0) (a := [.ref 95]) (rr := []) dX12_soonest_1 rfl rfl rfl rfl (rc_of rfl rfl (by decide) ⟨rfl, by decide⟩) (Nat.le_of_ble_eq_true rfl) (Nat.le_of_ble_eq_true rfl) (by decide) y_good (Or.inl rfl) rfl ?_
  refine e_aload_n (p := 5) dX12_soonest_4 rfl rfl ?_
  refine e_iload_n (p := 6) dX12_soonest_5 rfl rfl ?_
  refine e_callV_int (p := 9) (k' := 1) (a := [.ref 95, .int (nI h)]) (rr := []) dX12_soonest_6 rfl rfl rfl rfl (rc_of rfl rfl (by decide) ⟨rfl, by decide⟩) (Nat.le_of_ble_eq_true rfl) (Nat.le_of_ble_eq_true rfl) (by decide) (Ev.i (ixB_ok (by omega) (by omega)) (y_isHarbour hF (oM_u (oM_u hM (by decide)) (by decide)) hW (I_u (I_u hO (by decide)) (by decide)) )) (Or.inl rfl) rfl ?_
  refine e_if_eq (t := 20) (p := 12) dX12_soonest_9 (by decide) rfl rfl (fun hc9 => absurd hc9 (by decide)) (fun hc9 => ?_)
  refine e_aload_n (p := 13) dX12_soonest_12 rfl rfl ?_
  refine e_iload_n (p := 14) dX12_soonest_13 rfl rfl ?_
  refine e_callV_int (p := 17) (k' := 3) (a := [.ref 95, .int (nI h)]) (rr := []) dX12_soonest_14 rfl rfl rfl rfl (rc_of rfl rfl (by decide) ⟨rfl, by decide⟩) (Nat.le_of_ble_eq_true rfl) (Nat.le_of_ble_eq_true rfl) (by decide) (y_soonestAt hF (oM_u (oM_u hM (by decide)) (by decide)) hW (I_u (I_u hO (by decide)) (by decide)) (stM_u (stM_u hs (by decide)) (by decide)) hS rfl (by omega)) (Or.inl rfl) rfl ?_
  refine e_goto (p := 25) dX12_soonest_17 (by decide) rfl ?_
  exact e_iretE dX12_soonest_25 rfl rfl (by decide) ⟨rfl, rfl⟩
set_option maxRecDepth 10000 in
theorem y_lost_L {I : Nat → Nat → Int32} {J : Nat → Nat → Int64} {F : Nat → Nat → Option Nat} {nc ns : Nat} {D : oD} (hF : RFok F) (hM : oM I 98 D) (hW : WF D) (hO : I 95 14 = tol D) {s : Nat → Int32} (hs : stM I s) (hS : WFs D s)  : ∀ (m j : Nat) (acc : Int32) (z : Value), j + m = dN D 4 → Ev 4 mX12_lost 21 [.ref 95, .int acc, .int (nI j), z] [] ((SH, nc, ns), I, J, F) (some (.int (gN (lostF D s) j m acc))) ((SH, nc, ns), I, J, F)
  | 0, j, acc, z, hj => by
    have hD := hW.c
    have hH := hW.h
    have hT := hW.t
    have bt := hT.2
    obtain ⟨b0, b1, b2, b3, b4, b5, b6⟩ := hD.2
    refine e_iload_n (p := 22) dX12_lost_21 rfl rfl ?_
    refine e_aload_n (p := 23) dX12_lost_22 rfl rfl ?_
    refine e_getR (c := 11) (j := 15) (n := 37) (b := 98) (p := 26) dX12_lost_23 rfl rfl (by decide) (by decide) rfl (r_95_15 hF) rfl ?_
    refine e_bipush (v := 6) (p := 28) dX12_lost_26 (by decide) rfl ?_
    refine f_iald (n := 276) (i := 6) (v := nI (dN D 4)) (p := 29) dX12_lost_28 rfl (by decide) (by decide) (by decide) (mNn (i := 4) hM hD (by decide)) rfl ?_
    refine e_icmp_ge (t := 98) (p := 32) dX12_lost_29 (by decide) rfl rfl (fun hc29 => ?_) (fun hc29 => absurd (nle (by omega) (by omega)) hc29)
    refine e_iload_n (p := 99) dX12_lost_98 rfl rfl ?_
    exact e_iretE dX12_lost_99 rfl rfl (by decide) ⟨rfl, rfl⟩
  | m + 1, j, acc, z, hj => by
    have hD := hW.c
    have hH := hW.h
    have hT := hW.t
    have bt := hT.2
    obtain ⟨b0, b1, b2, b3, b4, b5, b6⟩ := hD.2
    refine e_iload_n (p := 22) dX12_lost_21 rfl rfl ?_
    refine e_aload_n (p := 23) dX12_lost_22 rfl rfl ?_
    refine e_getR (c := 11) (j := 15) (n := 37) (b := 98) (p := 26) dX12_lost_23 rfl rfl (by decide) (by decide) rfl (r_95_15 hF) rfl ?_
    refine e_bipush (v := 6) (p := 28) dX12_lost_26 (by decide) rfl ?_
    refine f_iald (n := 276) (i := 6) (v := nI (dN D 4)) (p := 29) dX12_lost_28 rfl (by decide) (by decide) (by decide) (mNn (i := 4) hM hD (by decide)) rfl ?_
    refine e_icmp_ge (t := 98) (p := 32) dX12_lost_29 (by decide) rfl rfl (fun hc29 => absurd hc29 (nge (by omega) (by omega))) (fun hc29 => ?_)
    refine e_aload_n (p := 33) dX12_lost_32 rfl rfl ?_
    refine e_aload_n (p := 34) dX12_lost_33 rfl rfl ?_
    refine e_getR (c := 11) (j := 15) (n := 37) (b := 98) (p := 37) dX12_lost_34 rfl rfl (by decide) (by decide) rfl (r_95_15 hF) rfl ?_
    refine e_bipush (v := 75) (p := 39) dX12_lost_37 (by decide) rfl ?_
    refine e_iconst (v := 2) (p := 40) dX12_lost_39 (by decide) rfl ?_
    refine e_iload_n (p := 41) dX12_lost_40 rfl rfl ?_
    refine e_imul (p := 42) dX12_lost_41 rfl ?_
    refine e_iadd (p := 43) dX12_lost_42 rfl ?_
    refine f_iald (n := 276) (i := (75 + 2 * j)) (v := D 12 j) (p := 44) dX12_lost_43 rfl (by decide) (in_ix (ix2 75 2 j) (by omega) (by decide)) (cl_ix (ix2 75 2 j) (by omega)) (m12 hM (by omega)) rfl ?_
    refine e_callV_int (p := 47) (k' := 3) (a := [.ref 95, .int (D 12 j)]) (rr := []) dX12_lost_44 rfl rfl rfl rfl (rc_of rfl rfl (by decide) ⟨rfl, by decide⟩) (Nat.le_of_ble_eq_true rfl) (Nat.le_of_ble_eq_true rfl) (by decide) (y_soonestAt hF hM hW hO hs hS (lt_eq hW (show j < dN D 4 by omega)).1 (lt_eq hW (show j < dN D 4 by omega)).2) (Or.inl rfl) rfl ?_
    refine e_istore_n (ls1 := [.ref 95, .int acc, .int (nI j), .int (soonS D s (D 12 j))]) (p := 48) dX12_lost_47 rfl rfl ?_
    refine e_iload_n (p := 49) dX12_lost_48 rfl rfl ?_
    refine e_aload_n (p := 50) dX12_lost_49 rfl rfl ?_
    refine e_getR (c := 11) (j := 17) (n := 37) (b := 100) (p := 53) dX12_lost_50 rfl rfl (by decide) (by decide) rfl (r_95_17 hF) rfl ?_
    refine e_iconst (v := 5) (p := 54) dX12_lost_53 (by decide) rfl ?_
    refine f_iald (n := 6) (i := 5) (v := s 5) (p := 55) dX12_lost_54 rfl (by decide) (by decide) (by decide) (hs 5 (by decide)) rfl ?_
    refine e_iload_n (p := 56) dX12_lost_55 rfl rfl ?_
    refine e_callS_int (p := 59) (k' := 0) (a := [.int (s 5), .int (nI j)]) (rr := [.int acc]) dX12_lost_56 rfl rfl rfl rfl rfl (rc_st rfl) (Nat.le_of_ble_eq_true rfl) (Nat.le_of_ble_eq_true rfl) (by decide) (y_hasBit  ) (Or.inl rfl) rfl ?_
    refine e_if_ne (t := 89) (p := 62) dX12_lost_59 (by decide) rfl rfl (fun hc59 => ?_) (fun hc59 => ?_)
    · skip
      refine e_iconst (v := 0) (p := 90) dX12_lost_89 (by decide) rfl ?_
      refine e_ior (p := 91) dX12_lost_90 rfl ?_
      refine e_istore_n (ls1 := [.ref 95, .int (acc ||| 0), .int (nI j), .int (soonS D s (D 12 j))]) (p := 92) dX12_lost_91 rfl rfl ?_
      refine e_iinc (ls1 := [.ref 95, .int (acc ||| 0), .int ((nI j) + 1), .int (soonS D s (D 12 j))]) (p := 95) dX12_lost_92 rfl rfl rfl ?_
      refine e_goto (p := 21) dX12_lost_95 (by decide) rfl ?_
      rw [nI_1]
      exact Ev.res (by simp only [gN_s, lostF, hc59, bit, Int32.or_zero, Int32.add_zero, ↓reduceIte]) (y_lost_L hF hM hW hO hs hS m (j + 1) (acc ||| 0) (.int (soonS D s (D 12 j))) (by omega))
    · skip
      refine e_iload_n (p := 63) dX12_lost_62 rfl rfl ?_
      refine e_if_lt (t := 83) (p := 66) dX12_lost_63 (by decide) rfl rfl (fun hc63 => ?_) (fun hc63 => ?_)
      · skip
        refine e_iconst (v := 1) (p := 84) dX12_lost_83 (by decide) rfl ?_
        refine e_iload_n (p := 85) dX12_lost_84 rfl rfl ?_
        refine e_ishl (p := 86) dX12_lost_85 rfl ?_
        refine e_goto (p := 90) dX12_lost_86 (by decide) rfl ?_
        refine e_ior (p := 91) dX12_lost_90 rfl ?_
        refine e_istore_n (ls1 := [.ref 95, .int (acc ||| (1 <<< ((nI j) &&& 31))), .int (nI j), .int (soonS D s (D 12 j))]) (p := 92) dX12_lost_91 rfl rfl ?_
        refine e_iinc (ls1 := [.ref 95, .int (acc ||| (1 <<< ((nI j) &&& 31))), .int ((nI j) + 1), .int (soonS D s (D 12 j))]) (p := 95) dX12_lost_92 rfl rfl rfl ?_
        refine e_goto (p := 21) dX12_lost_95 (by decide) rfl ?_
        rw [nI_1]
        exact Ev.res (by simp only [gN_s, lostF, hc59, hc63, (Int32.not_le.mpr hc63), bit, Int32.or_zero, Int32.add_zero, ↓reduceIte]) (y_lost_L hF hM hW hO hs hS m (j + 1) (acc ||| (1 <<< ((nI j) &&& 31))) (.int (soonS D s (D 12 j))) (by omega))
      · skip
        refine e_iload_n (p := 67) dX12_lost_66 rfl rfl ?_
        refine e_aload_n (p := 68) dX12_lost_67 rfl rfl ?_
        refine e_getR (c := 11) (j := 15) (n := 37) (b := 98) (p := 71) dX12_lost_68 rfl rfl (by decide) (by decide) rfl (r_95_15 hF) rfl ?_
        refine e_bipush (v := 75) (p := 73) dX12_lost_71 (by decide) rfl ?_
        refine e_iconst (v := 2) (p := 74) dX12_lost_73 (by decide) rfl ?_
        refine e_iload_n (p := 75) dX12_lost_74 rfl rfl ?_
        refine e_imul (p := 76) dX12_lost_75 rfl ?_
        refine e_iadd (p := 77) dX12_lost_76 rfl ?_
        refine e_iconst (v := 1) (p := 78) dX12_lost_77 (by decide) rfl ?_
        refine e_iadd (p := 79) dX12_lost_78 rfl ?_
        refine f_iald (n := 276) (i := (75 + 2 * j + 1)) (v := D 13 j) (p := 80) dX12_lost_79 rfl (by decide) (in_ix (ix3 75 2 j 1) (by omega) (by decide)) (cl_ix (ix3 75 2 j 1) (by omega)) (m13 hM (by omega)) rfl ?_
        refine e_icmp_le (t := 89) (p := 83) dX12_lost_80 (by decide) rfl rfl (fun hc80 => ?_) (fun hc80 => ?_)
        · skip
          refine e_iconst (v := 0) (p := 90) dX12_lost_89 (by decide) rfl ?_
          refine e_ior (p := 91) dX12_lost_90 rfl ?_
          refine e_istore_n (ls1 := [.ref 95, .int (acc ||| 0), .int (nI j), .int (soonS D s (D 12 j))]) (p := 92) dX12_lost_91 rfl rfl ?_
          refine e_iinc (ls1 := [.ref 95, .int (acc ||| 0), .int ((nI j) + 1), .int (soonS D s (D 12 j))]) (p := 95) dX12_lost_92 rfl rfl rfl ?_
          refine e_goto (p := 21) dX12_lost_95 (by decide) rfl ?_
          rw [nI_1]
          exact Ev.res (by simp only [gN_s, lostF, hc59, hc63, hc80, (Int32.not_lt.mp hc63), (Int32.not_lt.mpr hc80), bit, Int32.or_zero, Int32.add_zero, ↓reduceIte]) (y_lost_L hF hM hW hO hs hS m (j + 1) (acc ||| 0) (.int (soonS D s (D 12 j))) (by omega))
        · skip
          refine e_iconst (v := 1) (p := 84) dX12_lost_83 (by decide) rfl ?_
          refine e_iload_n (p := 85) dX12_lost_84 rfl rfl ?_
          refine e_ishl (p := 86) dX12_lost_85 rfl ?_
          refine e_goto (p := 90) dX12_lost_86 (by decide) rfl ?_
          refine e_ior (p := 91) dX12_lost_90 rfl ?_
          refine e_istore_n (ls1 := [.ref 95, .int (acc ||| (1 <<< ((nI j) &&& 31))), .int (nI j), .int (soonS D s (D 12 j))]) (p := 92) dX12_lost_91 rfl rfl ?_
          refine e_iinc (ls1 := [.ref 95, .int (acc ||| (1 <<< ((nI j) &&& 31))), .int ((nI j) + 1), .int (soonS D s (D 12 j))]) (p := 95) dX12_lost_92 rfl rfl rfl ?_
          refine e_goto (p := 21) dX12_lost_95 (by decide) rfl ?_
          rw [nI_1]
          exact Ev.res (by simp only [gN_s, lostF, hc59, hc63, hc80, (Int32.not_lt.mp hc63), (Int32.not_le.mp hc80), bit, Int32.or_zero, Int32.add_zero, ↓reduceIte]) (y_lost_L hF hM hW hO hs hS m (j + 1) (acc ||| (1 <<< ((nI j) &&& 31))) (.int (soonS D s (D 12 j))) (by omega))
set_option maxRecDepth 10000 in
theorem q_lost_no {I : Nat → Nat → Int32} {J : Nat → Nat → Int64} {F : Nat → Nat → Option Nat} {nc ns : Nat} {D : oD} (hF : RFok F) (hM : oM I 98 D) (hW : WF D) (hO : I 95 14 = tol D) (ht : ¬ (if tol D = 0 then 1 else 0) = 0) : Ev 4 mX12_lost 0 [.ref 95, .null, .null, .null] [] ((SH, nc, ns), I, J, F) (some (.int (-1))) ((SH, nc, ns), hp_u (hp_u I 95 0 0) 95 11 (if tol D = 0 then 1 else 0), J, F) := by
  have hD := hW.c
  have hH := hW.h
  have hT := hW.t
  have bt := hT.2
  obtain ⟨b0, b1, b2, b3, b4, b5, b6⟩ := hD.2
  refine e_aload_n (p := 1) dX12_lost_0 rfl rfl ?_
  refine e_callV_v (p := 4) (k' := 0) (a := [.ref 95]) (rr := []) dX12_lost_1 rfl rfl rfl rfl (rc_of rfl rfl (by decide) ⟨rfl, by decide⟩) (Nat.le_of_ble_eq_true rfl) (Nat.le_of_ble_eq_true rfl) (by decide) y_good (Or.inl rfl) rfl ?_
  refine e_aload_n (p := 5) dX12_lost_4 rfl rfl ?_
  refine f_getI (c := 11) (j := 14) (n := 37) (v := tol D) (p := 8) dX12_lost_5 rfl rfl (by decide) (by decide) (Or.inr rfl) (I_u (I_u hO (by decide)) (by decide)) rfl ?_
  refine e_if_ne (t := 17) (p := 11) dX12_lost_8 (by decide) rfl rfl (fun hc8 => ?_) (fun hc8 => ?_)
  · skip
    first | (refine absurd ?_ ht; simp only [hc8, ↓reduceIte]; done) | (exfalso; simp_all; done)
  · skip
    refine e_aload_n (p := 12) dX12_lost_11 rfl rfl ?_
    refine e_iconst (v := 1) (p := 13) dX12_lost_12 (by decide) rfl ?_
    refine e_callV_int (p := 16) (k' := 0) (a := [.ref 95, .int 1]) (rr := []) dX12_lost_13 rfl rfl rfl rfl (rc_of rfl rfl (by decide) ⟨rfl, by decide⟩) (Nat.le_of_ble_eq_true rfl) (Nat.le_of_ble_eq_true rfl) (by decide) y_no (Or.inl rfl) rfl ?_
    exact e_iretE dX12_lost_16 rfl rfl (by decide) ⟨rfl, hpq (by first | (simp only [hc8, ↓reduceIte]; done) | (exfalso; simp_all; done))⟩
set_option maxRecDepth 10000 in
theorem q_lost_ok {I : Nat → Nat → Int32} {J : Nat → Nat → Int64} {F : Nat → Nat → Option Nat} {nc ns : Nat} {D : oD} (hF : RFok F) (hM : oM I 98 D) (hW : WF D) (hO : I 95 14 = tol D) {s : Nat → Int32} (hs : stM I s) (hS : WFs D s) (ht1 : tol D = 1)  : Ev 4 mX12_lost 0 [.ref 95, .null, .null, .null] [] ((SH, nc, ns), I, J, F) (some (.int (gN (lostF D s) 0 (dN D 4) 0))) ((SH, nc, ns), hp_u (hp_u I 95 0 0) 95 11 0, J, F) := by
  have hD := hW.c
  have hH := hW.h
  have hT := hW.t
  have bt := hT.2
  obtain ⟨b0, b1, b2, b3, b4, b5, b6⟩ := hD.2
  refine e_aload_n (p := 1) dX12_lost_0 rfl rfl ?_
  refine e_callV_v (p := 4) (k' := 0) (a := [.ref 95]) (rr := []) dX12_lost_1 rfl rfl rfl rfl (rc_of rfl rfl (by decide) ⟨rfl, by decide⟩) (Nat.le_of_ble_eq_true rfl) (Nat.le_of_ble_eq_true rfl) (by decide) y_good (Or.inl rfl) rfl ?_
  refine e_aload_n (p := 5) dX12_lost_4 rfl rfl ?_
  refine f_getI (c := 11) (j := 14) (n := 37) (v := 1) (p := 8) dX12_lost_5 rfl rfl (by decide) (by decide) (Or.inr rfl) ((I_u (I_u hO (by decide)) (by decide)).trans ht1) rfl ?_
  refine e_if_ne (t := 17) (p := 11) dX12_lost_8 (by decide) rfl rfl (fun hc8 => ?_) (fun hc8 => absurd hc8 (by decide))
  refine e_iconst (v := 0) (p := 18) dX12_lost_17 (by decide) rfl ?_
  refine e_istore_n (ls1 := [.ref 95, .int 0, .null, .null]) (p := 19) dX12_lost_18 rfl rfl ?_
  refine e_iconst (v := 0) (p := 20) dX12_lost_19 (by decide) rfl ?_
  refine e_istore_n (ls1 := [.ref 95, .int 0, .int 0, .null]) (p := 21) dX12_lost_20 rfl rfl ?_
  exact y_lost_L hF (oM_u (oM_u hM (by decide)) (by decide)) hW (I_u (I_u hO (by decide)) (by decide)) (stM_u (stM_u hs (by decide)) (by decide)) hS _ 0 _ _ (by omega)
theorem b_ge {H j : Nat} (h : H < 7) (hj : j < 2 ^ H) : ¬ (1 : Int32) <<< (nI H &&& 31) ≤ nI j := by
  rw [show (1 : Int32) <<< (nI H &&& 31) = nI (2 ^ H) from bit_nI H (by omega)]
  exact nI_ge hj (Nat.lt_of_le_of_lt (Nat.pow_le_pow_right (by omega) (show H ≤ 7 by omega)) (by decide))
theorem b_le {H j : Nat} (h : H < 7) (hj : j = 2 ^ H) : (1 : Int32) <<< (nI H &&& 31) ≤ nI j := by
  subst hj
  rw [show (1 : Int32) <<< (nI H &&& 31) = nI (2 ^ H) from bit_nI H (by omega)]
  exact nI_le (Nat.le_refl _) (Nat.lt_of_le_of_lt (Nat.pow_le_pow_right (by omega) (show H ≤ 7 by omega)) (by decide))
def bellM (D : oD) (j : Nat) (a : Int32) : Int32 := if stepM D (nI j) = (1 : Int32) <<< (nI (dN D 0) &&& 31) - 1 then (if onesS a ≤ onesS (nI j) then a else nI j) else a
set_option maxRecDepth 10000 in
theorem y_bells_i {I : Nat → Nat → Int32} {J : Nat → Nat → Int64} {F : Nat → Nat → Option Nat} {nc ns : Nat} {D : oD} (hF : RFok F) (hM : oM I 98 D) (hW : WF D) {t x : Int32} {r : Option Value} {h' : hp_H} : ∀ (m j : Nat) (acc : Int32), j + m = dN D 0 → Ev 2 mX12_bells 87 [.ref 95, .int t, .int x, .int (gN (fun k a => a ||| (if hbS x (nI k) = 0 then 0 else D 5 k)) j m acc), .int (nI (dN D 0))] [] ((SH, nc, ns), I, J, F) r h' → Ev 2 mX12_bells 47 [.ref 95, .int t, .int x, .int acc, .int (nI j)] [] ((SH, nc, ns), I, J, F) r h'
  | 0, j, acc, hj => fun q => by
    have hD := hW.c
    have hH := hW.h
    have hT := hW.t
    have bt := hT.2
    obtain ⟨b0, b1, b2, b3, b4, b5, b6⟩ := hD.2
    obtain rfl : j = dN D 0 := by omega
    refine e_iload (p := 49) dX12_bells_47 rfl rfl ?_
    refine e_aload_n (p := 50) dX12_bells_49 rfl rfl ?_
    refine e_getR (c := 11) (j := 15) (n := 37) (b := 98) (p := 53) dX12_bells_50 rfl rfl (by decide) (by decide) rfl (r_95_15 hF) rfl ?_
    refine e_iconst (v := 2) (p := 54) dX12_bells_53 (by decide) rfl ?_
    refine f_iald (n := 276) (i := 2) (v := nI (dN D 0)) (p := 55) dX12_bells_54 rfl (by decide) (by decide) (by decide) (mNn (i := 0) hM hD (by decide)) rfl ?_
    refine e_icmp_ge (t := 87) (p := 58) dX12_bells_55 (by decide) rfl rfl (fun hc55 => ?_) (fun hc55 => absurd (nle (by omega) (by omega)) hc55)
    exact q
  | m + 1, j, acc, hj => fun q => by
    have hD := hW.c
    have hH := hW.h
    have hT := hW.t
    have bt := hT.2
    obtain ⟨b0, b1, b2, b3, b4, b5, b6⟩ := hD.2
    refine e_iload (p := 49) dX12_bells_47 rfl rfl ?_
    refine e_aload_n (p := 50) dX12_bells_49 rfl rfl ?_
    refine e_getR (c := 11) (j := 15) (n := 37) (b := 98) (p := 53) dX12_bells_50 rfl rfl (by decide) (by decide) rfl (r_95_15 hF) rfl ?_
    refine e_iconst (v := 2) (p := 54) dX12_bells_53 (by decide) rfl ?_
    refine f_iald (n := 276) (i := 2) (v := nI (dN D 0)) (p := 55) dX12_bells_54 rfl (by decide) (by decide) (by decide) (mNn (i := 0) hM hD (by decide)) rfl ?_
    refine e_icmp_ge (t := 87) (p := 58) dX12_bells_55 (by decide) rfl rfl (fun hc55 => absurd hc55 (nge (by omega) (by omega))) (fun hc55 => ?_)
    refine e_iload_n (p := 59) dX12_bells_58 rfl rfl ?_
    refine e_iload_n (p := 60) dX12_bells_59 rfl rfl ?_
    refine e_iload (p := 62) dX12_bells_60 rfl rfl ?_
    refine e_callS_int (p := 65) (k' := 0) (a := [.int x, .int (nI j)]) (rr := [.int acc]) dX12_bells_62 rfl rfl rfl rfl rfl (rc_st rfl) (Nat.le_of_ble_eq_true rfl) (Nat.le_of_ble_eq_true rfl) (by decide) (y_hasBit  ) (Or.inl rfl) rfl ?_
    refine e_if_eq (t := 78) (p := 68) dX12_bells_65 (by decide) rfl rfl (fun hc65 => ?_) (fun hc65 => ?_)
    · skip
      refine e_iconst (v := 0) (p := 79) dX12_bells_78 (by decide) rfl ?_
      refine e_ior (p := 80) dX12_bells_79 rfl ?_
      refine e_istore_n (ls1 := [.ref 95, .int t, .int x, .int (acc ||| 0), .int (nI j)]) (p := 81) dX12_bells_80 rfl rfl ?_
      refine e_iinc (ls1 := [.ref 95, .int t, .int x, .int (acc ||| 0), .int ((nI j) + 1)]) (p := 84) dX12_bells_81 rfl rfl rfl ?_
      refine e_goto (p := 47) dX12_bells_84 (by decide) rfl ?_
      rw [nI_1]
      refine y_bells_i hF hM hW m (j + 1) (acc ||| 0)  (by omega) ?_
      simpa only [gN_s, hc65, bit, Int32.or_zero, Int32.add_zero, ↓reduceIte] using q
    · skip
      refine e_aload_n (p := 69) dX12_bells_68 rfl rfl ?_
      refine e_iload (p := 71) dX12_bells_69 rfl rfl ?_
      refine e_iconst (v := 2) (p := 72) dX12_bells_71 (by decide) rfl ?_
      refine e_callV_int (p := 75) (k' := 0) (a := [.ref 95, .int (nI j), .int 2]) (rr := [.int acc]) dX12_bells_72 rfl rfl rfl rfl (rc_of rfl rfl (by decide) ⟨rfl, by decide⟩) (Nat.le_of_ble_eq_true rfl) (Nat.le_of_ble_eq_true rfl) (by decide) (y_ofHarbour (x := j) (k := 2) hF (m5 hM (by omega)) (by omega) (by omega)) (Or.inl rfl) rfl ?_
      refine e_goto (p := 79) dX12_bells_75 (by decide) rfl ?_
      refine e_ior (p := 80) dX12_bells_79 rfl ?_
      refine e_istore_n (ls1 := [.ref 95, .int t, .int x, .int (acc ||| (D 5 j)), .int (nI j)]) (p := 81) dX12_bells_80 rfl rfl ?_
      refine e_iinc (ls1 := [.ref 95, .int t, .int x, .int (acc ||| (D 5 j)), .int ((nI j) + 1)]) (p := 84) dX12_bells_81 rfl rfl rfl ?_
      refine e_goto (p := 47) dX12_bells_84 (by decide) rfl ?_
      rw [nI_1]
      refine y_bells_i hF hM hW m (j + 1) (acc ||| (D 5 j))  (by omega) ?_
      simpa only [gN_s, hc65, bit, Int32.or_zero, Int32.add_zero, ↓reduceIte] using q
set_option maxRecDepth 10000 in
theorem y_bells_L {I : Nat → Nat → Int32} {J : Nat → Nat → Int64} {F : Nat → Nat → Option Nat} {nc ns : Nat} {D : oD} (hF : RFok F) (hM : oM I 98 D) (hW : WF D)  : ∀ (m j : Nat) (acc : Int32) (z1 : Value) (z2 : Value), j + m = 2 ^ dN D 0 → Ev 2 mX12_bells 30 [.ref 95, .int acc, .int (nI j), z1, z2] [] ((SH, nc, ns), I, J, F) (some (.int (gN (bellM D) j m acc))) ((SH, nc, ns), I, J, F)
  | 0, j, acc, z1, z2, hj => by
    have hD := hW.c
    have hH := hW.h
    have hT := hW.t
    have bt := hT.2
    obtain ⟨b0, b1, b2, b3, b4, b5, b6⟩ := hD.2
    refine e_iload_n (p := 31) dX12_bells_30 rfl rfl ?_
    refine e_iconst (v := 1) (p := 32) dX12_bells_31 (by decide) rfl ?_
    refine e_aload_n (p := 33) dX12_bells_32 rfl rfl ?_
    refine e_getR (c := 11) (j := 15) (n := 37) (b := 98) (p := 36) dX12_bells_33 rfl rfl (by decide) (by decide) rfl (r_95_15 hF) rfl ?_
    refine e_iconst (v := 2) (p := 37) dX12_bells_36 (by decide) rfl ?_
    refine f_iald (n := 276) (i := 2) (v := nI (dN D 0)) (p := 38) dX12_bells_37 rfl (by decide) (by decide) (by decide) (mNn (i := 0) hM hD (by decide)) rfl ?_
    refine e_ishl (p := 39) dX12_bells_38 rfl ?_
    refine e_icmp_ge (t := 120) (p := 42) dX12_bells_39 (by decide) rfl rfl (fun hc39 => ?_) (fun hc39 => absurd (b_le (by omega) (by omega)) hc39)
    refine e_iload_n (p := 121) dX12_bells_120 rfl rfl ?_
    exact e_iretE dX12_bells_121 rfl rfl (by decide) ⟨rfl, rfl⟩
  | m + 1, j, acc, z1, z2, hj => by
    have hD := hW.c
    have hH := hW.h
    have hT := hW.t
    have bt := hT.2
    obtain ⟨b0, b1, b2, b3, b4, b5, b6⟩ := hD.2
    refine e_iload_n (p := 31) dX12_bells_30 rfl rfl ?_
    refine e_iconst (v := 1) (p := 32) dX12_bells_31 (by decide) rfl ?_
    refine e_aload_n (p := 33) dX12_bells_32 rfl rfl ?_
    refine e_getR (c := 11) (j := 15) (n := 37) (b := 98) (p := 36) dX12_bells_33 rfl rfl (by decide) (by decide) rfl (r_95_15 hF) rfl ?_
    refine e_iconst (v := 2) (p := 37) dX12_bells_36 (by decide) rfl ?_
    refine f_iald (n := 276) (i := 2) (v := nI (dN D 0)) (p := 38) dX12_bells_37 rfl (by decide) (by decide) (by decide) (mNn (i := 0) hM hD (by decide)) rfl ?_
    refine e_ishl (p := 39) dX12_bells_38 rfl ?_
    refine e_icmp_ge (t := 120) (p := 42) dX12_bells_39 (by decide) rfl rfl (fun hc39 => absurd hc39 (b_ge (by omega) (by omega))) (fun hc39 => ?_)
    refine e_iload_n (p := 43) dX12_bells_42 rfl rfl ?_
    refine e_istore_n (ls1 := [.ref 95, .int acc, .int (nI j), .int (nI j), z2]) (p := 44) dX12_bells_43 rfl rfl ?_
    refine e_iconst (v := 0) (p := 45) dX12_bells_44 (by decide) rfl ?_
    refine e_istore (ls1 := [.ref 95, .int acc, .int (nI j), .int (nI j), .int 0]) (p := 47) dX12_bells_45 rfl rfl ?_
    refine y_bells_i hF hM hW (dN D 0) 0 _ (by omega) ?_
    refine e_iload_n (p := 88) dX12_bells_87 rfl rfl ?_
    refine e_iconst (v := 1) (p := 89) dX12_bells_88 (by decide) rfl ?_
    refine e_aload_n (p := 90) dX12_bells_89 rfl rfl ?_
    refine e_getR (c := 11) (j := 15) (n := 37) (b := 98) (p := 93) dX12_bells_90 rfl rfl (by decide) (by decide) rfl (r_95_15 hF) rfl ?_
    refine e_iconst (v := 2) (p := 94) dX12_bells_93 (by decide) rfl ?_
    refine f_iald (n := 276) (i := 2) (v := nI (dN D 0)) (p := 95) dX12_bells_94 rfl (by decide) (by decide) (by decide) (mNn (i := 0) hM hD (by decide)) rfl ?_
    refine e_ishl (p := 96) dX12_bells_95 rfl ?_
    refine e_iconst (v := 1) (p := 97) dX12_bells_96 (by decide) rfl ?_
    refine e_isub (p := 98) dX12_bells_97 rfl ?_
    refine e_icmp_ne (t := 114) (p := 101) dX12_bells_98 (by decide) rfl rfl (fun hc98 => ?_) (fun hc98 => ?_)
    · skip
      refine e_iinc (ls1 := [.ref 95, .int acc, .int ((nI j) + 1), .int (stepM D (nI j)), .int (nI (dN D 0))]) (p := 117) dX12_bells_114 rfl rfl rfl ?_
      refine e_goto (p := 30) dX12_bells_117 (by decide) rfl ?_
      rw [nI_1]
      exact Ev.res (by simp only [gN_s, bellM, stepM, hc98, bit, Int32.or_zero, Int32.add_zero, ↓reduceIte]) (y_bells_L hF hM hW m (j + 1) acc (.int (stepM D (nI j))) (.int (nI (dN D 0))) (by omega))
    · skip
      refine e_iload_n (p := 102) dX12_bells_101 rfl rfl ?_
      refine e_callS_int (p := 105) (k' := 0) (a := [.int (nI j)]) (rr := []) dX12_bells_102 rfl rfl rfl rfl rfl (rc_st rfl) (Nat.le_of_ble_eq_true rfl) (Nat.le_of_ble_eq_true rfl) (by decide) (y_ones  ) (Or.inl rfl) rfl ?_
      refine e_iload_n (p := 106) dX12_bells_105 rfl rfl ?_
      refine e_callS_int (p := 109) (k' := 0) (a := [.int acc]) (rr := [.int (onesS (nI j))]) dX12_bells_106 rfl rfl rfl rfl rfl (rc_st rfl) (Nat.le_of_ble_eq_true rfl) (Nat.le_of_ble_eq_true rfl) (by decide) (y_ones  ) (Or.inl rfl) rfl ?_
      refine e_icmp_ge (t := 114) (p := 112) dX12_bells_109 (by decide) rfl rfl (fun hc109 => ?_) (fun hc109 => ?_)
      · skip
        refine e_iinc (ls1 := [.ref 95, .int acc, .int ((nI j) + 1), .int (stepM D (nI j)), .int (nI (dN D 0))]) (p := 117) dX12_bells_114 rfl rfl rfl ?_
        refine e_goto (p := 30) dX12_bells_117 (by decide) rfl ?_
        rw [nI_1]
        exact Ev.res (by simp only [gN_s, bellM, stepM, hc98, hc109, (Int32.not_lt.mpr hc109), bit, Int32.or_zero, Int32.add_zero, ↓reduceIte]) (y_bells_L hF hM hW m (j + 1) acc (.int (stepM D (nI j))) (.int (nI (dN D 0))) (by omega))
      · skip
        refine e_iload_n (p := 113) dX12_bells_112 rfl rfl ?_
        refine e_istore_n (ls1 := [.ref 95, .int (nI j), .int (nI j), .int (stepM D (nI j)), .int (nI (dN D 0))]) (p := 114) dX12_bells_113 rfl rfl ?_
        refine e_iinc (ls1 := [.ref 95, .int (nI j), .int ((nI j) + 1), .int (stepM D (nI j)), .int (nI (dN D 0))]) (p := 117) dX12_bells_114 rfl rfl rfl ?_
        refine e_goto (p := 30) dX12_bells_117 (by decide) rfl ?_
        rw [nI_1]
        exact Ev.res (by simp only [gN_s, bellM, stepM, hc98, hc109, (Int32.not_le.mp hc109), bit, Int32.or_zero, Int32.add_zero, ↓reduceIte]) (y_bells_L hF hM hW m (j + 1) (nI j) (.int (stepM D (nI j))) (.int (nI (dN D 0))) (by omega))
set_option maxRecDepth 10000 in
theorem q_bells_no {I : Nat → Nat → Int32} {J : Nat → Nat → Int64} {F : Nat → Nat → Option Nat} {nc ns : Nat} {D : oD} (hF : RFok F) (hM : oM I 98 D) (hW : WF D) (hO : I 95 14 = tol D) (ht : ¬ (if tol D = 0 then 1 else 0) = 0) : Ev 2 mX12_bells 0 [.ref 95, .null, .null, .null, .null] [] ((SH, nc, ns), I, J, F) (some (.int (-1))) ((SH, nc, ns), hp_u (hp_u I 95 0 0) 95 11 (if tol D = 0 then 1 else 0), J, F) := by
  have hD := hW.c
  have hH := hW.h
  have hT := hW.t
  have bt := hT.2
  obtain ⟨b0, b1, b2, b3, b4, b5, b6⟩ := hD.2
  refine e_aload_n (p := 1) dX12_bells_0 rfl rfl ?_
  refine e_callV_v (p := 4) (k' := 0) (a := [.ref 95]) (rr := []) dX12_bells_1 rfl rfl rfl rfl (rc_of rfl rfl (by decide) ⟨rfl, by decide⟩) (Nat.le_of_ble_eq_true rfl) (Nat.le_of_ble_eq_true rfl) (by decide) y_good (Or.inl rfl) rfl ?_
  refine e_aload_n (p := 5) dX12_bells_4 rfl rfl ?_
  refine f_getI (c := 11) (j := 14) (n := 37) (v := tol D) (p := 8) dX12_bells_5 rfl rfl (by decide) (by decide) (Or.inr rfl) (I_u (I_u hO (by decide)) (by decide)) rfl ?_
  refine e_if_ne (t := 17) (p := 11) dX12_bells_8 (by decide) rfl rfl (fun hc8 => ?_) (fun hc8 => ?_)
  · skip
    first | (refine absurd ?_ ht; simp only [hc8, ↓reduceIte]; done) | (exfalso; simp_all; done)
  · skip
    refine e_aload_n (p := 12) dX12_bells_11 rfl rfl ?_
    refine e_iconst (v := 1) (p := 13) dX12_bells_12 (by decide) rfl ?_
    refine e_callV_int (p := 16) (k' := 0) (a := [.ref 95, .int 1]) (rr := []) dX12_bells_13 rfl rfl rfl rfl (rc_of rfl rfl (by decide) ⟨rfl, by decide⟩) (Nat.le_of_ble_eq_true rfl) (Nat.le_of_ble_eq_true rfl) (by decide) y_no (Or.inl rfl) rfl ?_
    exact e_iretE dX12_bells_16 rfl rfl (by decide) ⟨rfl, hpq (by first | (simp only [hc8, ↓reduceIte]; done) | (exfalso; simp_all; done))⟩
set_option maxRecDepth 10000 in
theorem q_bells_ok {I : Nat → Nat → Int32} {J : Nat → Nat → Int64} {F : Nat → Nat → Option Nat} {nc ns : Nat} {D : oD} (hF : RFok F) (hM : oM I 98 D) (hW : WF D) (hO : I 95 14 = tol D) (ht1 : tol D = 1)  : Ev 2 mX12_bells 0 [.ref 95, .null, .null, .null, .null] [] ((SH, nc, ns), I, J, F) (some (.int (gN (bellM D) 0 (2 ^ dN D 0) ((1 : Int32) <<< (nI (dN D 0) &&& 31) - 1)))) ((SH, nc, ns), hp_u (hp_u I 95 0 0) 95 11 0, J, F) := by
  have hD := hW.c
  have hH := hW.h
  have hT := hW.t
  have bt := hT.2
  obtain ⟨b0, b1, b2, b3, b4, b5, b6⟩ := hD.2
  refine e_aload_n (p := 1) dX12_bells_0 rfl rfl ?_
  refine e_callV_v (p := 4) (k' := 0) (a := [.ref 95]) (rr := []) dX12_bells_1 rfl rfl rfl rfl (rc_of rfl rfl (by decide) ⟨rfl, by decide⟩) (Nat.le_of_ble_eq_true rfl) (Nat.le_of_ble_eq_true rfl) (by decide) y_good (Or.inl rfl) rfl ?_
  refine e_aload_n (p := 5) dX12_bells_4 rfl rfl ?_
  refine f_getI (c := 11) (j := 14) (n := 37) (v := 1) (p := 8) dX12_bells_5 rfl rfl (by decide) (by decide) (Or.inr rfl) ((I_u (I_u hO (by decide)) (by decide)).trans ht1) rfl ?_
  refine e_if_ne (t := 17) (p := 11) dX12_bells_8 (by decide) rfl rfl (fun hc8 => ?_) (fun hc8 => absurd hc8 (by decide))
  refine e_iconst (v := 1) (p := 18) dX12_bells_17 (by decide) rfl ?_
  refine e_aload_n (p := 19) dX12_bells_18 rfl rfl ?_
  refine e_getR (c := 11) (j := 15) (n := 37) (b := 98) (p := 22) dX12_bells_19 rfl rfl (by decide) (by decide) rfl (r_95_15 hF) rfl ?_
  refine e_iconst (v := 2) (p := 23) dX12_bells_22 (by decide) rfl ?_
  refine f_iald (n := 276) (i := 2) (v := nI (dN D 0)) (p := 24) dX12_bells_23 rfl (by decide) (by decide) (by decide) (mNn (i := 0) (oM_u (oM_u hM (by decide)) (by decide)) hD (by decide)) rfl ?_
  refine e_ishl (p := 25) dX12_bells_24 rfl ?_
  refine e_iconst (v := 1) (p := 26) dX12_bells_25 (by decide) rfl ?_
  refine e_isub (p := 27) dX12_bells_26 rfl ?_
  refine e_istore_n (ls1 := [.ref 95, .int ((1 <<< ((nI (dN D 0)) &&& 31)) - 1), .null, .null, .null]) (p := 28) dX12_bells_27 rfl rfl ?_
  refine e_iconst (v := 0) (p := 29) dX12_bells_28 (by decide) rfl ?_
  refine e_istore_n (ls1 := [.ref 95, .int ((1 <<< ((nI (dN D 0)) &&& 31)) - 1), .int 0, .null, .null]) (p := 30) dX12_bells_29 rfl rfl ?_
  exact y_bells_L hF (oM_u (oM_u hM (by decide)) (by decide)) hW _ 0 _ _ _ (by omega)
set_option maxRecDepth 10000 in
theorem q_bid_no {I : Nat → Nat → Int32} {J : Nat → Nat → Int64} {F : Nat → Nat → Option Nat} {nc ns : Nat} {D : oD} (hF : RFok F) (hM : oM I 98 D) (hW : WF D) (hO : I 95 14 = tol D) {v a b c : Int32} (ht : ¬ (if tol D = 0 then 1 else if inS v 0 99 = 0 then 2 else if inS a 0 9 = 0 then 2 else if inS b 0 9 = 0 then 2 else 0) = 0) : Ev 1 mX12_bid 0 [.ref 95, .int v, .int a, .int b, .int c] [] ((SH, nc, ns), I, J, F) (some (.int (-100))) ((SH, nc, ns), hp_u (hp_u I 95 0 0) 95 11 (if tol D = 0 then 1 else if inS v 0 99 = 0 then 2 else if inS a 0 9 = 0 then 2 else if inS b 0 9 = 0 then 2 else 0), J, F) := by
  have hD := hW.c
  have hH := hW.h
  have hT := hW.t
  have bt := hT.2
  obtain ⟨b0, b1, b2, b3, b4, b5, b6⟩ := hD.2
  refine e_aload_n (p := 1) dX12_bid_0 rfl rfl ?_
  refine e_callV_v (p := 4) (k' := 0) (a := [.ref 95]) (rr := []) dX12_bid_1 rfl rfl rfl rfl (rc_of rfl rfl (by decide) ⟨rfl, by decide⟩) (Nat.le_of_ble_eq_true rfl) (Nat.le_of_ble_eq_true rfl) (by decide) y_good (Or.inl rfl) rfl ?_
  refine e_aload_n (p := 5) dX12_bid_4 rfl rfl ?_
  refine f_getI (c := 11) (j := 14) (n := 37) (v := tol D) (p := 8) dX12_bid_5 rfl rfl (by decide) (by decide) (Or.inr rfl) (I_u (I_u hO (by decide)) (by decide)) rfl ?_
  refine e_if_eq (t := 50) (p := 11) dX12_bid_8 (by decide) rfl rfl (fun hc8 => ?_) (fun hc8 => ?_)
  · skip
    refine e_aload_n (p := 51) dX12_bid_50 rfl rfl ?_
    refine e_aload_n (p := 52) dX12_bid_51 rfl rfl ?_
    refine f_getI (c := 11) (j := 14) (n := 37) (v := tol D) (p := 55) dX12_bid_52 rfl rfl (by decide) (by decide) (Or.inr rfl) (I_u (I_u hO (by decide)) (by decide)) rfl ?_
    refine e_if_eq (t := 62) (p := 58) dX12_bid_55 (by decide) rfl rfl (fun hc55 => ?_) (fun hc55 => ?_)
    · skip
      refine e_iconst (v := 1) (p := 63) dX12_bid_62 (by decide) rfl ?_
      refine e_putI (c := 11) (j := 11) (n := 37)  (p := 66) dX12_bid_63 rfl rfl (by decide) (by decide) rfl rfl rfl ?_
      refine e_bipush (v := -100) (p := 68) dX12_bid_66 (by decide) rfl ?_
      exact e_iretE dX12_bid_68 rfl rfl (by decide) ⟨rfl, hpq (by first | (simp only [hc8, hc55, ↓reduceIte]; done) | (exfalso; simp_all; done))⟩
    · skip
      refine e_iconst (v := 2) (p := 59) dX12_bid_58 (by decide) rfl ?_
      refine e_goto (p := 63) dX12_bid_59 (by decide) rfl ?_
      refine e_putI (c := 11) (j := 11) (n := 37)  (p := 66) dX12_bid_63 rfl rfl (by decide) (by decide) rfl rfl rfl ?_
      refine e_bipush (v := -100) (p := 68) dX12_bid_66 (by decide) rfl ?_
      exact e_iretE dX12_bid_68 rfl rfl (by decide) ⟨rfl, hpq (by first | (simp only [hc8, hc55, ↓reduceIte]; done) | (exfalso; simp_all; done))⟩
  · skip
    refine e_iload_n (p := 12) dX12_bid_11 rfl rfl ?_
    refine e_iconst (v := 0) (p := 13) dX12_bid_12 (by decide) rfl ?_
    refine e_bipush (v := 99) (p := 15) dX12_bid_13 (by decide) rfl ?_
    refine e_callS_int (p := 18) (k' := 0) (a := [.int v, .int 0, .int 99]) (rr := []) dX12_bid_15 rfl rfl rfl rfl rfl (rc_st rfl) (Nat.le_of_ble_eq_true rfl) (Nat.le_of_ble_eq_true rfl) (by decide) (y_in  ) (Or.inl rfl) rfl ?_
    refine e_if_eq (t := 50) (p := 21) dX12_bid_18 (by decide) rfl rfl (fun hc18 => ?_) (fun hc18 => ?_)
    · skip
      refine e_aload_n (p := 51) dX12_bid_50 rfl rfl ?_
      refine e_aload_n (p := 52) dX12_bid_51 rfl rfl ?_
      refine f_getI (c := 11) (j := 14) (n := 37) (v := tol D) (p := 55) dX12_bid_52 rfl rfl (by decide) (by decide) (Or.inr rfl) (I_u (I_u hO (by decide)) (by decide)) rfl ?_
      refine e_if_eq (t := 62) (p := 58) dX12_bid_55 (by decide) rfl rfl (fun hc55 => ?_) (fun hc55 => ?_)
      · skip
        refine e_iconst (v := 1) (p := 63) dX12_bid_62 (by decide) rfl ?_
        refine e_putI (c := 11) (j := 11) (n := 37)  (p := 66) dX12_bid_63 rfl rfl (by decide) (by decide) rfl rfl rfl ?_
        refine e_bipush (v := -100) (p := 68) dX12_bid_66 (by decide) rfl ?_
        exact e_iretE dX12_bid_68 rfl rfl (by decide) ⟨rfl, hpq (by first | (simp only [hc8, hc18, hc55, ↓reduceIte]; done) | (exfalso; simp_all; done))⟩
      · skip
        refine e_iconst (v := 2) (p := 59) dX12_bid_58 (by decide) rfl ?_
        refine e_goto (p := 63) dX12_bid_59 (by decide) rfl ?_
        refine e_putI (c := 11) (j := 11) (n := 37)  (p := 66) dX12_bid_63 rfl rfl (by decide) (by decide) rfl rfl rfl ?_
        refine e_bipush (v := -100) (p := 68) dX12_bid_66 (by decide) rfl ?_
        exact e_iretE dX12_bid_68 rfl rfl (by decide) ⟨rfl, hpq (by first | (simp only [hc8, hc18, hc55, ↓reduceIte]; done) | (exfalso; simp_all; done))⟩
    · skip
      refine e_iload_n (p := 22) dX12_bid_21 rfl rfl ?_
      refine e_iconst (v := 0) (p := 23) dX12_bid_22 (by decide) rfl ?_
      refine e_bipush (v := 9) (p := 25) dX12_bid_23 (by decide) rfl ?_
      refine e_callS_int (p := 28) (k' := 0) (a := [.int a, .int 0, .int 9]) (rr := []) dX12_bid_25 rfl rfl rfl rfl rfl (rc_st rfl) (Nat.le_of_ble_eq_true rfl) (Nat.le_of_ble_eq_true rfl) (by decide) (y_in  ) (Or.inl rfl) rfl ?_
      refine e_if_eq (t := 50) (p := 31) dX12_bid_28 (by decide) rfl rfl (fun hc28 => ?_) (fun hc28 => ?_)
      · skip
        refine e_aload_n (p := 51) dX12_bid_50 rfl rfl ?_
        refine e_aload_n (p := 52) dX12_bid_51 rfl rfl ?_
        refine f_getI (c := 11) (j := 14) (n := 37) (v := tol D) (p := 55) dX12_bid_52 rfl rfl (by decide) (by decide) (Or.inr rfl) (I_u (I_u hO (by decide)) (by decide)) rfl ?_
        refine e_if_eq (t := 62) (p := 58) dX12_bid_55 (by decide) rfl rfl (fun hc55 => ?_) (fun hc55 => ?_)
        · skip
          refine e_iconst (v := 1) (p := 63) dX12_bid_62 (by decide) rfl ?_
          refine e_putI (c := 11) (j := 11) (n := 37)  (p := 66) dX12_bid_63 rfl rfl (by decide) (by decide) rfl rfl rfl ?_
          refine e_bipush (v := -100) (p := 68) dX12_bid_66 (by decide) rfl ?_
          exact e_iretE dX12_bid_68 rfl rfl (by decide) ⟨rfl, hpq (by first | (simp only [hc8, hc18, hc28, hc55, ↓reduceIte]; done) | (exfalso; simp_all; done))⟩
        · skip
          refine e_iconst (v := 2) (p := 59) dX12_bid_58 (by decide) rfl ?_
          refine e_goto (p := 63) dX12_bid_59 (by decide) rfl ?_
          refine e_putI (c := 11) (j := 11) (n := 37)  (p := 66) dX12_bid_63 rfl rfl (by decide) (by decide) rfl rfl rfl ?_
          refine e_bipush (v := -100) (p := 68) dX12_bid_66 (by decide) rfl ?_
          exact e_iretE dX12_bid_68 rfl rfl (by decide) ⟨rfl, hpq (by first | (simp only [hc8, hc18, hc28, hc55, ↓reduceIte]; done) | (exfalso; simp_all; done))⟩
      · skip
        refine e_iload_n (p := 32) dX12_bid_31 rfl rfl ?_
        refine e_iconst (v := 0) (p := 33) dX12_bid_32 (by decide) rfl ?_
        refine e_bipush (v := 9) (p := 35) dX12_bid_33 (by decide) rfl ?_
        refine e_callS_int (p := 38) (k' := 0) (a := [.int b, .int 0, .int 9]) (rr := []) dX12_bid_35 rfl rfl rfl rfl rfl (rc_st rfl) (Nat.le_of_ble_eq_true rfl) (Nat.le_of_ble_eq_true rfl) (by decide) (y_in  ) (Or.inl rfl) rfl ?_
        refine e_if_eq (t := 50) (p := 41) dX12_bid_38 (by decide) rfl rfl (fun hc38 => ?_) (fun hc38 => ?_)
        · skip
          refine e_aload_n (p := 51) dX12_bid_50 rfl rfl ?_
          refine e_aload_n (p := 52) dX12_bid_51 rfl rfl ?_
          refine f_getI (c := 11) (j := 14) (n := 37) (v := tol D) (p := 55) dX12_bid_52 rfl rfl (by decide) (by decide) (Or.inr rfl) (I_u (I_u hO (by decide)) (by decide)) rfl ?_
          refine e_if_eq (t := 62) (p := 58) dX12_bid_55 (by decide) rfl rfl (fun hc55 => ?_) (fun hc55 => ?_)
          · skip
            refine e_iconst (v := 1) (p := 63) dX12_bid_62 (by decide) rfl ?_
            refine e_putI (c := 11) (j := 11) (n := 37)  (p := 66) dX12_bid_63 rfl rfl (by decide) (by decide) rfl rfl rfl ?_
            refine e_bipush (v := -100) (p := 68) dX12_bid_66 (by decide) rfl ?_
            exact e_iretE dX12_bid_68 rfl rfl (by decide) ⟨rfl, hpq (by first | (simp only [hc8, hc18, hc28, hc38, hc55, ↓reduceIte]; done) | (exfalso; simp_all; done))⟩
          · skip
            refine e_iconst (v := 2) (p := 59) dX12_bid_58 (by decide) rfl ?_
            refine e_goto (p := 63) dX12_bid_59 (by decide) rfl ?_
            refine e_putI (c := 11) (j := 11) (n := 37)  (p := 66) dX12_bid_63 rfl rfl (by decide) (by decide) rfl rfl rfl ?_
            refine e_bipush (v := -100) (p := 68) dX12_bid_66 (by decide) rfl ?_
            exact e_iretE dX12_bid_68 rfl rfl (by decide) ⟨rfl, hpq (by first | (simp only [hc8, hc18, hc28, hc38, hc55, ↓reduceIte]; done) | (exfalso; simp_all; done))⟩
        · skip
          first | (refine absurd ?_ ht; simp only [hc8, hc18, hc28, hc38, ↓reduceIte]; done) | (exfalso; simp_all; done)
set_option maxRecDepth 10000 in
theorem q_bid_ok {I : Nat → Nat → Int32} {J : Nat → Nat → Int64} {F : Nat → Nat → Option Nat} {nc ns : Nat} {D : oD} (hF : RFok F) (hM : oM I 98 D) (hW : WF D) (hO : I 95 14 = tol D) (ht1 : tol D = 1) {v a b : Nat} {c : Int32} (hv : v ≤ 99) (ha : a ≤ 9) (hb : b ≤ 9)  : Ev 1 mX12_bid 0 [.ref 95, .int (nI v), .int (nI a), .int (nI b), .int c] [] ((SH, nc, ns), I, J, F) (some (.int (bidS (nI v) (nI a) (nI b) c))) ((SH, nc, ns), hp_u (hp_u I 95 0 0) 95 11 0, J, F) := by
  have hD := hW.c
  have hH := hW.h
  have hT := hW.t
  have bt := hT.2
  obtain ⟨b0, b1, b2, b3, b4, b5, b6⟩ := hD.2
  refine e_aload_n (p := 1) dX12_bid_0 rfl rfl ?_
  refine e_callV_v (p := 4) (k' := 0) (a := [.ref 95]) (rr := []) dX12_bid_1 rfl rfl rfl rfl (rc_of rfl rfl (by decide) ⟨rfl, by decide⟩) (Nat.le_of_ble_eq_true rfl) (Nat.le_of_ble_eq_true rfl) (by decide) y_good (Or.inl rfl) rfl ?_
  refine e_aload_n (p := 5) dX12_bid_4 rfl rfl ?_
  refine f_getI (c := 11) (j := 14) (n := 37) (v := 1) (p := 8) dX12_bid_5 rfl rfl (by decide) (by decide) (Or.inr rfl) ((I_u (I_u hO (by decide)) (by decide)).trans ht1) rfl ?_
  refine e_if_eq (t := 50) (p := 11) dX12_bid_8 (by decide) rfl rfl (fun hc8 => absurd hc8 (by decide)) (fun hc8 => ?_)
  refine e_iload_n (p := 12) dX12_bid_11 rfl rfl ?_
  refine e_iconst (v := 0) (p := 13) dX12_bid_12 (by decide) rfl ?_
  refine e_bipush (v := 99) (p := 15) dX12_bid_13 (by decide) rfl ?_
  refine e_callS_int (p := 18) (k' := 0) (a := [.int (nI v), .int 0, .int 99]) (rr := []) dX12_bid_15 rfl rfl rfl rfl rfl (rc_st rfl) (Nat.le_of_ble_eq_true rfl) (Nat.le_of_ble_eq_true rfl) (by decide) (Ev.i (in_ok (a := 0) (b := 99) (n := v) (by omega) (by omega) (by omega)) (y_in  )) (Or.inl rfl) rfl ?_
  refine e_if_eq (t := 50) (p := 21) dX12_bid_18 (by decide) rfl rfl (fun hc18 => absurd hc18 (by decide)) (fun hc18 => ?_)
  refine e_iload_n (p := 22) dX12_bid_21 rfl rfl ?_
  refine e_iconst (v := 0) (p := 23) dX12_bid_22 (by decide) rfl ?_
  refine e_bipush (v := 9) (p := 25) dX12_bid_23 (by decide) rfl ?_
  refine e_callS_int (p := 28) (k' := 0) (a := [.int (nI a), .int 0, .int 9]) (rr := []) dX12_bid_25 rfl rfl rfl rfl rfl (rc_st rfl) (Nat.le_of_ble_eq_true rfl) (Nat.le_of_ble_eq_true rfl) (by decide) (Ev.i (in_ok (a := 0) (b := 9) (n := a) (by omega) (by omega) (by omega)) (y_in  )) (Or.inl rfl) rfl ?_
  refine e_if_eq (t := 50) (p := 31) dX12_bid_28 (by decide) rfl rfl (fun hc28 => absurd hc28 (by decide)) (fun hc28 => ?_)
  refine e_iload_n (p := 32) dX12_bid_31 rfl rfl ?_
  refine e_iconst (v := 0) (p := 33) dX12_bid_32 (by decide) rfl ?_
  refine e_bipush (v := 9) (p := 35) dX12_bid_33 (by decide) rfl ?_
  refine e_callS_int (p := 38) (k' := 0) (a := [.int (nI b), .int 0, .int 9]) (rr := []) dX12_bid_35 rfl rfl rfl rfl rfl (rc_st rfl) (Nat.le_of_ble_eq_true rfl) (Nat.le_of_ble_eq_true rfl) (by decide) (Ev.i (in_ok (a := 0) (b := 9) (n := b) (by omega) (by omega) (by omega)) (y_in  )) (Or.inl rfl) rfl ?_
  refine e_if_eq (t := 50) (p := 41) dX12_bid_38 (by decide) rfl rfl (fun hc38 => absurd hc38 (by decide)) (fun hc38 => ?_)
  refine e_iload_n (p := 42) dX12_bid_41 rfl rfl ?_
  refine e_iload_n (p := 43) dX12_bid_42 rfl rfl ?_
  refine e_iload_n (p := 44) dX12_bid_43 rfl rfl ?_
  refine e_iload (p := 46) dX12_bid_44 rfl rfl ?_
  refine e_callS_int (p := 49) (k' := 0) (a := [.int (nI v), .int (nI a), .int (nI b), .int c]) (rr := []) dX12_bid_46 rfl rfl rfl rfl rfl (rc_st rfl) (Nat.le_of_ble_eq_true rfl) (Nat.le_of_ble_eq_true rfl) (by decide) (y_bidOf  ) (Or.inl rfl) rfl ?_
  exact e_iretE dX12_bid_49 rfl rfl (by decide) ⟨rfl, rfl⟩
def woS (t v : Int32) : Int32 := if t = 0 then 1 else if inS v 0 99 = 0 then 2 else 0
theorem wo_ok {t : Int32} {v : Nat} (ht : t = 1) (h : v ≤ 99) : woS t (nI v) = 0 := by
  subst ht
  have e : inS (nI v) 0 99 = 1 := in_ok (a := 0) (b := 99) (by omega) h (by omega)
  unfold woS
  rw [e]
  decide
set_option maxRecDepth 10000 in
theorem y_worthWhy {I : Nat → Nat → Int32} {J : Nat → Nat → Int64} {F : Nat → Nat → Option Nat} {nc ns : Nat} {D : oD} (hF : RFok F) (hM : oM I 98 D) (hW : WF D) (hO : I 95 14 = tol D) {v : Int32} : Ev 1 mX12_worthWhy 0 [.ref 95, .int v] [] ((SH, nc, ns), I, J, F) (some (.int (woS (tol D) v))) ((SH, nc, ns), I, J, F) := by
  have hD := hW.c
  have hH := hW.h
  have hT := hW.t
  have bt := hT.2
  obtain ⟨b0, b1, b2, b3, b4, b5, b6⟩ := hD.2
  refine e_aload_n (p := 1) dX12_worthWhy_0 rfl rfl ?_
  refine f_getI (c := 11) (j := 14) (n := 37) (v := tol D) (p := 4) dX12_worthWhy_1 rfl rfl (by decide) (by decide) (Or.inr rfl) hO rfl ?_
  refine e_if_ne (t := 11) (p := 7) dX12_worthWhy_4 (by decide) rfl rfl (fun hc4 => ?_) (fun hc4 => ?_)
  · skip
    refine e_iload_n (p := 12) dX12_worthWhy_11 rfl rfl ?_
    refine e_iconst (v := 0) (p := 13) dX12_worthWhy_12 (by decide) rfl ?_
    refine e_bipush (v := 99) (p := 15) dX12_worthWhy_13 (by decide) rfl ?_
    refine e_callS_int (p := 18) (k' := 0) (a := [.int v, .int 0, .int 99]) (rr := []) dX12_worthWhy_15 rfl rfl rfl rfl rfl (rc_st rfl) (Nat.le_of_ble_eq_true rfl) (Nat.le_of_ble_eq_true rfl) (by decide) (y_in  ) (Or.inl rfl) rfl ?_
    refine e_if_eq (t := 25) (p := 21) dX12_worthWhy_18 (by decide) rfl rfl (fun hc18 => ?_) (fun hc18 => ?_)
    · skip
      refine e_iconst (v := 2) (p := 26) dX12_worthWhy_25 (by decide) rfl ?_
      exact e_iretE dX12_worthWhy_26 rfl rfl (by decide) ⟨by simp only [woS, hc4, hc18, ↓reduceIte], rfl⟩
    · skip
      refine e_iconst (v := 0) (p := 22) dX12_worthWhy_21 (by decide) rfl ?_
      refine e_goto (p := 26) dX12_worthWhy_22 (by decide) rfl ?_
      exact e_iretE dX12_worthWhy_26 rfl rfl (by decide) ⟨by simp only [woS, hc4, hc18, ↓reduceIte], rfl⟩
  · skip
    refine e_iconst (v := 1) (p := 8) dX12_worthWhy_7 (by decide) rfl ?_
    refine e_goto (p := 26) dX12_worthWhy_8 (by decide) rfl ?_
    exact e_iretE dX12_worthWhy_26 rfl rfl (by decide) ⟨by simp only [woS, hc4, ↓reduceIte], rfl⟩
theorem Ev.h0 {k : Nat} {M : ev_M} {pc : Nat} {ls st : List Value} {h h2 h' : hp_H} {r : Option Value} (e : h = h2) (q : Ev k M pc ls st h2 r h') : Ev k M pc ls st h r h' := e ▸ q
def restF (v : Int32) (a b : Nat) (z : Int32 × Int32) : Int32 × Int32 := if resS v (nI a) (nI b) = 0 then z else (z.1 + 1, if z.1 = 0 then nI (10 * a + b) else z.2)
theorem gN_s2 {α β : Type} {f : Nat → α × β → α × β} {j m : Nat} {a : α × β} : gN f j (m + 1) a = gN f (j + 1) m ((f j a).1, (f j a).2) := rfl
def restsS (v : Int32) : Int32 × Int32 := gN (fun a z => gN (restF v a) 0 10 z) 0 10 (0, -2)
theorem t10 (a b : Nat) : 10 * nI a + nI b = nI (10 * a + b) := by
  rw [show (10 : Int32) = nI 10 from rfl, pk_mul, nI_add]
set_option maxRecDepth 10000 in
theorem y_seekRests_i {I : Nat → Nat → Int32} {J : Nat → Nat → Int64} {F : Nat → Nat → Option Nat} {nc ns : Nat} {v : Int32} {a : Nat} (ha : a < 10) {r : Option Value} {h' : hp_H} : ∀ (m j : Nat) (n : Int32) (f : Int32), j + m = 10 → Ev 2 mX12_seekRests 63 [.ref 95, .int v, .int ((gN (restF v a) j m (n, f)).1), .int (nI a), .int (nI 10)] [] ((SH, nc, ns), (hp_u I 95 29 ((gN (restF v a) j m (n, f)).2)), J, F) r h' → Ev 2 mX12_seekRests 19 [.ref 95, .int v, .int n, .int (nI a), .int (nI j)] [] ((SH, nc, ns), (hp_u I 95 29 f), J, F) r h'
  | 0, j, n, f, hj => fun q => by
    obtain rfl : j = 10 := by omega
    refine e_iload (p := 21) dX12_seekRests_19 rfl rfl ?_
    refine e_bipush (v := 9) (p := 23) dX12_seekRests_21 (by decide) rfl ?_
    refine e_icmp_gt (t := 63) (p := 26) dX12_seekRests_23 (by decide) rfl rfl (fun hc23 => ?_) (fun hc23 => absurd (nI_lt (a := 9) (b := 10) (by omega) (by omega)) hc23)
    exact q
  | m + 1, j, n, f, hj => fun q => by
    refine e_iload (p := 21) dX12_seekRests_19 rfl rfl ?_
    refine e_bipush (v := 9) (p := 23) dX12_seekRests_21 (by decide) rfl ?_
    refine e_icmp_gt (t := 63) (p := 26) dX12_seekRests_23 (by decide) rfl rfl (fun hc23 => absurd hc23 (nI_nlt (a := 9) (b := j) (by omega) (by omega))) (fun hc23 => ?_)
    refine e_iload_n (p := 27) dX12_seekRests_26 rfl rfl ?_
    refine e_iload_n (p := 28) dX12_seekRests_27 rfl rfl ?_
    refine e_iload (p := 30) dX12_seekRests_28 rfl rfl ?_
    refine e_callS_int (p := 33) (k' := 1) (a := [.int v, .int (nI a), .int (nI j)]) (rr := []) dX12_seekRests_30 rfl rfl rfl rfl rfl (rc_st rfl) (Nat.le_of_ble_eq_true rfl) (Nat.le_of_ble_eq_true rfl) (by decide) (y_isRest  ) (Or.inl rfl) rfl ?_
    refine e_if_ne (t := 39) (p := 36) dX12_seekRests_33 (by decide) rfl rfl (fun hc33 => ?_) (fun hc33 => ?_)
    · skip
      refine e_iload_n (p := 40) dX12_seekRests_39 rfl rfl ?_
      refine e_if_ne (t := 54) (p := 43) dX12_seekRests_40 (by decide) rfl rfl (fun hc40 => ?_) (fun hc40 => ?_)
      · skip
        refine e_iinc (ls1 := [.ref 95, .int v, .int (n + 1), .int (nI a), .int (nI j)]) (p := 57) dX12_seekRests_54 rfl rfl rfl ?_
        refine e_iinc (ls1 := [.ref 95, .int v, .int (n + 1), .int (nI a), .int ((nI j) + 1)]) (p := 60) dX12_seekRests_57 rfl rfl rfl ?_
        refine e_goto (p := 19) dX12_seekRests_60 (by decide) rfl ?_
        rw [nI_1]
        refine y_seekRests_i ha m (j + 1) (n + 1) _  (by omega) ?_
        simpa only [gN_s, restF, t10, hc33, hc40, bit, Int32.or_zero, Int32.add_zero, ↓reduceIte] using q
      · skip
        refine e_aload_n (p := 44) dX12_seekRests_43 rfl rfl ?_
        refine e_bipush (v := 10) (p := 46) dX12_seekRests_44 (by decide) rfl ?_
        refine e_iload_n (p := 47) dX12_seekRests_46 rfl rfl ?_
        refine e_imul (p := 48) dX12_seekRests_47 rfl ?_
        refine e_iload (p := 50) dX12_seekRests_48 rfl rfl ?_
        refine e_iadd (p := 51) dX12_seekRests_50 rfl ?_
        refine e_putI (c := 11) (j := 29) (n := 37)  (p := 54) dX12_seekRests_51 rfl rfl (by decide) (by decide) rfl rfl rfl ?_
        refine e_iinc (ls1 := [.ref 95, .int v, .int (n + 1), .int (nI a), .int (nI j)]) (p := 57) dX12_seekRests_54 rfl rfl rfl ?_
        refine e_iinc (ls1 := [.ref 95, .int v, .int (n + 1), .int (nI a), .int ((nI j) + 1)]) (p := 60) dX12_seekRests_57 rfl rfl rfl ?_
        refine e_goto (p := 19) dX12_seekRests_60 (by decide) rfl ?_
        rw [nI_1]
        refine Ev.h0 (hpq rfl) ?_
        refine y_seekRests_i ha m (j + 1) (n + 1) _  (by omega) ?_
        simpa only [gN_s, restF, t10, hc33, hc40, bit, Int32.or_zero, Int32.add_zero, ↓reduceIte] using q
    · skip
      refine e_goto (p := 57) dX12_seekRests_36 (by decide) rfl ?_
      refine e_iinc (ls1 := [.ref 95, .int v, .int n, .int (nI a), .int ((nI j) + 1)]) (p := 60) dX12_seekRests_57 rfl rfl rfl ?_
      refine e_goto (p := 19) dX12_seekRests_60 (by decide) rfl ?_
      rw [nI_1]
      refine y_seekRests_i ha m (j + 1) n _  (by omega) ?_
      simpa only [gN_s, restF, t10, hc33, bit, Int32.or_zero, Int32.add_zero, ↓reduceIte] using q
set_option maxRecDepth 10000 in
theorem y_seekRests_L {I : Nat → Nat → Int32} {J : Nat → Nat → Int64} {F : Nat → Nat → Option Nat} {nc ns : Nat} {v : Int32} : ∀ (m j : Nat) (n : Int32) (f : Int32) (z : Value), j + m = 10 → Ev 2 mX12_seekRests 10 [.ref 95, .int v, .int n, .int (nI j), z] [] ((SH, nc, ns), hp_u I 95 29 f, J, F) (some (.int (gN (fun a z => gN (restF v a) 0 10 z) j m (n, f)).1)) ((SH, nc, ns), hp_u I 95 29 (gN (fun a z => gN (restF v a) 0 10 z) j m (n, f)).2, J, F)
  | 0, j, n, f, z, hj => by
    refine e_iload_n (p := 11) dX12_seekRests_10 rfl rfl ?_
    refine e_bipush (v := 9) (p := 13) dX12_seekRests_11 (by decide) rfl ?_
    refine e_icmp_gt (t := 69) (p := 16) dX12_seekRests_13 (by decide) rfl rfl (fun hc13 => ?_) (fun hc13 => absurd (nI_lt (a := 9) (b := j) (by omega) (by omega)) hc13)
    refine e_iload_n (p := 70) dX12_seekRests_69 rfl rfl ?_
    exact e_iretE dX12_seekRests_70 rfl rfl (by decide) ⟨rfl, rfl⟩
  | m + 1, j, n, f, z, hj => by
    refine e_iload_n (p := 11) dX12_seekRests_10 rfl rfl ?_
    refine e_bipush (v := 9) (p := 13) dX12_seekRests_11 (by decide) rfl ?_
    refine e_icmp_gt (t := 69) (p := 16) dX12_seekRests_13 (by decide) rfl rfl (fun hc13 => absurd hc13 (nI_nlt (a := 9) (b := j) (by omega) (by omega))) (fun hc13 => ?_)
    refine e_iconst (v := 0) (p := 17) dX12_seekRests_16 (by decide) rfl ?_
    refine e_istore (ls1 := [.ref 95, .int v, .int n, .int (nI j), .int 0]) (p := 19) dX12_seekRests_17 rfl rfl ?_
    refine y_seekRests_i (by omega) 10 0 _ _ (by omega) ?_
    refine e_iinc (ls1 := [.ref 95, .int v, .int ((gN (restF v j) 0 10 (n, f)).1), .int ((nI j) + 1), .int (nI 10)]) (p := 66) dX12_seekRests_63 rfl rfl rfl ?_
    refine e_goto (p := 10) dX12_seekRests_66 (by decide) rfl ?_
    rw [nI_1, gN_s2 (m := m)]
    exact y_seekRests_L m (j + 1) _ _ _ (by omega)
set_option maxRecDepth 10000 in
theorem y_seekRests {I : Nat → Nat → Int32} {J : Nat → Nat → Int64} {F : Nat → Nat → Option Nat} {nc ns : Nat} {v : Int32} : Ev 2 mX12_seekRests 0 [.ref 95, .int v, .null, .null, .null] [] ((SH, nc, ns), I, J, F) (some (.int (restsS v).1)) ((SH, nc, ns), hp_u I 95 29 (restsS v).2, J, F) := by
  refine e_iconst (v := 0) (p := 1) dX12_seekRests_0 (by decide) rfl ?_
  refine e_istore_n (ls1 := [.ref 95, .int v, .int 0, .null, .null]) (p := 2) dX12_seekRests_1 rfl rfl ?_
  refine e_aload_n (p := 3) dX12_seekRests_2 rfl rfl ?_
  refine e_bipush (v := -2) (p := 5) dX12_seekRests_3 (by decide) rfl ?_
  refine e_putI (c := 11) (j := 29) (n := 37)  (p := 8) dX12_seekRests_5 rfl rfl (by decide) (by decide) rfl rfl rfl ?_
  refine e_iconst (v := 0) (p := 9) dX12_seekRests_8 (by decide) rfl ?_
  refine e_istore_n (ls1 := [.ref 95, .int v, .int 0, .int 0, .null]) (p := 10) dX12_seekRests_9 rfl rfl ?_
  exact y_seekRests_L _ 0 _ _ _ (by omega)
set_option maxRecDepth 10000 in
theorem q_rests_no {I : Nat → Nat → Int32} {J : Nat → Nat → Int64} {F : Nat → Nat → Option Nat} {nc ns : Nat} {D : oD} (hF : RFok F) (hM : oM I 98 D) (hW : WF D) (hO : I 95 14 = tol D) {v : Int32} (ht : ¬ (woS (tol D) v) = 0) : Ev 3 mX12_rests 0 [.ref 95, .int v, .null] [] ((SH, nc, ns), I, J, F) (some (.int (-1))) ((SH, nc, ns), hp_u (hp_u I 95 0 0) 95 11 (woS (tol D) v), J, F) := by
  have hD := hW.c
  have hH := hW.h
  have hT := hW.t
  have bt := hT.2
  obtain ⟨b0, b1, b2, b3, b4, b5, b6⟩ := hD.2
  refine e_aload_n (p := 1) dX12_rests_0 rfl rfl ?_
  refine e_callV_v (p := 4) (k' := 0) (a := [.ref 95]) (rr := []) dX12_rests_1 rfl rfl rfl rfl (rc_of rfl rfl (by decide) ⟨rfl, by decide⟩) (Nat.le_of_ble_eq_true rfl) (Nat.le_of_ble_eq_true rfl) (by decide) y_good (Or.inl rfl) rfl ?_
  refine e_aload_n (p := 5) dX12_rests_4 rfl rfl ?_
  refine e_iload_n (p := 6) dX12_rests_5 rfl rfl ?_
  refine e_callV_int (p := 9) (k' := 1) (a := [.ref 95, .int v]) (rr := []) dX12_rests_6 rfl rfl rfl rfl (rc_of rfl rfl (by decide) ⟨rfl, by decide⟩) (Nat.le_of_ble_eq_true rfl) (Nat.le_of_ble_eq_true rfl) (by decide) (y_worthWhy hF (oM_u (oM_u hM (by decide)) (by decide)) hW (I_u (I_u hO (by decide)) (by decide)) ) (Or.inl rfl) rfl ?_
  refine e_istore_n (ls1 := [.ref 95, .int v, .int (woS (tol D) v)]) (p := 10) dX12_rests_9 rfl rfl ?_
  refine e_iload_n (p := 11) dX12_rests_10 rfl rfl ?_
  refine e_if_eq (t := 22) (p := 14) dX12_rests_11 (by decide) rfl rfl (fun hc11 => absurd hc11 ht) (fun hc11 => ?_)
  refine e_aload_n (p := 15) dX12_rests_14 rfl rfl ?_
  refine e_iload_n (p := 16) dX12_rests_15 rfl rfl ?_
  refine e_callV_int (p := 19) (k' := 0) (a := [.ref 95, .int (woS (tol D) v)]) (rr := []) dX12_rests_16 rfl rfl rfl rfl (rc_of rfl rfl (by decide) ⟨rfl, by decide⟩) (Nat.le_of_ble_eq_true rfl) (Nat.le_of_ble_eq_true rfl) (by decide) y_no (Or.inl rfl) rfl ?_
  refine e_goto (p := 27) dX12_rests_19 (by decide) rfl ?_
  exact e_iretE dX12_rests_27 rfl rfl (by decide) ⟨rfl, hpq rfl⟩
set_option maxRecDepth 10000 in
theorem q_rests_ok {I : Nat → Nat → Int32} {J : Nat → Nat → Int64} {F : Nat → Nat → Option Nat} {nc ns : Nat} {D : oD} (hF : RFok F) (hM : oM I 98 D) (hW : WF D) (hO : I 95 14 = tol D) (ht1 : tol D = 1) {v : Nat} (hv : v ≤ 99)  : Ev 3 mX12_rests 0 [.ref 95, .int (nI v), .null] [] ((SH, nc, ns), I, J, F) (some (.int ((restsS (nI v)).1))) ((SH, nc, ns), hp_u (hp_u (hp_u I 95 0 0) 95 11 0) 95 29 (restsS (nI v)).2, J, F) := by
  have hD := hW.c
  have hH := hW.h
  have hT := hW.t
  have bt := hT.2
  obtain ⟨b0, b1, b2, b3, b4, b5, b6⟩ := hD.2
  refine e_aload_n (p := 1) dX12_rests_0 rfl rfl ?_
  refine e_callV_v (p := 4) (k' := 0) (a := [.ref 95]) (rr := []) dX12_rests_1 rfl rfl rfl rfl (rc_of rfl rfl (by decide) ⟨rfl, by decide⟩) (Nat.le_of_ble_eq_true rfl) (Nat.le_of_ble_eq_true rfl) (by decide) y_good (Or.inl rfl) rfl ?_
  refine e_aload_n (p := 5) dX12_rests_4 rfl rfl ?_
  refine e_iload_n (p := 6) dX12_rests_5 rfl rfl ?_
  refine e_callV_int (p := 9) (k' := 1) (a := [.ref 95, .int (nI v)]) (rr := []) dX12_rests_6 rfl rfl rfl rfl (rc_of rfl rfl (by decide) ⟨rfl, by decide⟩) (Nat.le_of_ble_eq_true rfl) (Nat.le_of_ble_eq_true rfl) (by decide) (Ev.i (wo_ok ht1 (by omega)) (y_worthWhy hF (oM_u (oM_u hM (by decide)) (by decide)) hW (I_u (I_u hO (by decide)) (by decide)) )) (Or.inl rfl) rfl ?_
  refine e_istore_n (ls1 := [.ref 95, .int (nI v), .int 0]) (p := 10) dX12_rests_9 rfl rfl ?_
  refine e_iload_n (p := 11) dX12_rests_10 rfl rfl ?_
  refine e_if_eq (t := 22) (p := 14) dX12_rests_11 (by decide) rfl rfl (fun hc11 => ?_) (fun hc11 => absurd (by decide) hc11)
  refine e_aload_n (p := 23) dX12_rests_22 rfl rfl ?_
  refine e_iload_n (p := 24) dX12_rests_23 rfl rfl ?_
  refine e_callV_int (p := 27) (k' := 2) (a := [.ref 95, .int (nI v)]) (rr := []) dX12_rests_24 rfl rfl rfl rfl (rc_of rfl rfl (by decide) ⟨rfl, by decide⟩) (Nat.le_of_ble_eq_true rfl) (Nat.le_of_ble_eq_true rfl) (by decide) y_seekRests (Or.inl rfl) rfl ?_
  exact e_iretE dX12_rests_27 rfl rfl (by decide) ⟨rfl, rfl⟩
set_option maxRecDepth 10000 in
theorem q_rest_no {I : Nat → Nat → Int32} {J : Nat → Nat → Int64} {F : Nat → Nat → Option Nat} {nc ns : Nat} {D : oD} (hF : RFok F) (hM : oM I 98 D) (hW : WF D) (hO : I 95 14 = tol D) {v : Int32} (ht : ¬ (woS (tol D) v) = 0) : Ev 3 mX12_rest 0 [.ref 95, .int v, .null] [] ((SH, nc, ns), I, J, F) (some (.int (-1))) ((SH, nc, ns), hp_u (hp_u I 95 0 0) 95 11 (woS (tol D) v), J, F) := by
  have hD := hW.c
  have hH := hW.h
  have hT := hW.t
  have bt := hT.2
  obtain ⟨b0, b1, b2, b3, b4, b5, b6⟩ := hD.2
  refine e_aload_n (p := 1) dX12_rest_0 rfl rfl ?_
  refine e_callV_v (p := 4) (k' := 0) (a := [.ref 95]) (rr := []) dX12_rest_1 rfl rfl rfl rfl (rc_of rfl rfl (by decide) ⟨rfl, by decide⟩) (Nat.le_of_ble_eq_true rfl) (Nat.le_of_ble_eq_true rfl) (by decide) y_good (Or.inl rfl) rfl ?_
  refine e_aload_n (p := 5) dX12_rest_4 rfl rfl ?_
  refine e_iload_n (p := 6) dX12_rest_5 rfl rfl ?_
  refine e_callV_int (p := 9) (k' := 1) (a := [.ref 95, .int v]) (rr := []) dX12_rest_6 rfl rfl rfl rfl (rc_of rfl rfl (by decide) ⟨rfl, by decide⟩) (Nat.le_of_ble_eq_true rfl) (Nat.le_of_ble_eq_true rfl) (by decide) (y_worthWhy hF (oM_u (oM_u hM (by decide)) (by decide)) hW (I_u (I_u hO (by decide)) (by decide)) ) (Or.inl rfl) rfl ?_
  refine e_istore_n (ls1 := [.ref 95, .int v, .int (woS (tol D) v)]) (p := 10) dX12_rest_9 rfl rfl ?_
  refine e_iload_n (p := 11) dX12_rest_10 rfl rfl ?_
  refine e_if_eq (t := 20) (p := 14) dX12_rest_11 (by decide) rfl rfl (fun hc11 => absurd hc11 ht) (fun hc11 => ?_)
  refine e_aload_n (p := 15) dX12_rest_14 rfl rfl ?_
  refine e_iload_n (p := 16) dX12_rest_15 rfl rfl ?_
  refine e_callV_int (p := 19) (k' := 0) (a := [.ref 95, .int (woS (tol D) v)]) (rr := []) dX12_rest_16 rfl rfl rfl rfl (rc_of rfl rfl (by decide) ⟨rfl, by decide⟩) (Nat.le_of_ble_eq_true rfl) (Nat.le_of_ble_eq_true rfl) (by decide) y_no (Or.inl rfl) rfl ?_
  exact e_iretE dX12_rest_19 rfl rfl (by decide) ⟨rfl, hpq rfl⟩
set_option maxRecDepth 10000 in
theorem q_rest_ok {I : Nat → Nat → Int32} {J : Nat → Nat → Int64} {F : Nat → Nat → Option Nat} {nc ns : Nat} {D : oD} (hF : RFok F) (hM : oM I 98 D) (hW : WF D) (hO : I 95 14 = tol D) (ht1 : tol D = 1) {v : Nat} (hv : v ≤ 99)  : Ev 3 mX12_rest 0 [.ref 95, .int (nI v), .null] [] ((SH, nc, ns), I, J, F) (some (.int ((restsS (nI v)).2))) ((SH, nc, ns), hp_u (hp_u (hp_u I 95 0 0) 95 11 0) 95 29 (restsS (nI v)).2, J, F) := by
  have hD := hW.c
  have hH := hW.h
  have hT := hW.t
  have bt := hT.2
  obtain ⟨b0, b1, b2, b3, b4, b5, b6⟩ := hD.2
  refine e_aload_n (p := 1) dX12_rest_0 rfl rfl ?_
  refine e_callV_v (p := 4) (k' := 0) (a := [.ref 95]) (rr := []) dX12_rest_1 rfl rfl rfl rfl (rc_of rfl rfl (by decide) ⟨rfl, by decide⟩) (Nat.le_of_ble_eq_true rfl) (Nat.le_of_ble_eq_true rfl) (by decide) y_good (Or.inl rfl) rfl ?_
  refine e_aload_n (p := 5) dX12_rest_4 rfl rfl ?_
  refine e_iload_n (p := 6) dX12_rest_5 rfl rfl ?_
  refine e_callV_int (p := 9) (k' := 1) (a := [.ref 95, .int (nI v)]) (rr := []) dX12_rest_6 rfl rfl rfl rfl (rc_of rfl rfl (by decide) ⟨rfl, by decide⟩) (Nat.le_of_ble_eq_true rfl) (Nat.le_of_ble_eq_true rfl) (by decide) (Ev.i (wo_ok ht1 (by omega)) (y_worthWhy hF (oM_u (oM_u hM (by decide)) (by decide)) hW (I_u (I_u hO (by decide)) (by decide)) )) (Or.inl rfl) rfl ?_
  refine e_istore_n (ls1 := [.ref 95, .int (nI v), .int 0]) (p := 10) dX12_rest_9 rfl rfl ?_
  refine e_iload_n (p := 11) dX12_rest_10 rfl rfl ?_
  refine e_if_eq (t := 20) (p := 14) dX12_rest_11 (by decide) rfl rfl (fun hc11 => ?_) (fun hc11 => absurd (by decide) hc11)
  refine e_aload_n (p := 21) dX12_rest_20 rfl rfl ?_
  refine e_iload_n (p := 22) dX12_rest_21 rfl rfl ?_
  refine e_callV_int (p := 25) (k' := 2) (a := [.ref 95, .int (nI v)]) (rr := []) dX12_rest_22 rfl rfl rfl rfl (rc_of rfl rfl (by decide) ⟨rfl, by decide⟩) (Nat.le_of_ble_eq_true rfl) (Nat.le_of_ble_eq_true rfl) (by decide) y_seekRests (Or.inl rfl) rfl ?_
  refine e_pop_int (p := 26) dX12_rest_25 rfl ?_
  refine e_aload_n (p := 27) dX12_rest_26 rfl rfl ?_
  refine f_getI (c := 11) (j := 29) (n := 37) (v := (hp_u (hp_u (hp_u I 95 0 0) 95 11 0) 95 29 ((restsS (nI v)).2)) 95 29) (p := 30) dX12_rest_27 rfl rfl (by decide) (by decide) (Or.inl rfl) rfl rfl ?_
  exact e_iretE dX12_rest_30 rfl rfl (by decide) ⟨rfl, rfl⟩
set_option maxRecDepth 10000 in
theorem q_service_no {I : Nat → Nat → Int32} {J : Nat → Nat → Int64} {F : Nat → Nat → Option Nat} {nc ns : Nat} {D : oD} (hF : RFok F) (hM : oM I 98 D) (hW : WF D) (hO : I 95 14 = tol D) {v l : Int32} (ht : ¬ (if tol D = 0 then whS 0 l else if inS v 0 (nI (dN D 5) - 1) = 0 then whS 0 l else whS 1 l) = 0) : Ev 3 mX12_service 0 [.ref 95, .int v, .int l, .null] [] ((SH, nc, ns), I, J, F) (some (.int (-1))) ((SH, nc, ns), hp_u (hp_u I 95 0 0) 95 11 (if tol D = 0 then whS 0 l else if inS v 0 (nI (dN D 5) - 1) = 0 then whS 0 l else whS 1 l), J, F) := by
  have hD := hW.c
  have hH := hW.h
  have hT := hW.t
  have bt := hT.2
  obtain ⟨b0, b1, b2, b3, b4, b5, b6⟩ := hD.2
  refine e_aload_n (p := 1) dX12_service_0 rfl rfl ?_
  refine e_callV_v (p := 4) (k' := 0) (a := [.ref 95]) (rr := []) dX12_service_1 rfl rfl rfl rfl (rc_of rfl rfl (by decide) ⟨rfl, by decide⟩) (Nat.le_of_ble_eq_true rfl) (Nat.le_of_ble_eq_true rfl) (by decide) y_good (Or.inl rfl) rfl ?_
  refine e_aload_n (p := 5) dX12_service_4 rfl rfl ?_
  refine e_aload_n (p := 6) dX12_service_5 rfl rfl ?_
  refine f_getI (c := 11) (j := 14) (n := 37) (v := tol D) (p := 9) dX12_service_6 rfl rfl (by decide) (by decide) (Or.inr rfl) (I_u (I_u hO (by decide)) (by decide)) rfl ?_
  refine e_if_eq (t := 33) (p := 12) dX12_service_9 (by decide) rfl rfl (fun hc9 => ?_) (fun hc9 => ?_)
  · skip
    refine e_iconst (v := 0) (p := 34) dX12_service_33 (by decide) rfl ?_
    refine e_iload_n (p := 35) dX12_service_34 rfl rfl ?_
    refine e_callV_int (p := 38) (k' := 2) (a := [.ref 95, .int 0, .int l]) (rr := []) dX12_service_35 rfl rfl rfl rfl (rc_of rfl rfl (by decide) ⟨rfl, by decide⟩) (Nat.le_of_ble_eq_true rfl) (Nat.le_of_ble_eq_true rfl) (by decide) (y_why  ) (Or.inl rfl) rfl ?_
    refine e_istore_n (ls1 := [.ref 95, .int v, .int l, .int (whS 0 l)]) (p := 39) dX12_service_38 rfl rfl ?_
    refine e_iload_n (p := 40) dX12_service_39 rfl rfl ?_
    refine e_if_eq (t := 51) (p := 43) dX12_service_40 (by decide) rfl rfl (fun hc40 => ?_) (fun hc40 => ?_)
    · skip
      first | (refine absurd ?_ ht; simp only [hc9, hc40, ↓reduceIte]; done) | (exfalso; simp_all; done)
    · skip
      refine e_aload_n (p := 44) dX12_service_43 rfl rfl ?_
      refine e_iload_n (p := 45) dX12_service_44 rfl rfl ?_
      refine e_callV_int (p := 48) (k' := 0) (a := [.ref 95, .int (whS 0 l)]) (rr := []) dX12_service_45 rfl rfl rfl rfl (rc_of rfl rfl (by decide) ⟨rfl, by decide⟩) (Nat.le_of_ble_eq_true rfl) (Nat.le_of_ble_eq_true rfl) (by decide) y_no (Or.inl rfl) rfl ?_
      refine e_goto (p := 57) dX12_service_48 (by decide) rfl ?_
      exact e_iretE dX12_service_57 rfl rfl (by decide) ⟨rfl, hpq (by first | (simp only [hc9, hc40, ↓reduceIte]; done) | (exfalso; simp_all; done))⟩
  · skip
    refine e_iload_n (p := 13) dX12_service_12 rfl rfl ?_
    refine e_iconst (v := 0) (p := 14) dX12_service_13 (by decide) rfl ?_
    refine e_aload_n (p := 15) dX12_service_14 rfl rfl ?_
    refine e_getR (c := 11) (j := 15) (n := 37) (b := 98) (p := 18) dX12_service_15 rfl rfl (by decide) (by decide) rfl (r_95_15 hF) rfl ?_
    refine e_bipush (v := 7) (p := 20) dX12_service_18 (by decide) rfl ?_
    refine f_iald (n := 276) (i := 7) (v := nI (dN D 5)) (p := 21) dX12_service_20 rfl (by decide) (by decide) (by decide) (mNn (i := 5) (oM_u (oM_u hM (by decide)) (by decide)) hD (by decide)) rfl ?_
    refine e_iconst (v := 1) (p := 22) dX12_service_21 (by decide) rfl ?_
    refine e_isub (p := 23) dX12_service_22 rfl ?_
    refine e_callS_int (p := 26) (k' := 0) (a := [.int v, .int 0, .int ((nI (dN D 5)) - 1)]) (rr := [.ref 95]) dX12_service_23 rfl rfl rfl rfl rfl (rc_st rfl) (Nat.le_of_ble_eq_true rfl) (Nat.le_of_ble_eq_true rfl) (by decide) (y_in  ) (Or.inl rfl) rfl ?_
    refine e_if_eq (t := 33) (p := 29) dX12_service_26 (by decide) rfl rfl (fun hc26 => ?_) (fun hc26 => ?_)
    · skip
      refine e_iconst (v := 0) (p := 34) dX12_service_33 (by decide) rfl ?_
      refine e_iload_n (p := 35) dX12_service_34 rfl rfl ?_
      refine e_callV_int (p := 38) (k' := 2) (a := [.ref 95, .int 0, .int l]) (rr := []) dX12_service_35 rfl rfl rfl rfl (rc_of rfl rfl (by decide) ⟨rfl, by decide⟩) (Nat.le_of_ble_eq_true rfl) (Nat.le_of_ble_eq_true rfl) (by decide) (y_why  ) (Or.inl rfl) rfl ?_
      refine e_istore_n (ls1 := [.ref 95, .int v, .int l, .int (whS 0 l)]) (p := 39) dX12_service_38 rfl rfl ?_
      refine e_iload_n (p := 40) dX12_service_39 rfl rfl ?_
      refine e_if_eq (t := 51) (p := 43) dX12_service_40 (by decide) rfl rfl (fun hc40 => ?_) (fun hc40 => ?_)
      · skip
        first | (refine absurd ?_ ht; simp only [hc9, hc26, hc40, ↓reduceIte]; done) | (exfalso; simp_all; done)
      · skip
        refine e_aload_n (p := 44) dX12_service_43 rfl rfl ?_
        refine e_iload_n (p := 45) dX12_service_44 rfl rfl ?_
        refine e_callV_int (p := 48) (k' := 0) (a := [.ref 95, .int (whS 0 l)]) (rr := []) dX12_service_45 rfl rfl rfl rfl (rc_of rfl rfl (by decide) ⟨rfl, by decide⟩) (Nat.le_of_ble_eq_true rfl) (Nat.le_of_ble_eq_true rfl) (by decide) y_no (Or.inl rfl) rfl ?_
        refine e_goto (p := 57) dX12_service_48 (by decide) rfl ?_
        exact e_iretE dX12_service_57 rfl rfl (by decide) ⟨rfl, hpq (by first | (simp only [hc9, hc26, hc40, ↓reduceIte]; done) | (exfalso; simp_all; done))⟩
    · skip
      refine e_iconst (v := 1) (p := 30) dX12_service_29 (by decide) rfl ?_
      refine e_goto (p := 34) dX12_service_30 (by decide) rfl ?_
      refine e_iload_n (p := 35) dX12_service_34 rfl rfl ?_
      refine e_callV_int (p := 38) (k' := 2) (a := [.ref 95, .int 1, .int l]) (rr := []) dX12_service_35 rfl rfl rfl rfl (rc_of rfl rfl (by decide) ⟨rfl, by decide⟩) (Nat.le_of_ble_eq_true rfl) (Nat.le_of_ble_eq_true rfl) (by decide) (y_why  ) (Or.inl rfl) rfl ?_
      refine e_istore_n (ls1 := [.ref 95, .int v, .int l, .int (whS 1 l)]) (p := 39) dX12_service_38 rfl rfl ?_
      refine e_iload_n (p := 40) dX12_service_39 rfl rfl ?_
      refine e_if_eq (t := 51) (p := 43) dX12_service_40 (by decide) rfl rfl (fun hc40 => ?_) (fun hc40 => ?_)
      · skip
        first | (refine absurd ?_ ht; simp only [hc9, hc26, hc40, ↓reduceIte]; done) | (exfalso; simp_all; done)
      · skip
        refine e_aload_n (p := 44) dX12_service_43 rfl rfl ?_
        refine e_iload_n (p := 45) dX12_service_44 rfl rfl ?_
        refine e_callV_int (p := 48) (k' := 0) (a := [.ref 95, .int (whS 1 l)]) (rr := []) dX12_service_45 rfl rfl rfl rfl (rc_of rfl rfl (by decide) ⟨rfl, by decide⟩) (Nat.le_of_ble_eq_true rfl) (Nat.le_of_ble_eq_true rfl) (by decide) y_no (Or.inl rfl) rfl ?_
        refine e_goto (p := 57) dX12_service_48 (by decide) rfl ?_
        exact e_iretE dX12_service_57 rfl rfl (by decide) ⟨rfl, hpq (by first | (simp only [hc9, hc26, hc40, ↓reduceIte]; done) | (exfalso; simp_all; done))⟩
set_option maxRecDepth 10000 in
theorem q_service_ok {I : Nat → Nat → Int32} {J : Nat → Nat → Int64} {F : Nat → Nat → Option Nat} {nc ns : Nat} {D : oD} (hF : RFok F) (hM : oM I 98 D) (hW : WF D) (hO : I 95 14 = tol D) {k : Nat} (hk : k < dN D 5) {l : Nat} (hl : l ≤ 30)  : Ev 3 mX12_service 0 [.ref 95, .int (nI k), .int (nI l), .null] [] ((SH, nc, ns), I, J, F) (some (.int (servedS D k (nI l * D 0 0)))) ((SH, nc, ns), hp_u (hp_u I 95 0 0) 95 11 0, J, F) := by
  have hD := hW.c
  have hH := hW.h
  have hT := hW.t
  have bt := hT.2
  obtain ⟨b0, b1, b2, b3, b4, b5, b6⟩ := hD.2
  have ht1 := tol_1 hW (i := 5) (by decide) (by omega)
  refine e_aload_n (p := 1) dX12_service_0 rfl rfl ?_
  refine e_callV_v (p := 4) (k' := 0) (a := [.ref 95]) (rr := []) dX12_service_1 rfl rfl rfl rfl (rc_of rfl rfl (by decide) ⟨rfl, by decide⟩) (Nat.le_of_ble_eq_true rfl) (Nat.le_of_ble_eq_true rfl) (by decide) y_good (Or.inl rfl) rfl ?_
  refine e_aload_n (p := 5) dX12_service_4 rfl rfl ?_
  refine e_aload_n (p := 6) dX12_service_5 rfl rfl ?_
  refine f_getI (c := 11) (j := 14) (n := 37) (v := 1) (p := 9) dX12_service_6 rfl rfl (by decide) (by decide) (Or.inr rfl) ((I_u (I_u hO (by decide)) (by decide)).trans ht1) rfl ?_
  refine e_if_eq (t := 33) (p := 12) dX12_service_9 (by decide) rfl rfl (fun hc9 => absurd hc9 (by decide)) (fun hc9 => ?_)
  refine e_iload_n (p := 13) dX12_service_12 rfl rfl ?_
  refine e_iconst (v := 0) (p := 14) dX12_service_13 (by decide) rfl ?_
  refine e_aload_n (p := 15) dX12_service_14 rfl rfl ?_
  refine e_getR (c := 11) (j := 15) (n := 37) (b := 98) (p := 18) dX12_service_15 rfl rfl (by decide) (by decide) rfl (r_95_15 hF) rfl ?_
  refine e_bipush (v := 7) (p := 20) dX12_service_18 (by decide) rfl ?_
  refine f_iald (n := 276) (i := 7) (v := nI (dN D 5)) (p := 21) dX12_service_20 rfl (by decide) (by decide) (by decide) (mNn (i := 5) (oM_u (oM_u hM (by decide)) (by decide)) hD (by decide)) rfl ?_
  refine e_iconst (v := 1) (p := 22) dX12_service_21 (by decide) rfl ?_
  refine e_isub (p := 23) dX12_service_22 rfl ?_
  refine e_callS_int (p := 26) (k' := 0) (a := [.int (nI k), .int 0, .int ((nI (dN D 5)) - 1)]) (rr := [.ref 95]) dX12_service_23 rfl rfl rfl rfl rfl (rc_st rfl) (Nat.le_of_ble_eq_true rfl) (Nat.le_of_ble_eq_true rfl) (by decide) (Ev.i ((in_ix1 (by omega)).trans (ixB_ok (by omega) (by omega))) (y_in)) (Or.inl rfl) rfl ?_
  refine e_if_eq (t := 33) (p := 29) dX12_service_26 (by decide) rfl rfl (fun hc26 => absurd hc26 (by decide)) (fun hc26 => ?_)
  refine e_iconst (v := 1) (p := 30) dX12_service_29 (by decide) rfl ?_
  refine e_goto (p := 34) dX12_service_30 (by decide) rfl ?_
  refine e_iload_n (p := 35) dX12_service_34 rfl rfl ?_
  refine e_callV_int (p := 38) (k' := 2) (a := [.ref 95, .int 1, .int (nI l)]) (rr := []) dX12_service_35 rfl rfl rfl rfl (rc_of rfl rfl (by decide) ⟨rfl, by decide⟩) (Nat.le_of_ble_eq_true rfl) (Nat.le_of_ble_eq_true rfl) (by decide) (Ev.i (wh_ok (by omega)) (y_why  )) (Or.inl rfl) rfl ?_
  refine e_istore_n (ls1 := [.ref 95, .int (nI k), .int (nI l), .int 0]) (p := 39) dX12_service_38 rfl rfl ?_
  refine e_iload_n (p := 40) dX12_service_39 rfl rfl ?_
  refine e_if_eq (t := 51) (p := 43) dX12_service_40 (by decide) rfl rfl (fun hc40 => ?_) (fun hc40 => absurd (by decide) hc40)
  refine e_aload_n (p := 52) dX12_service_51 rfl rfl ?_
  refine e_iload_n (p := 53) dX12_service_52 rfl rfl ?_
  refine e_iload_n (p := 54) dX12_service_53 rfl rfl ?_
  refine e_callV_int (p := 57) (k' := 0) (a := [.ref 95, .int (nI k), .int (nI l)]) (rr := []) dX12_service_54 rfl rfl rfl rfl (rc_of rfl rfl (by decide) ⟨rfl, by decide⟩) (Nat.le_of_ble_eq_true rfl) (Nat.le_of_ble_eq_true rfl) (by decide) (y_weight hF (oM_u (oM_u hM (by decide)) (by decide)) hW (by omega)) (Or.inl rfl) rfl ?_
  exact e_iretE dX12_service_57 rfl rfl (by decide) ⟨rfl, rfl⟩
def anyF (D : oD) (k w : Nat) (a : Int32) : Int32 := if a = 0 then (if wasS D k w = 0 then 0 else 1) else 1
def judM (D : oD) : Nat → Nat → Int32
  | _, 0 => -2
  | j, m + 1 => if gN (anyF D j) 0 (dN D 2) 0 = 0 then nI j else judM D (j + 1) m
set_option maxRecDepth 10000 in
theorem y_judge_i {I : Nat → Nat → Int32} {J : Nat → Nat → Int64} {F : Nat → Nat → Option Nat} {nc ns : Nat} {D : oD} (hF : RFok F) (hM : oM I 98 D) (hW : WF D) {k : Nat} (hk : k < dN D 6) {r : Option Value} {h' : hp_H} : ∀ (m j : Nat) (acc : Int32), j + m = dN D 2 → Ev 3 mX12_judge 69 [.ref 95, .int (nI k), .int (gN (anyF D k) j m acc), .int (nI (dN D 2))] [] ((SH, nc, ns), I, J, F) r h' → Ev 3 mX12_judge 34 [.ref 95, .int (nI k), .int acc, .int (nI j)] [] ((SH, nc, ns), I, J, F) r h'
  | 0, j, acc, hj => fun q => by
    have hD := hW.c
    have hH := hW.h
    have hT := hW.t
    have bt := hT.2
    obtain ⟨b0, b1, b2, b3, b4, b5, b6⟩ := hD.2
    obtain rfl : j = dN D 2 := by omega
    refine e_iload_n (p := 35) dX12_judge_34 rfl rfl ?_
    refine e_aload_n (p := 36) dX12_judge_35 rfl rfl ?_
    refine e_getR (c := 11) (j := 15) (n := 37) (b := 98) (p := 39) dX12_judge_36 rfl rfl (by decide) (by decide) rfl (r_95_15 hF) rfl ?_
    refine e_iconst (v := 4) (p := 40) dX12_judge_39 (by decide) rfl ?_
    refine f_iald (n := 276) (i := 4) (v := nI (dN D 2)) (p := 41) dX12_judge_40 rfl (by decide) (by decide) (by decide) (mNn (i := 2) hM hD (by decide)) rfl ?_
    refine e_icmp_ge (t := 69) (p := 44) dX12_judge_41 (by decide) rfl rfl (fun hc41 => ?_) (fun hc41 => absurd (nle (by omega) (by omega)) hc41)
    exact q
  | m + 1, j, acc, hj => fun q => by
    have hD := hW.c
    have hH := hW.h
    have hT := hW.t
    have bt := hT.2
    obtain ⟨b0, b1, b2, b3, b4, b5, b6⟩ := hD.2
    refine e_iload_n (p := 35) dX12_judge_34 rfl rfl ?_
    refine e_aload_n (p := 36) dX12_judge_35 rfl rfl ?_
    refine e_getR (c := 11) (j := 15) (n := 37) (b := 98) (p := 39) dX12_judge_36 rfl rfl (by decide) (by decide) rfl (r_95_15 hF) rfl ?_
    refine e_iconst (v := 4) (p := 40) dX12_judge_39 (by decide) rfl ?_
    refine f_iald (n := 276) (i := 4) (v := nI (dN D 2)) (p := 41) dX12_judge_40 rfl (by decide) (by decide) (by decide) (mNn (i := 2) hM hD (by decide)) rfl ?_
    refine e_icmp_ge (t := 69) (p := 44) dX12_judge_41 (by decide) rfl rfl (fun hc41 => absurd hc41 (nge (by omega) (by omega))) (fun hc41 => ?_)
    refine e_iload_n (p := 45) dX12_judge_44 rfl rfl ?_
    refine e_if_ne (t := 57) (p := 48) dX12_judge_45 (by decide) rfl rfl (fun hc45 => ?_) (fun hc45 => ?_)
    · skip
      refine e_iconst (v := 1) (p := 58) dX12_judge_57 (by decide) rfl ?_
      refine e_goto (p := 62) dX12_judge_58 (by decide) rfl ?_
      refine e_istore_n (ls1 := [.ref 95, .int (nI k), .int 1, .int (nI j)]) (p := 63) dX12_judge_62 rfl rfl ?_
      refine e_iinc (ls1 := [.ref 95, .int (nI k), .int 1, .int ((nI j) + 1)]) (p := 66) dX12_judge_63 rfl rfl rfl ?_
      refine e_goto (p := 34) dX12_judge_66 (by decide) rfl ?_
      rw [nI_1]
      refine y_judge_i hF hM hW hk m (j + 1) 1  (by omega) ?_
      simpa only [gN_s, anyF, hc45, bit, Int32.or_zero, Int32.add_zero, ↓reduceIte] using q
    · skip
      refine e_aload_n (p := 49) dX12_judge_48 rfl rfl ?_
      refine e_iload_n (p := 50) dX12_judge_49 rfl rfl ?_
      refine e_iload_n (p := 51) dX12_judge_50 rfl rfl ?_
      refine e_callV_int (p := 54) (k' := 2) (a := [.ref 95, .int (nI k), .int (nI j)]) (rr := []) dX12_judge_51 rfl rfl rfl rfl (rc_of rfl rfl (by decide) ⟨rfl, by decide⟩) (Nat.le_of_ble_eq_true rfl) (Nat.le_of_ble_eq_true rfl) (by decide) (y_wasNear hF hM hW (by omega) (by omega)) (Or.inl rfl) rfl ?_
      refine e_if_eq (t := 61) (p := 57) dX12_judge_54 (by decide) rfl rfl (fun hc54 => ?_) (fun hc54 => ?_)
      · skip
        refine e_iconst (v := 0) (p := 62) dX12_judge_61 (by decide) rfl ?_
        refine e_istore_n (ls1 := [.ref 95, .int (nI k), .int 0, .int (nI j)]) (p := 63) dX12_judge_62 rfl rfl ?_
        refine e_iinc (ls1 := [.ref 95, .int (nI k), .int 0, .int ((nI j) + 1)]) (p := 66) dX12_judge_63 rfl rfl rfl ?_
        refine e_goto (p := 34) dX12_judge_66 (by decide) rfl ?_
        rw [nI_1]
        refine y_judge_i hF hM hW hk m (j + 1) 0  (by omega) ?_
        simpa only [gN_s, anyF, hc45, hc54, bit, Int32.or_zero, Int32.add_zero, ↓reduceIte] using q
      · skip
        refine e_iconst (v := 1) (p := 58) dX12_judge_57 (by decide) rfl ?_
        refine e_goto (p := 62) dX12_judge_58 (by decide) rfl ?_
        refine e_istore_n (ls1 := [.ref 95, .int (nI k), .int 1, .int (nI j)]) (p := 63) dX12_judge_62 rfl rfl ?_
        refine e_iinc (ls1 := [.ref 95, .int (nI k), .int 1, .int ((nI j) + 1)]) (p := 66) dX12_judge_63 rfl rfl rfl ?_
        refine e_goto (p := 34) dX12_judge_66 (by decide) rfl ?_
        rw [nI_1]
        refine y_judge_i hF hM hW hk m (j + 1) 1  (by omega) ?_
        simpa only [gN_s, anyF, hc45, hc54, bit, Int32.or_zero, Int32.add_zero, ↓reduceIte] using q
set_option maxRecDepth 10000 in
theorem y_judge_L {I : Nat → Nat → Int32} {J : Nat → Nat → Int64} {F : Nat → Nat → Option Nat} {nc ns : Nat} {D : oD} (hF : RFok F) (hM : oM I 98 D) (hW : WF D)  : ∀ (m j : Nat) (z1 : Value) (z2 : Value), j + m = dN D 6 → Ev 3 mX12_judge 19 [.ref 95, .int (nI j), z1, z2] [] ((SH, nc, ns), I, J, F) (some (.int (judM D j m))) ((SH, nc, ns), I, J, F)
  | 0, j, z1, z2, hj => by
    have hD := hW.c
    have hH := hW.h
    have hT := hW.t
    have bt := hT.2
    obtain ⟨b0, b1, b2, b3, b4, b5, b6⟩ := hD.2
    refine e_iload_n (p := 20) dX12_judge_19 rfl rfl ?_
    refine e_aload_n (p := 21) dX12_judge_20 rfl rfl ?_
    refine e_getR (c := 11) (j := 15) (n := 37) (b := 98) (p := 24) dX12_judge_21 rfl rfl (by decide) (by decide) rfl (r_95_15 hF) rfl ?_
    refine e_bipush (v := 8) (p := 26) dX12_judge_24 (by decide) rfl ?_
    refine f_iald (n := 276) (i := 8) (v := nI (dN D 6)) (p := 27) dX12_judge_26 rfl (by decide) (by decide) (by decide) (mNn (i := 6) hM hD (by decide)) rfl ?_
    refine e_icmp_ge (t := 81) (p := 30) dX12_judge_27 (by decide) rfl rfl (fun hc27 => ?_) (fun hc27 => absurd (nle (by omega) (by omega)) hc27)
    refine e_bipush (v := -2) (p := 83) dX12_judge_81 (by decide) rfl ?_
    exact e_iretE dX12_judge_83 rfl rfl (by decide) ⟨rfl, rfl⟩
  | m + 1, j, z1, z2, hj => by
    have hD := hW.c
    have hH := hW.h
    have hT := hW.t
    have bt := hT.2
    obtain ⟨b0, b1, b2, b3, b4, b5, b6⟩ := hD.2
    refine e_iload_n (p := 20) dX12_judge_19 rfl rfl ?_
    refine e_aload_n (p := 21) dX12_judge_20 rfl rfl ?_
    refine e_getR (c := 11) (j := 15) (n := 37) (b := 98) (p := 24) dX12_judge_21 rfl rfl (by decide) (by decide) rfl (r_95_15 hF) rfl ?_
    refine e_bipush (v := 8) (p := 26) dX12_judge_24 (by decide) rfl ?_
    refine f_iald (n := 276) (i := 8) (v := nI (dN D 6)) (p := 27) dX12_judge_26 rfl (by decide) (by decide) (by decide) (mNn (i := 6) hM hD (by decide)) rfl ?_
    refine e_icmp_ge (t := 81) (p := 30) dX12_judge_27 (by decide) rfl rfl (fun hc27 => absurd hc27 (nge (by omega) (by omega))) (fun hc27 => ?_)
    refine e_iconst (v := 0) (p := 31) dX12_judge_30 (by decide) rfl ?_
    refine e_istore_n (ls1 := [.ref 95, .int (nI j), .int 0, z2]) (p := 32) dX12_judge_31 rfl rfl ?_
    refine e_iconst (v := 0) (p := 33) dX12_judge_32 (by decide) rfl ?_
    refine e_istore_n (ls1 := [.ref 95, .int (nI j), .int 0, .int 0]) (p := 34) dX12_judge_33 rfl rfl ?_
    refine y_judge_i hF hM hW (by omega) (dN D 2) 0 _ (by omega) ?_
    refine e_iload_n (p := 70) dX12_judge_69 rfl rfl ?_
    refine e_if_ne (t := 75) (p := 73) dX12_judge_70 (by decide) rfl rfl (fun hc70 => ?_) (fun hc70 => ?_)
    · skip
      refine e_iinc (ls1 := [.ref 95, .int ((nI j) + 1), .int (gN (anyF D j) 0 (dN D 2) 0), .int (nI (dN D 2))]) (p := 78) dX12_judge_75 rfl rfl rfl ?_
      refine e_goto (p := 19) dX12_judge_78 (by decide) rfl ?_
      rw [nI_1]
      exact Ev.res (by simp only [judM, hc70, ↓reduceIte]) (y_judge_L hF hM hW m (j + 1) _ _ (by omega))
    · skip
      refine e_iload_n (p := 74) dX12_judge_73 rfl rfl ?_
      exact e_iretE dX12_judge_74 rfl rfl (by decide) ⟨by simp only [judM, hc70, ↓reduceIte], rfl⟩
set_option maxRecDepth 10000 in
theorem q_judge_no {I : Nat → Nat → Int32} {J : Nat → Nat → Int64} {F : Nat → Nat → Option Nat} {nc ns : Nat} {D : oD} (hF : RFok F) (hM : oM I 98 D) (hW : WF D) (hO : I 95 14 = tol D) (ht : ¬ (if tol D = 0 then 1 else 0) = 0) : Ev 3 mX12_judge 0 [.ref 95, .null, .null, .null] [] ((SH, nc, ns), I, J, F) (some (.int (-1))) ((SH, nc, ns), hp_u (hp_u I 95 0 0) 95 11 (if tol D = 0 then 1 else 0), J, F) := by
  have hD := hW.c
  have hH := hW.h
  have hT := hW.t
  have bt := hT.2
  obtain ⟨b0, b1, b2, b3, b4, b5, b6⟩ := hD.2
  refine e_aload_n (p := 1) dX12_judge_0 rfl rfl ?_
  refine e_callV_v (p := 4) (k' := 0) (a := [.ref 95]) (rr := []) dX12_judge_1 rfl rfl rfl rfl (rc_of rfl rfl (by decide) ⟨rfl, by decide⟩) (Nat.le_of_ble_eq_true rfl) (Nat.le_of_ble_eq_true rfl) (by decide) y_good (Or.inl rfl) rfl ?_
  refine e_aload_n (p := 5) dX12_judge_4 rfl rfl ?_
  refine f_getI (c := 11) (j := 14) (n := 37) (v := tol D) (p := 8) dX12_judge_5 rfl rfl (by decide) (by decide) (Or.inr rfl) (I_u (I_u hO (by decide)) (by decide)) rfl ?_
  refine e_if_ne (t := 17) (p := 11) dX12_judge_8 (by decide) rfl rfl (fun hc8 => ?_) (fun hc8 => ?_)
  · skip
    first | (refine absurd ?_ ht; simp only [hc8, ↓reduceIte]; done) | (exfalso; simp_all; done)
  · skip
    refine e_aload_n (p := 12) dX12_judge_11 rfl rfl ?_
    refine e_iconst (v := 1) (p := 13) dX12_judge_12 (by decide) rfl ?_
    refine e_callV_int (p := 16) (k' := 0) (a := [.ref 95, .int 1]) (rr := []) dX12_judge_13 rfl rfl rfl rfl (rc_of rfl rfl (by decide) ⟨rfl, by decide⟩) (Nat.le_of_ble_eq_true rfl) (Nat.le_of_ble_eq_true rfl) (by decide) y_no (Or.inl rfl) rfl ?_
    exact e_iretE dX12_judge_16 rfl rfl (by decide) ⟨rfl, hpq (by first | (simp only [hc8, ↓reduceIte]; done) | (exfalso; simp_all; done))⟩
set_option maxRecDepth 10000 in
theorem q_judge_ok {I : Nat → Nat → Int32} {J : Nat → Nat → Int64} {F : Nat → Nat → Option Nat} {nc ns : Nat} {D : oD} (hF : RFok F) (hM : oM I 98 D) (hW : WF D) (hO : I 95 14 = tol D) (ht1 : tol D = 1)  : Ev 3 mX12_judge 0 [.ref 95, .null, .null, .null] [] ((SH, nc, ns), I, J, F) (some (.int (judM D 0 (dN D 6)))) ((SH, nc, ns), hp_u (hp_u I 95 0 0) 95 11 0, J, F) := by
  have hD := hW.c
  have hH := hW.h
  have hT := hW.t
  have bt := hT.2
  obtain ⟨b0, b1, b2, b3, b4, b5, b6⟩ := hD.2
  refine e_aload_n (p := 1) dX12_judge_0 rfl rfl ?_
  refine e_callV_v (p := 4) (k' := 0) (a := [.ref 95]) (rr := []) dX12_judge_1 rfl rfl rfl rfl (rc_of rfl rfl (by decide) ⟨rfl, by decide⟩) (Nat.le_of_ble_eq_true rfl) (Nat.le_of_ble_eq_true rfl) (by decide) y_good (Or.inl rfl) rfl ?_
  refine e_aload_n (p := 5) dX12_judge_4 rfl rfl ?_
  refine f_getI (c := 11) (j := 14) (n := 37) (v := 1) (p := 8) dX12_judge_5 rfl rfl (by decide) (by decide) (Or.inr rfl) ((I_u (I_u hO (by decide)) (by decide)).trans ht1) rfl ?_
  refine e_if_ne (t := 17) (p := 11) dX12_judge_8 (by decide) rfl rfl (fun hc8 => ?_) (fun hc8 => absurd hc8 (by decide))
  refine e_iconst (v := 0) (p := 18) dX12_judge_17 (by decide) rfl ?_
  refine e_istore_n (ls1 := [.ref 95, .int 0, .null, .null]) (p := 19) dX12_judge_18 rfl rfl ?_
  exact y_judge_L hF (oM_u (oM_u hM (by decide)) (by decide)) hW _ 0 _ _ (by omega)
set_option maxRecDepth 10000 in
theorem q_seed_no {I : Nat → Nat → Int32} {J : Nat → Nat → Int64} {F : Nat → Nat → Option Nat} {nc ns : Nat} {D : oD} (hF : RFok F) (hM : oM I 98 D) (hW : WF D) (hO : I 95 14 = tol D) {v : Int32} (ht : ¬ (if tol D = 0 then 1 else if inS v 0 65536 = 0 then 2 else 0) = 0) : Ev 1 mX12_seed 0 [.ref 95, .int v] [] ((SH, nc, ns), I, J, F) (some (.int 0)) ((SH, nc, ns), hp_u (hp_u I 95 0 0) 95 11 (if tol D = 0 then 1 else if inS v 0 65536 = 0 then 2 else 0), J, F) := by
  have hD := hW.c
  have hH := hW.h
  have hT := hW.t
  have bt := hT.2
  obtain ⟨b0, b1, b2, b3, b4, b5, b6⟩ := hD.2
  refine e_aload_n (p := 1) dX12_seed_0 rfl rfl ?_
  refine e_callV_v (p := 4) (k' := 0) (a := [.ref 95]) (rr := []) dX12_seed_1 rfl rfl rfl rfl (rc_of rfl rfl (by decide) ⟨rfl, by decide⟩) (Nat.le_of_ble_eq_true rfl) (Nat.le_of_ble_eq_true rfl) (by decide) y_good (Or.inl rfl) rfl ?_
  refine e_aload_n (p := 5) dX12_seed_4 rfl rfl ?_
  refine f_getI (c := 11) (j := 14) (n := 37) (v := tol D) (p := 8) dX12_seed_5 rfl rfl (by decide) (by decide) (Or.inr rfl) (I_u (I_u hO (by decide)) (by decide)) rfl ?_
  refine e_if_ne (t := 17) (p := 11) dX12_seed_8 (by decide) rfl rfl (fun hc8 => ?_) (fun hc8 => ?_)
  · skip
    refine e_iload_n (p := 18) dX12_seed_17 rfl rfl ?_
    refine e_iconst (v := 0) (p := 19) dX12_seed_18 (by decide) rfl ?_
    refine e_ldcwI (p := 22) dX12_seed_19 rfl rfl ?_
    refine e_callS_int (p := 25) (k' := 0) (a := [.int v, .int 0, .int 65536]) (rr := []) dX12_seed_22 rfl rfl rfl rfl rfl (rc_st rfl) (Nat.le_of_ble_eq_true rfl) (Nat.le_of_ble_eq_true rfl) (by decide) (y_in  ) (Or.inl rfl) rfl ?_
    refine e_if_ne (t := 34) (p := 28) dX12_seed_25 (by decide) rfl rfl (fun hc25 => ?_) (fun hc25 => ?_)
    · skip
      first | (refine absurd ?_ ht; simp only [hc8, hc25, ↓reduceIte]; done) | (exfalso; simp_all; done)
    · skip
      refine e_aload_n (p := 29) dX12_seed_28 rfl rfl ?_
      refine e_iconst (v := 2) (p := 30) dX12_seed_29 (by decide) rfl ?_
      refine e_callV_int (p := 33) (k' := 0) (a := [.ref 95, .int 2]) (rr := []) dX12_seed_30 rfl rfl rfl rfl (rc_of rfl rfl (by decide) ⟨rfl, by decide⟩) (Nat.le_of_ble_eq_true rfl) (Nat.le_of_ble_eq_true rfl) (by decide) y_isNot (Or.inl rfl) rfl ?_
      exact e_iretE dX12_seed_33 rfl (by decide) (by decide) ⟨rfl, hpq (by first | (simp only [hc8, hc25, ↓reduceIte]; done) | (exfalso; simp_all; done))⟩
  · skip
    refine e_aload_n (p := 12) dX12_seed_11 rfl rfl ?_
    refine e_iconst (v := 1) (p := 13) dX12_seed_12 (by decide) rfl ?_
    refine e_callV_int (p := 16) (k' := 0) (a := [.ref 95, .int 1]) (rr := []) dX12_seed_13 rfl rfl rfl rfl (rc_of rfl rfl (by decide) ⟨rfl, by decide⟩) (Nat.le_of_ble_eq_true rfl) (Nat.le_of_ble_eq_true rfl) (by decide) y_isNot (Or.inl rfl) rfl ?_
    exact e_iretE dX12_seed_16 rfl (by decide) (by decide) ⟨rfl, hpq (by first | (simp only [hc8, ↓reduceIte]; done) | (exfalso; simp_all; done))⟩
set_option maxRecDepth 10000 in
theorem q_seed_ok {I : Nat → Nat → Int32} {J : Nat → Nat → Int64} {F : Nat → Nat → Option Nat} {nc ns : Nat} {D : oD} (hF : RFok F) (hM : oM I 98 D) (hW : WF D) (hO : I 95 14 = tol D) (ht1 : tol D = 1) {v : Nat} (hv : v ≤ 65536)  : Ev 1 mX12_seed 0 [.ref 95, .int (nI v)] [] ((SH, nc, ns), I, J, F) (some (.int 1)) ((SH, nc, ns), hp_u (hp_u (hp_u I 95 0 0) 95 11 0) 100 3 (nI v), J, F) := by
  have hD := hW.c
  have hH := hW.h
  have hT := hW.t
  have bt := hT.2
  obtain ⟨b0, b1, b2, b3, b4, b5, b6⟩ := hD.2
  refine e_aload_n (p := 1) dX12_seed_0 rfl rfl ?_
  refine e_callV_v (p := 4) (k' := 0) (a := [.ref 95]) (rr := []) dX12_seed_1 rfl rfl rfl rfl (rc_of rfl rfl (by decide) ⟨rfl, by decide⟩) (Nat.le_of_ble_eq_true rfl) (Nat.le_of_ble_eq_true rfl) (by decide) y_good (Or.inl rfl) rfl ?_
  refine e_aload_n (p := 5) dX12_seed_4 rfl rfl ?_
  refine f_getI (c := 11) (j := 14) (n := 37) (v := 1) (p := 8) dX12_seed_5 rfl rfl (by decide) (by decide) (Or.inr rfl) ((I_u (I_u hO (by decide)) (by decide)).trans ht1) rfl ?_
  refine e_if_ne (t := 17) (p := 11) dX12_seed_8 (by decide) rfl rfl (fun hc8 => ?_) (fun hc8 => absurd hc8 (by decide))
  refine e_iload_n (p := 18) dX12_seed_17 rfl rfl ?_
  refine e_iconst (v := 0) (p := 19) dX12_seed_18 (by decide) rfl ?_
  refine e_ldcwI (p := 22) dX12_seed_19 rfl rfl ?_
  refine e_callS_int (p := 25) (k' := 0) (a := [.int (nI v), .int 0, .int 65536]) (rr := []) dX12_seed_22 rfl rfl rfl rfl rfl (rc_st rfl) (Nat.le_of_ble_eq_true rfl) (Nat.le_of_ble_eq_true rfl) (by decide) (Ev.i (in_ok (a := 0) (b := 65536) (n := v) (by omega) (by omega) (by omega)) (y_in  )) (Or.inl rfl) rfl ?_
  refine e_if_ne (t := 34) (p := 28) dX12_seed_25 (by decide) rfl rfl (fun hc25 => ?_) (fun hc25 => absurd hc25 (by decide))
  refine e_aload_n (p := 35) dX12_seed_34 rfl rfl ?_
  refine e_getR (c := 11) (j := 17) (n := 37) (b := 100) (p := 38) dX12_seed_35 rfl rfl (by decide) (by decide) rfl (r_95_17 hF) rfl ?_
  refine e_iconst (v := 3) (p := 39) dX12_seed_38 (by decide) rfl ?_
  refine e_iload_n (p := 40) dX12_seed_39 rfl rfl ?_
  refine f_iast (n := 6) (i := 3) (p := 41) dX12_seed_40 rfl (by decide) (by decide) (by decide) rfl ?_
  refine e_iconst (v := 1) (p := 42) dX12_seed_41 (by decide) rfl ?_
  exact e_iretE dX12_seed_42 rfl (by decide) (by decide) ⟨rfl, rfl⟩
set_option maxRecDepth 10000 in
theorem q_fault {I : Nat → Nat → Int32} {J : Nat → Nat → Int64} {F : Nat → Nat → Option Nat} {nc ns : Nat} (hF : RFok F)  : Ev 0 mX12_fault 0 [.ref 95] [] ((SH, nc, ns), I, J, F) (some (.int (I 95 9))) ((SH, nc, ns), hp_u I 95 0 0, J, F) := by
  refine e_aload_n (p := 1) dX12_fault_0 rfl rfl ?_
  refine e_iconst (v := 0) (p := 2) dX12_fault_1 (by decide) rfl ?_
  refine e_putI (c := 11) (j := 0) (n := 37)  (p := 5) dX12_fault_2 rfl rfl (by decide) (by decide) rfl rfl rfl ?_
  refine e_aload_n (p := 6) dX12_fault_5 rfl rfl ?_
  refine f_getI (c := 11) (j := 9) (n := 37) (v := (hp_u I 95 0 0) 95 9) (p := 9) dX12_fault_6 rfl rfl (by decide) (by decide) (Or.inl rfl) rfl rfl ?_
  exact e_iretE dX12_fault_9 rfl rfl (by decide) ⟨rfl, rfl⟩
set_option maxRecDepth 10000 in
theorem q_trouble {I : Nat → Nat → Int32} {J : Nat → Nat → Int64} {F : Nat → Nat → Option Nat} {nc ns : Nat} (hF : RFok F)  : Ev 0 mX12_trouble 0 [.ref 95] [] ((SH, nc, ns), I, J, F) (some (.int (I 95 11))) ((SH, nc, ns), hp_u I 95 0 0, J, F) := by
  refine e_aload_n (p := 1) dX12_trouble_0 rfl rfl ?_
  refine e_iconst (v := 0) (p := 2) dX12_trouble_1 (by decide) rfl ?_
  refine e_putI (c := 11) (j := 0) (n := 37)  (p := 5) dX12_trouble_2 rfl rfl (by decide) (by decide) rfl rfl rfl ?_
  refine e_aload_n (p := 6) dX12_trouble_5 rfl rfl ?_
  refine f_getI (c := 11) (j := 11) (n := 37) (v := (hp_u I 95 0 0) 95 11) (p := 9) dX12_trouble_6 rfl rfl (by decide) (by decide) (Or.inl rfl) rfl rfl ?_
  exact e_iretE dX12_trouble_9 rfl rfl (by decide) ⟨rfl, rfl⟩
set_option maxRecDepth 10000 in
theorem q_where {I : Nat → Nat → Int32} {J : Nat → Nat → Int64} {F : Nat → Nat → Option Nat} {nc ns : Nat} (hF : RFok F)  : Ev 0 mX12_where 0 [.ref 95] [] ((SH, nc, ns), I, J, F) (some (.int (if I 95 11 = 4 then I 95 10 else -1))) ((SH, nc, ns), hp_u I 95 0 0, J, F) := by
  refine e_aload_n (p := 1) dX12_where_0 rfl rfl ?_
  refine e_iconst (v := 0) (p := 2) dX12_where_1 (by decide) rfl ?_
  refine e_putI (c := 11) (j := 0) (n := 37)  (p := 5) dX12_where_2 rfl rfl (by decide) (by decide) rfl rfl rfl ?_
  refine e_aload_n (p := 6) dX12_where_5 rfl rfl ?_
  refine f_getI (c := 11) (j := 11) (n := 37) (v := (hp_u I 95 0 0) 95 11) (p := 9) dX12_where_6 rfl rfl (by decide) (by decide) (Or.inl rfl) rfl rfl ?_
  refine e_iconst (v := 4) (p := 10) dX12_where_9 (by decide) rfl ?_
  refine e_icmp_ne (t := 20) (p := 13) dX12_where_10 (by decide) rfl rfl (fun hc10 => ?_) (fun hc10 => ?_)
  · skip
    refine e_iconst (v := -1) (p := 21) dX12_where_20 (by decide) rfl ?_
    exact e_iretE dX12_where_21 rfl rfl (by decide) ⟨by simp only [show hp_u I 95 0 0 95 11 = I 95 11 from rfl] at hc10; simp only [hc10, ↓reduceIte]; try rfl, rfl⟩
  · skip
    refine e_aload_n (p := 14) dX12_where_13 rfl rfl ?_
    refine f_getI (c := 11) (j := 10) (n := 37) (v := (hp_u I 95 0 0) 95 10) (p := 17) dX12_where_14 rfl rfl (by decide) (by decide) (Or.inl rfl) rfl rfl ?_
    refine e_goto (p := 21) dX12_where_17 (by decide) rfl ?_
    exact e_iretE dX12_where_21 rfl rfl (by decide) ⟨by simp only [show hp_u I 95 0 0 95 11 = I 95 11 from rfl] at hc10; simp only [hc10, ↓reduceIte]; try rfl, rfl⟩
set_option maxRecDepth 10000 in
theorem q_thrown {I : Nat → Nat → Int32} {J : Nat → Nat → Int64} {F : Nat → Nat → Option Nat} {nc ns : Nat} (hF : RFok F)  : Ev 0 mX12_thrown 0 [.ref 95] [] ((SH, nc, ns), I, J, F) (some (.int (I 95 0))) ((SH, nc, ns), I, J, F) := by
  refine e_aload_n (p := 1) dX12_thrown_0 rfl rfl ?_
  refine f_getI (c := 11) (j := 0) (n := 37) (v := I 95 0) (p := 4) dX12_thrown_1 rfl rfl (by decide) (by decide) (Or.inl rfl) rfl rfl ?_
  exact e_iretE dX12_thrown_4 rfl rfl (by decide) ⟨rfl, rfl⟩
set_option maxRecDepth 10000 in
theorem q_size_u0 {I : Nat → Nat → Int32} {J : Nat → Nat → Int64} {F : Nat → Nat → Option Nat} {nc ns : Nat} {D : oD} (hF : RFok F) (hM : oM I 98 D) (hW : WF D) (hO : I 95 14 = tol D) {s : Nat → Int32} (hs : stM I s) (ht0 : tol D = 0)  : Ev 1 mX12_size 0 [.ref 95, .int 0] [] ((SH, nc, ns), I, J, F) (some (.int 0)) ((SH, nc, ns), hp_u I 95 0 0, J, F) := by
  have hD := hW.c
  have hH := hW.h
  have hT := hW.t
  have bt := hT.2
  obtain ⟨b0, b1, b2, b3, b4, b5, b6⟩ := hD.2
  refine e_aload_n (p := 1) dX12_size_0 rfl rfl ?_
  refine e_iconst (v := 0) (p := 2) dX12_size_1 (by decide) rfl ?_
  refine e_putI (c := 11) (j := 0) (n := 37)  (p := 5) dX12_size_2 rfl rfl (by decide) (by decide) rfl rfl rfl ?_
  refine e_iload_n (p := 6) dX12_size_5 rfl rfl ?_
  refine e_bipush (v := 15) (p := 8) dX12_size_6 (by decide) rfl ?_
  refine e_icmp_ne (t := 16) (p := 11) dX12_size_8 (by decide) rfl rfl (fun hc8 => ?_) (fun hc8 => absurd hc8 (by decide))
  refine e_aload_n (p := 17) dX12_size_16 rfl rfl ?_
  refine f_getI (c := 11) (j := 14) (n := 37) (v := 0) (p := 20) dX12_size_17 rfl rfl (by decide) (by decide) (Or.inr rfl) ((I_u hO (by decide)).trans ht0) rfl ?_
  refine e_if_ne (t := 39) (p := 23) dX12_size_20 (by decide) rfl rfl (fun hc20 => absurd (by decide) hc20) (fun hc20 => ?_)
  refine e_iload_n (p := 24) dX12_size_23 rfl rfl ?_
  refine e_iconst (v := 0) (p := 25) dX12_size_24 (by decide) rfl ?_
  refine e_bipush (v := 14) (p := 27) dX12_size_25 (by decide) rfl ?_
  refine e_callS_int (p := 30) (k' := 0) (a := [.int 0, .int 0, .int 14]) (rr := []) dX12_size_27 rfl rfl rfl rfl rfl (rc_st rfl) (Nat.le_of_ble_eq_true rfl) (Nat.le_of_ble_eq_true rfl) (by decide) (Ev.i (show inS 0 0 14 = 1 by decide) (y_in)) (Or.inl rfl) rfl ?_
  refine e_if_eq (t := 37) (p := 33) dX12_size_30 (by decide) rfl rfl (fun hc30 => absurd hc30 (by decide)) (fun hc30 => ?_)
  refine e_iconst (v := 0) (p := 34) dX12_size_33 (by decide) rfl ?_
  refine e_goto (p := 38) dX12_size_34 (by decide) rfl ?_
  exact e_iretE dX12_size_38 rfl rfl (by decide) ⟨rfl, rfl⟩
set_option maxRecDepth 10000 in
theorem q_size_u1 {I : Nat → Nat → Int32} {J : Nat → Nat → Int64} {F : Nat → Nat → Option Nat} {nc ns : Nat} {D : oD} (hF : RFok F) (hM : oM I 98 D) (hW : WF D) (hO : I 95 14 = tol D) {s : Nat → Int32} (hs : stM I s) (ht0 : tol D = 0)  : Ev 1 mX12_size 0 [.ref 95, .int 1] [] ((SH, nc, ns), I, J, F) (some (.int 0)) ((SH, nc, ns), hp_u I 95 0 0, J, F) := by
  have hD := hW.c
  have hH := hW.h
  have hT := hW.t
  have bt := hT.2
  obtain ⟨b0, b1, b2, b3, b4, b5, b6⟩ := hD.2
  refine e_aload_n (p := 1) dX12_size_0 rfl rfl ?_
  refine e_iconst (v := 0) (p := 2) dX12_size_1 (by decide) rfl ?_
  refine e_putI (c := 11) (j := 0) (n := 37)  (p := 5) dX12_size_2 rfl rfl (by decide) (by decide) rfl rfl rfl ?_
  refine e_iload_n (p := 6) dX12_size_5 rfl rfl ?_
  refine e_bipush (v := 15) (p := 8) dX12_size_6 (by decide) rfl ?_
  refine e_icmp_ne (t := 16) (p := 11) dX12_size_8 (by decide) rfl rfl (fun hc8 => ?_) (fun hc8 => absurd hc8 (by decide))
  refine e_aload_n (p := 17) dX12_size_16 rfl rfl ?_
  refine f_getI (c := 11) (j := 14) (n := 37) (v := 0) (p := 20) dX12_size_17 rfl rfl (by decide) (by decide) (Or.inr rfl) ((I_u hO (by decide)).trans ht0) rfl ?_
  refine e_if_ne (t := 39) (p := 23) dX12_size_20 (by decide) rfl rfl (fun hc20 => absurd (by decide) hc20) (fun hc20 => ?_)
  refine e_iload_n (p := 24) dX12_size_23 rfl rfl ?_
  refine e_iconst (v := 0) (p := 25) dX12_size_24 (by decide) rfl ?_
  refine e_bipush (v := 14) (p := 27) dX12_size_25 (by decide) rfl ?_
  refine e_callS_int (p := 30) (k' := 0) (a := [.int 1, .int 0, .int 14]) (rr := []) dX12_size_27 rfl rfl rfl rfl rfl (rc_st rfl) (Nat.le_of_ble_eq_true rfl) (Nat.le_of_ble_eq_true rfl) (by decide) (Ev.i (show inS 1 0 14 = 1 by decide) (y_in)) (Or.inl rfl) rfl ?_
  refine e_if_eq (t := 37) (p := 33) dX12_size_30 (by decide) rfl rfl (fun hc30 => absurd hc30 (by decide)) (fun hc30 => ?_)
  refine e_iconst (v := 0) (p := 34) dX12_size_33 (by decide) rfl ?_
  refine e_goto (p := 38) dX12_size_34 (by decide) rfl ?_
  exact e_iretE dX12_size_38 rfl rfl (by decide) ⟨rfl, rfl⟩
set_option maxRecDepth 10000 in
theorem q_size_u2 {I : Nat → Nat → Int32} {J : Nat → Nat → Int64} {F : Nat → Nat → Option Nat} {nc ns : Nat} {D : oD} (hF : RFok F) (hM : oM I 98 D) (hW : WF D) (hO : I 95 14 = tol D) {s : Nat → Int32} (hs : stM I s) (ht0 : tol D = 0)  : Ev 1 mX12_size 0 [.ref 95, .int 2] [] ((SH, nc, ns), I, J, F) (some (.int 0)) ((SH, nc, ns), hp_u I 95 0 0, J, F) := by
  have hD := hW.c
  have hH := hW.h
  have hT := hW.t
  have bt := hT.2
  obtain ⟨b0, b1, b2, b3, b4, b5, b6⟩ := hD.2
  refine e_aload_n (p := 1) dX12_size_0 rfl rfl ?_
  refine e_iconst (v := 0) (p := 2) dX12_size_1 (by decide) rfl ?_
  refine e_putI (c := 11) (j := 0) (n := 37)  (p := 5) dX12_size_2 rfl rfl (by decide) (by decide) rfl rfl rfl ?_
  refine e_iload_n (p := 6) dX12_size_5 rfl rfl ?_
  refine e_bipush (v := 15) (p := 8) dX12_size_6 (by decide) rfl ?_
  refine e_icmp_ne (t := 16) (p := 11) dX12_size_8 (by decide) rfl rfl (fun hc8 => ?_) (fun hc8 => absurd hc8 (by decide))
  refine e_aload_n (p := 17) dX12_size_16 rfl rfl ?_
  refine f_getI (c := 11) (j := 14) (n := 37) (v := 0) (p := 20) dX12_size_17 rfl rfl (by decide) (by decide) (Or.inr rfl) ((I_u hO (by decide)).trans ht0) rfl ?_
  refine e_if_ne (t := 39) (p := 23) dX12_size_20 (by decide) rfl rfl (fun hc20 => absurd (by decide) hc20) (fun hc20 => ?_)
  refine e_iload_n (p := 24) dX12_size_23 rfl rfl ?_
  refine e_iconst (v := 0) (p := 25) dX12_size_24 (by decide) rfl ?_
  refine e_bipush (v := 14) (p := 27) dX12_size_25 (by decide) rfl ?_
  refine e_callS_int (p := 30) (k' := 0) (a := [.int 2, .int 0, .int 14]) (rr := []) dX12_size_27 rfl rfl rfl rfl rfl (rc_st rfl) (Nat.le_of_ble_eq_true rfl) (Nat.le_of_ble_eq_true rfl) (by decide) (Ev.i (show inS 2 0 14 = 1 by decide) (y_in)) (Or.inl rfl) rfl ?_
  refine e_if_eq (t := 37) (p := 33) dX12_size_30 (by decide) rfl rfl (fun hc30 => absurd hc30 (by decide)) (fun hc30 => ?_)
  refine e_iconst (v := 0) (p := 34) dX12_size_33 (by decide) rfl ?_
  refine e_goto (p := 38) dX12_size_34 (by decide) rfl ?_
  exact e_iretE dX12_size_38 rfl rfl (by decide) ⟨rfl, rfl⟩
set_option maxRecDepth 10000 in
theorem q_size_u3 {I : Nat → Nat → Int32} {J : Nat → Nat → Int64} {F : Nat → Nat → Option Nat} {nc ns : Nat} {D : oD} (hF : RFok F) (hM : oM I 98 D) (hW : WF D) (hO : I 95 14 = tol D) {s : Nat → Int32} (hs : stM I s) (ht0 : tol D = 0)  : Ev 1 mX12_size 0 [.ref 95, .int 3] [] ((SH, nc, ns), I, J, F) (some (.int 0)) ((SH, nc, ns), hp_u I 95 0 0, J, F) := by
  have hD := hW.c
  have hH := hW.h
  have hT := hW.t
  have bt := hT.2
  obtain ⟨b0, b1, b2, b3, b4, b5, b6⟩ := hD.2
  refine e_aload_n (p := 1) dX12_size_0 rfl rfl ?_
  refine e_iconst (v := 0) (p := 2) dX12_size_1 (by decide) rfl ?_
  refine e_putI (c := 11) (j := 0) (n := 37)  (p := 5) dX12_size_2 rfl rfl (by decide) (by decide) rfl rfl rfl ?_
  refine e_iload_n (p := 6) dX12_size_5 rfl rfl ?_
  refine e_bipush (v := 15) (p := 8) dX12_size_6 (by decide) rfl ?_
  refine e_icmp_ne (t := 16) (p := 11) dX12_size_8 (by decide) rfl rfl (fun hc8 => ?_) (fun hc8 => absurd hc8 (by decide))
  refine e_aload_n (p := 17) dX12_size_16 rfl rfl ?_
  refine f_getI (c := 11) (j := 14) (n := 37) (v := 0) (p := 20) dX12_size_17 rfl rfl (by decide) (by decide) (Or.inr rfl) ((I_u hO (by decide)).trans ht0) rfl ?_
  refine e_if_ne (t := 39) (p := 23) dX12_size_20 (by decide) rfl rfl (fun hc20 => absurd (by decide) hc20) (fun hc20 => ?_)
  refine e_iload_n (p := 24) dX12_size_23 rfl rfl ?_
  refine e_iconst (v := 0) (p := 25) dX12_size_24 (by decide) rfl ?_
  refine e_bipush (v := 14) (p := 27) dX12_size_25 (by decide) rfl ?_
  refine e_callS_int (p := 30) (k' := 0) (a := [.int 3, .int 0, .int 14]) (rr := []) dX12_size_27 rfl rfl rfl rfl rfl (rc_st rfl) (Nat.le_of_ble_eq_true rfl) (Nat.le_of_ble_eq_true rfl) (by decide) (Ev.i (show inS 3 0 14 = 1 by decide) (y_in)) (Or.inl rfl) rfl ?_
  refine e_if_eq (t := 37) (p := 33) dX12_size_30 (by decide) rfl rfl (fun hc30 => absurd hc30 (by decide)) (fun hc30 => ?_)
  refine e_iconst (v := 0) (p := 34) dX12_size_33 (by decide) rfl ?_
  refine e_goto (p := 38) dX12_size_34 (by decide) rfl ?_
  exact e_iretE dX12_size_38 rfl rfl (by decide) ⟨rfl, rfl⟩
set_option maxRecDepth 10000 in
theorem q_size_u4 {I : Nat → Nat → Int32} {J : Nat → Nat → Int64} {F : Nat → Nat → Option Nat} {nc ns : Nat} {D : oD} (hF : RFok F) (hM : oM I 98 D) (hW : WF D) (hO : I 95 14 = tol D) {s : Nat → Int32} (hs : stM I s) (ht0 : tol D = 0)  : Ev 1 mX12_size 0 [.ref 95, .int 4] [] ((SH, nc, ns), I, J, F) (some (.int 0)) ((SH, nc, ns), hp_u I 95 0 0, J, F) := by
  have hD := hW.c
  have hH := hW.h
  have hT := hW.t
  have bt := hT.2
  obtain ⟨b0, b1, b2, b3, b4, b5, b6⟩ := hD.2
  refine e_aload_n (p := 1) dX12_size_0 rfl rfl ?_
  refine e_iconst (v := 0) (p := 2) dX12_size_1 (by decide) rfl ?_
  refine e_putI (c := 11) (j := 0) (n := 37)  (p := 5) dX12_size_2 rfl rfl (by decide) (by decide) rfl rfl rfl ?_
  refine e_iload_n (p := 6) dX12_size_5 rfl rfl ?_
  refine e_bipush (v := 15) (p := 8) dX12_size_6 (by decide) rfl ?_
  refine e_icmp_ne (t := 16) (p := 11) dX12_size_8 (by decide) rfl rfl (fun hc8 => ?_) (fun hc8 => absurd hc8 (by decide))
  refine e_aload_n (p := 17) dX12_size_16 rfl rfl ?_
  refine f_getI (c := 11) (j := 14) (n := 37) (v := 0) (p := 20) dX12_size_17 rfl rfl (by decide) (by decide) (Or.inr rfl) ((I_u hO (by decide)).trans ht0) rfl ?_
  refine e_if_ne (t := 39) (p := 23) dX12_size_20 (by decide) rfl rfl (fun hc20 => absurd (by decide) hc20) (fun hc20 => ?_)
  refine e_iload_n (p := 24) dX12_size_23 rfl rfl ?_
  refine e_iconst (v := 0) (p := 25) dX12_size_24 (by decide) rfl ?_
  refine e_bipush (v := 14) (p := 27) dX12_size_25 (by decide) rfl ?_
  refine e_callS_int (p := 30) (k' := 0) (a := [.int 4, .int 0, .int 14]) (rr := []) dX12_size_27 rfl rfl rfl rfl rfl (rc_st rfl) (Nat.le_of_ble_eq_true rfl) (Nat.le_of_ble_eq_true rfl) (by decide) (Ev.i (show inS 4 0 14 = 1 by decide) (y_in)) (Or.inl rfl) rfl ?_
  refine e_if_eq (t := 37) (p := 33) dX12_size_30 (by decide) rfl rfl (fun hc30 => absurd hc30 (by decide)) (fun hc30 => ?_)
  refine e_iconst (v := 0) (p := 34) dX12_size_33 (by decide) rfl ?_
  refine e_goto (p := 38) dX12_size_34 (by decide) rfl ?_
  exact e_iretE dX12_size_38 rfl rfl (by decide) ⟨rfl, rfl⟩
set_option maxRecDepth 10000 in
theorem q_size_u5 {I : Nat → Nat → Int32} {J : Nat → Nat → Int64} {F : Nat → Nat → Option Nat} {nc ns : Nat} {D : oD} (hF : RFok F) (hM : oM I 98 D) (hW : WF D) (hO : I 95 14 = tol D) {s : Nat → Int32} (hs : stM I s) (ht0 : tol D = 0)  : Ev 1 mX12_size 0 [.ref 95, .int 5] [] ((SH, nc, ns), I, J, F) (some (.int 0)) ((SH, nc, ns), hp_u I 95 0 0, J, F) := by
  have hD := hW.c
  have hH := hW.h
  have hT := hW.t
  have bt := hT.2
  obtain ⟨b0, b1, b2, b3, b4, b5, b6⟩ := hD.2
  refine e_aload_n (p := 1) dX12_size_0 rfl rfl ?_
  refine e_iconst (v := 0) (p := 2) dX12_size_1 (by decide) rfl ?_
  refine e_putI (c := 11) (j := 0) (n := 37)  (p := 5) dX12_size_2 rfl rfl (by decide) (by decide) rfl rfl rfl ?_
  refine e_iload_n (p := 6) dX12_size_5 rfl rfl ?_
  refine e_bipush (v := 15) (p := 8) dX12_size_6 (by decide) rfl ?_
  refine e_icmp_ne (t := 16) (p := 11) dX12_size_8 (by decide) rfl rfl (fun hc8 => ?_) (fun hc8 => absurd hc8 (by decide))
  refine e_aload_n (p := 17) dX12_size_16 rfl rfl ?_
  refine f_getI (c := 11) (j := 14) (n := 37) (v := 0) (p := 20) dX12_size_17 rfl rfl (by decide) (by decide) (Or.inr rfl) ((I_u hO (by decide)).trans ht0) rfl ?_
  refine e_if_ne (t := 39) (p := 23) dX12_size_20 (by decide) rfl rfl (fun hc20 => absurd (by decide) hc20) (fun hc20 => ?_)
  refine e_iload_n (p := 24) dX12_size_23 rfl rfl ?_
  refine e_iconst (v := 0) (p := 25) dX12_size_24 (by decide) rfl ?_
  refine e_bipush (v := 14) (p := 27) dX12_size_25 (by decide) rfl ?_
  refine e_callS_int (p := 30) (k' := 0) (a := [.int 5, .int 0, .int 14]) (rr := []) dX12_size_27 rfl rfl rfl rfl rfl (rc_st rfl) (Nat.le_of_ble_eq_true rfl) (Nat.le_of_ble_eq_true rfl) (by decide) (Ev.i (show inS 5 0 14 = 1 by decide) (y_in)) (Or.inl rfl) rfl ?_
  refine e_if_eq (t := 37) (p := 33) dX12_size_30 (by decide) rfl rfl (fun hc30 => absurd hc30 (by decide)) (fun hc30 => ?_)
  refine e_iconst (v := 0) (p := 34) dX12_size_33 (by decide) rfl ?_
  refine e_goto (p := 38) dX12_size_34 (by decide) rfl ?_
  exact e_iretE dX12_size_38 rfl rfl (by decide) ⟨rfl, rfl⟩
set_option maxRecDepth 10000 in
theorem q_size_u6 {I : Nat → Nat → Int32} {J : Nat → Nat → Int64} {F : Nat → Nat → Option Nat} {nc ns : Nat} {D : oD} (hF : RFok F) (hM : oM I 98 D) (hW : WF D) (hO : I 95 14 = tol D) {s : Nat → Int32} (hs : stM I s) (ht0 : tol D = 0)  : Ev 1 mX12_size 0 [.ref 95, .int 6] [] ((SH, nc, ns), I, J, F) (some (.int 0)) ((SH, nc, ns), hp_u I 95 0 0, J, F) := by
  have hD := hW.c
  have hH := hW.h
  have hT := hW.t
  have bt := hT.2
  obtain ⟨b0, b1, b2, b3, b4, b5, b6⟩ := hD.2
  refine e_aload_n (p := 1) dX12_size_0 rfl rfl ?_
  refine e_iconst (v := 0) (p := 2) dX12_size_1 (by decide) rfl ?_
  refine e_putI (c := 11) (j := 0) (n := 37)  (p := 5) dX12_size_2 rfl rfl (by decide) (by decide) rfl rfl rfl ?_
  refine e_iload_n (p := 6) dX12_size_5 rfl rfl ?_
  refine e_bipush (v := 15) (p := 8) dX12_size_6 (by decide) rfl ?_
  refine e_icmp_ne (t := 16) (p := 11) dX12_size_8 (by decide) rfl rfl (fun hc8 => ?_) (fun hc8 => absurd hc8 (by decide))
  refine e_aload_n (p := 17) dX12_size_16 rfl rfl ?_
  refine f_getI (c := 11) (j := 14) (n := 37) (v := 0) (p := 20) dX12_size_17 rfl rfl (by decide) (by decide) (Or.inr rfl) ((I_u hO (by decide)).trans ht0) rfl ?_
  refine e_if_ne (t := 39) (p := 23) dX12_size_20 (by decide) rfl rfl (fun hc20 => absurd (by decide) hc20) (fun hc20 => ?_)
  refine e_iload_n (p := 24) dX12_size_23 rfl rfl ?_
  refine e_iconst (v := 0) (p := 25) dX12_size_24 (by decide) rfl ?_
  refine e_bipush (v := 14) (p := 27) dX12_size_25 (by decide) rfl ?_
  refine e_callS_int (p := 30) (k' := 0) (a := [.int 6, .int 0, .int 14]) (rr := []) dX12_size_27 rfl rfl rfl rfl rfl (rc_st rfl) (Nat.le_of_ble_eq_true rfl) (Nat.le_of_ble_eq_true rfl) (by decide) (Ev.i (show inS 6 0 14 = 1 by decide) (y_in)) (Or.inl rfl) rfl ?_
  refine e_if_eq (t := 37) (p := 33) dX12_size_30 (by decide) rfl rfl (fun hc30 => absurd hc30 (by decide)) (fun hc30 => ?_)
  refine e_iconst (v := 0) (p := 34) dX12_size_33 (by decide) rfl ?_
  refine e_goto (p := 38) dX12_size_34 (by decide) rfl ?_
  exact e_iretE dX12_size_38 rfl rfl (by decide) ⟨rfl, rfl⟩
set_option maxRecDepth 10000 in
theorem q_size_u7 {I : Nat → Nat → Int32} {J : Nat → Nat → Int64} {F : Nat → Nat → Option Nat} {nc ns : Nat} {D : oD} (hF : RFok F) (hM : oM I 98 D) (hW : WF D) (hO : I 95 14 = tol D) {s : Nat → Int32} (hs : stM I s) (ht0 : tol D = 0)  : Ev 1 mX12_size 0 [.ref 95, .int 7] [] ((SH, nc, ns), I, J, F) (some (.int 0)) ((SH, nc, ns), hp_u I 95 0 0, J, F) := by
  have hD := hW.c
  have hH := hW.h
  have hT := hW.t
  have bt := hT.2
  obtain ⟨b0, b1, b2, b3, b4, b5, b6⟩ := hD.2
  refine e_aload_n (p := 1) dX12_size_0 rfl rfl ?_
  refine e_iconst (v := 0) (p := 2) dX12_size_1 (by decide) rfl ?_
  refine e_putI (c := 11) (j := 0) (n := 37)  (p := 5) dX12_size_2 rfl rfl (by decide) (by decide) rfl rfl rfl ?_
  refine e_iload_n (p := 6) dX12_size_5 rfl rfl ?_
  refine e_bipush (v := 15) (p := 8) dX12_size_6 (by decide) rfl ?_
  refine e_icmp_ne (t := 16) (p := 11) dX12_size_8 (by decide) rfl rfl (fun hc8 => ?_) (fun hc8 => absurd hc8 (by decide))
  refine e_aload_n (p := 17) dX12_size_16 rfl rfl ?_
  refine f_getI (c := 11) (j := 14) (n := 37) (v := 0) (p := 20) dX12_size_17 rfl rfl (by decide) (by decide) (Or.inr rfl) ((I_u hO (by decide)).trans ht0) rfl ?_
  refine e_if_ne (t := 39) (p := 23) dX12_size_20 (by decide) rfl rfl (fun hc20 => absurd (by decide) hc20) (fun hc20 => ?_)
  refine e_iload_n (p := 24) dX12_size_23 rfl rfl ?_
  refine e_iconst (v := 0) (p := 25) dX12_size_24 (by decide) rfl ?_
  refine e_bipush (v := 14) (p := 27) dX12_size_25 (by decide) rfl ?_
  refine e_callS_int (p := 30) (k' := 0) (a := [.int 7, .int 0, .int 14]) (rr := []) dX12_size_27 rfl rfl rfl rfl rfl (rc_st rfl) (Nat.le_of_ble_eq_true rfl) (Nat.le_of_ble_eq_true rfl) (by decide) (Ev.i (show inS 7 0 14 = 1 by decide) (y_in)) (Or.inl rfl) rfl ?_
  refine e_if_eq (t := 37) (p := 33) dX12_size_30 (by decide) rfl rfl (fun hc30 => absurd hc30 (by decide)) (fun hc30 => ?_)
  refine e_iconst (v := 0) (p := 34) dX12_size_33 (by decide) rfl ?_
  refine e_goto (p := 38) dX12_size_34 (by decide) rfl ?_
  exact e_iretE dX12_size_38 rfl rfl (by decide) ⟨rfl, rfl⟩
set_option maxRecDepth 10000 in
theorem q_size_u8 {I : Nat → Nat → Int32} {J : Nat → Nat → Int64} {F : Nat → Nat → Option Nat} {nc ns : Nat} {D : oD} (hF : RFok F) (hM : oM I 98 D) (hW : WF D) (hO : I 95 14 = tol D) {s : Nat → Int32} (hs : stM I s) (ht0 : tol D = 0)  : Ev 1 mX12_size 0 [.ref 95, .int 8] [] ((SH, nc, ns), I, J, F) (some (.int 0)) ((SH, nc, ns), hp_u I 95 0 0, J, F) := by
  have hD := hW.c
  have hH := hW.h
  have hT := hW.t
  have bt := hT.2
  obtain ⟨b0, b1, b2, b3, b4, b5, b6⟩ := hD.2
  refine e_aload_n (p := 1) dX12_size_0 rfl rfl ?_
  refine e_iconst (v := 0) (p := 2) dX12_size_1 (by decide) rfl ?_
  refine e_putI (c := 11) (j := 0) (n := 37)  (p := 5) dX12_size_2 rfl rfl (by decide) (by decide) rfl rfl rfl ?_
  refine e_iload_n (p := 6) dX12_size_5 rfl rfl ?_
  refine e_bipush (v := 15) (p := 8) dX12_size_6 (by decide) rfl ?_
  refine e_icmp_ne (t := 16) (p := 11) dX12_size_8 (by decide) rfl rfl (fun hc8 => ?_) (fun hc8 => absurd hc8 (by decide))
  refine e_aload_n (p := 17) dX12_size_16 rfl rfl ?_
  refine f_getI (c := 11) (j := 14) (n := 37) (v := 0) (p := 20) dX12_size_17 rfl rfl (by decide) (by decide) (Or.inr rfl) ((I_u hO (by decide)).trans ht0) rfl ?_
  refine e_if_ne (t := 39) (p := 23) dX12_size_20 (by decide) rfl rfl (fun hc20 => absurd (by decide) hc20) (fun hc20 => ?_)
  refine e_iload_n (p := 24) dX12_size_23 rfl rfl ?_
  refine e_iconst (v := 0) (p := 25) dX12_size_24 (by decide) rfl ?_
  refine e_bipush (v := 14) (p := 27) dX12_size_25 (by decide) rfl ?_
  refine e_callS_int (p := 30) (k' := 0) (a := [.int 8, .int 0, .int 14]) (rr := []) dX12_size_27 rfl rfl rfl rfl rfl (rc_st rfl) (Nat.le_of_ble_eq_true rfl) (Nat.le_of_ble_eq_true rfl) (by decide) (Ev.i (show inS 8 0 14 = 1 by decide) (y_in)) (Or.inl rfl) rfl ?_
  refine e_if_eq (t := 37) (p := 33) dX12_size_30 (by decide) rfl rfl (fun hc30 => absurd hc30 (by decide)) (fun hc30 => ?_)
  refine e_iconst (v := 0) (p := 34) dX12_size_33 (by decide) rfl ?_
  refine e_goto (p := 38) dX12_size_34 (by decide) rfl ?_
  exact e_iretE dX12_size_38 rfl rfl (by decide) ⟨rfl, rfl⟩
set_option maxRecDepth 10000 in
theorem q_size_u9 {I : Nat → Nat → Int32} {J : Nat → Nat → Int64} {F : Nat → Nat → Option Nat} {nc ns : Nat} {D : oD} (hF : RFok F) (hM : oM I 98 D) (hW : WF D) (hO : I 95 14 = tol D) {s : Nat → Int32} (hs : stM I s) (ht0 : tol D = 0)  : Ev 1 mX12_size 0 [.ref 95, .int 9] [] ((SH, nc, ns), I, J, F) (some (.int 0)) ((SH, nc, ns), hp_u I 95 0 0, J, F) := by
  have hD := hW.c
  have hH := hW.h
  have hT := hW.t
  have bt := hT.2
  obtain ⟨b0, b1, b2, b3, b4, b5, b6⟩ := hD.2
  refine e_aload_n (p := 1) dX12_size_0 rfl rfl ?_
  refine e_iconst (v := 0) (p := 2) dX12_size_1 (by decide) rfl ?_
  refine e_putI (c := 11) (j := 0) (n := 37)  (p := 5) dX12_size_2 rfl rfl (by decide) (by decide) rfl rfl rfl ?_
  refine e_iload_n (p := 6) dX12_size_5 rfl rfl ?_
  refine e_bipush (v := 15) (p := 8) dX12_size_6 (by decide) rfl ?_
  refine e_icmp_ne (t := 16) (p := 11) dX12_size_8 (by decide) rfl rfl (fun hc8 => ?_) (fun hc8 => absurd hc8 (by decide))
  refine e_aload_n (p := 17) dX12_size_16 rfl rfl ?_
  refine f_getI (c := 11) (j := 14) (n := 37) (v := 0) (p := 20) dX12_size_17 rfl rfl (by decide) (by decide) (Or.inr rfl) ((I_u hO (by decide)).trans ht0) rfl ?_
  refine e_if_ne (t := 39) (p := 23) dX12_size_20 (by decide) rfl rfl (fun hc20 => absurd (by decide) hc20) (fun hc20 => ?_)
  refine e_iload_n (p := 24) dX12_size_23 rfl rfl ?_
  refine e_iconst (v := 0) (p := 25) dX12_size_24 (by decide) rfl ?_
  refine e_bipush (v := 14) (p := 27) dX12_size_25 (by decide) rfl ?_
  refine e_callS_int (p := 30) (k' := 0) (a := [.int 9, .int 0, .int 14]) (rr := []) dX12_size_27 rfl rfl rfl rfl rfl (rc_st rfl) (Nat.le_of_ble_eq_true rfl) (Nat.le_of_ble_eq_true rfl) (by decide) (Ev.i (show inS 9 0 14 = 1 by decide) (y_in)) (Or.inl rfl) rfl ?_
  refine e_if_eq (t := 37) (p := 33) dX12_size_30 (by decide) rfl rfl (fun hc30 => absurd hc30 (by decide)) (fun hc30 => ?_)
  refine e_iconst (v := 0) (p := 34) dX12_size_33 (by decide) rfl ?_
  refine e_goto (p := 38) dX12_size_34 (by decide) rfl ?_
  exact e_iretE dX12_size_38 rfl rfl (by decide) ⟨rfl, rfl⟩
set_option maxRecDepth 10000 in
theorem q_size_u10 {I : Nat → Nat → Int32} {J : Nat → Nat → Int64} {F : Nat → Nat → Option Nat} {nc ns : Nat} {D : oD} (hF : RFok F) (hM : oM I 98 D) (hW : WF D) (hO : I 95 14 = tol D) {s : Nat → Int32} (hs : stM I s) (ht0 : tol D = 0)  : Ev 1 mX12_size 0 [.ref 95, .int 10] [] ((SH, nc, ns), I, J, F) (some (.int 0)) ((SH, nc, ns), hp_u I 95 0 0, J, F) := by
  have hD := hW.c
  have hH := hW.h
  have hT := hW.t
  have bt := hT.2
  obtain ⟨b0, b1, b2, b3, b4, b5, b6⟩ := hD.2
  refine e_aload_n (p := 1) dX12_size_0 rfl rfl ?_
  refine e_iconst (v := 0) (p := 2) dX12_size_1 (by decide) rfl ?_
  refine e_putI (c := 11) (j := 0) (n := 37)  (p := 5) dX12_size_2 rfl rfl (by decide) (by decide) rfl rfl rfl ?_
  refine e_iload_n (p := 6) dX12_size_5 rfl rfl ?_
  refine e_bipush (v := 15) (p := 8) dX12_size_6 (by decide) rfl ?_
  refine e_icmp_ne (t := 16) (p := 11) dX12_size_8 (by decide) rfl rfl (fun hc8 => ?_) (fun hc8 => absurd hc8 (by decide))
  refine e_aload_n (p := 17) dX12_size_16 rfl rfl ?_
  refine f_getI (c := 11) (j := 14) (n := 37) (v := 0) (p := 20) dX12_size_17 rfl rfl (by decide) (by decide) (Or.inr rfl) ((I_u hO (by decide)).trans ht0) rfl ?_
  refine e_if_ne (t := 39) (p := 23) dX12_size_20 (by decide) rfl rfl (fun hc20 => absurd (by decide) hc20) (fun hc20 => ?_)
  refine e_iload_n (p := 24) dX12_size_23 rfl rfl ?_
  refine e_iconst (v := 0) (p := 25) dX12_size_24 (by decide) rfl ?_
  refine e_bipush (v := 14) (p := 27) dX12_size_25 (by decide) rfl ?_
  refine e_callS_int (p := 30) (k' := 0) (a := [.int 10, .int 0, .int 14]) (rr := []) dX12_size_27 rfl rfl rfl rfl rfl (rc_st rfl) (Nat.le_of_ble_eq_true rfl) (Nat.le_of_ble_eq_true rfl) (by decide) (Ev.i (show inS 10 0 14 = 1 by decide) (y_in)) (Or.inl rfl) rfl ?_
  refine e_if_eq (t := 37) (p := 33) dX12_size_30 (by decide) rfl rfl (fun hc30 => absurd hc30 (by decide)) (fun hc30 => ?_)
  refine e_iconst (v := 0) (p := 34) dX12_size_33 (by decide) rfl ?_
  refine e_goto (p := 38) dX12_size_34 (by decide) rfl ?_
  exact e_iretE dX12_size_38 rfl rfl (by decide) ⟨rfl, rfl⟩
set_option maxRecDepth 10000 in
theorem q_size_u11 {I : Nat → Nat → Int32} {J : Nat → Nat → Int64} {F : Nat → Nat → Option Nat} {nc ns : Nat} {D : oD} (hF : RFok F) (hM : oM I 98 D) (hW : WF D) (hO : I 95 14 = tol D) {s : Nat → Int32} (hs : stM I s) (ht0 : tol D = 0)  : Ev 1 mX12_size 0 [.ref 95, .int 11] [] ((SH, nc, ns), I, J, F) (some (.int 0)) ((SH, nc, ns), hp_u I 95 0 0, J, F) := by
  have hD := hW.c
  have hH := hW.h
  have hT := hW.t
  have bt := hT.2
  obtain ⟨b0, b1, b2, b3, b4, b5, b6⟩ := hD.2
  refine e_aload_n (p := 1) dX12_size_0 rfl rfl ?_
  refine e_iconst (v := 0) (p := 2) dX12_size_1 (by decide) rfl ?_
  refine e_putI (c := 11) (j := 0) (n := 37)  (p := 5) dX12_size_2 rfl rfl (by decide) (by decide) rfl rfl rfl ?_
  refine e_iload_n (p := 6) dX12_size_5 rfl rfl ?_
  refine e_bipush (v := 15) (p := 8) dX12_size_6 (by decide) rfl ?_
  refine e_icmp_ne (t := 16) (p := 11) dX12_size_8 (by decide) rfl rfl (fun hc8 => ?_) (fun hc8 => absurd hc8 (by decide))
  refine e_aload_n (p := 17) dX12_size_16 rfl rfl ?_
  refine f_getI (c := 11) (j := 14) (n := 37) (v := 0) (p := 20) dX12_size_17 rfl rfl (by decide) (by decide) (Or.inr rfl) ((I_u hO (by decide)).trans ht0) rfl ?_
  refine e_if_ne (t := 39) (p := 23) dX12_size_20 (by decide) rfl rfl (fun hc20 => absurd (by decide) hc20) (fun hc20 => ?_)
  refine e_iload_n (p := 24) dX12_size_23 rfl rfl ?_
  refine e_iconst (v := 0) (p := 25) dX12_size_24 (by decide) rfl ?_
  refine e_bipush (v := 14) (p := 27) dX12_size_25 (by decide) rfl ?_
  refine e_callS_int (p := 30) (k' := 0) (a := [.int 11, .int 0, .int 14]) (rr := []) dX12_size_27 rfl rfl rfl rfl rfl (rc_st rfl) (Nat.le_of_ble_eq_true rfl) (Nat.le_of_ble_eq_true rfl) (by decide) (Ev.i (show inS 11 0 14 = 1 by decide) (y_in)) (Or.inl rfl) rfl ?_
  refine e_if_eq (t := 37) (p := 33) dX12_size_30 (by decide) rfl rfl (fun hc30 => absurd hc30 (by decide)) (fun hc30 => ?_)
  refine e_iconst (v := 0) (p := 34) dX12_size_33 (by decide) rfl ?_
  refine e_goto (p := 38) dX12_size_34 (by decide) rfl ?_
  exact e_iretE dX12_size_38 rfl rfl (by decide) ⟨rfl, rfl⟩
set_option maxRecDepth 10000 in
theorem q_size_u12 {I : Nat → Nat → Int32} {J : Nat → Nat → Int64} {F : Nat → Nat → Option Nat} {nc ns : Nat} {D : oD} (hF : RFok F) (hM : oM I 98 D) (hW : WF D) (hO : I 95 14 = tol D) {s : Nat → Int32} (hs : stM I s) (ht0 : tol D = 0)  : Ev 1 mX12_size 0 [.ref 95, .int 12] [] ((SH, nc, ns), I, J, F) (some (.int 0)) ((SH, nc, ns), hp_u I 95 0 0, J, F) := by
  have hD := hW.c
  have hH := hW.h
  have hT := hW.t
  have bt := hT.2
  obtain ⟨b0, b1, b2, b3, b4, b5, b6⟩ := hD.2
  refine e_aload_n (p := 1) dX12_size_0 rfl rfl ?_
  refine e_iconst (v := 0) (p := 2) dX12_size_1 (by decide) rfl ?_
  refine e_putI (c := 11) (j := 0) (n := 37)  (p := 5) dX12_size_2 rfl rfl (by decide) (by decide) rfl rfl rfl ?_
  refine e_iload_n (p := 6) dX12_size_5 rfl rfl ?_
  refine e_bipush (v := 15) (p := 8) dX12_size_6 (by decide) rfl ?_
  refine e_icmp_ne (t := 16) (p := 11) dX12_size_8 (by decide) rfl rfl (fun hc8 => ?_) (fun hc8 => absurd hc8 (by decide))
  refine e_aload_n (p := 17) dX12_size_16 rfl rfl ?_
  refine f_getI (c := 11) (j := 14) (n := 37) (v := 0) (p := 20) dX12_size_17 rfl rfl (by decide) (by decide) (Or.inr rfl) ((I_u hO (by decide)).trans ht0) rfl ?_
  refine e_if_ne (t := 39) (p := 23) dX12_size_20 (by decide) rfl rfl (fun hc20 => absurd (by decide) hc20) (fun hc20 => ?_)
  refine e_iload_n (p := 24) dX12_size_23 rfl rfl ?_
  refine e_iconst (v := 0) (p := 25) dX12_size_24 (by decide) rfl ?_
  refine e_bipush (v := 14) (p := 27) dX12_size_25 (by decide) rfl ?_
  refine e_callS_int (p := 30) (k' := 0) (a := [.int 12, .int 0, .int 14]) (rr := []) dX12_size_27 rfl rfl rfl rfl rfl (rc_st rfl) (Nat.le_of_ble_eq_true rfl) (Nat.le_of_ble_eq_true rfl) (by decide) (Ev.i (show inS 12 0 14 = 1 by decide) (y_in)) (Or.inl rfl) rfl ?_
  refine e_if_eq (t := 37) (p := 33) dX12_size_30 (by decide) rfl rfl (fun hc30 => absurd hc30 (by decide)) (fun hc30 => ?_)
  refine e_iconst (v := 0) (p := 34) dX12_size_33 (by decide) rfl ?_
  refine e_goto (p := 38) dX12_size_34 (by decide) rfl ?_
  exact e_iretE dX12_size_38 rfl rfl (by decide) ⟨rfl, rfl⟩
set_option maxRecDepth 10000 in
theorem q_size_u13 {I : Nat → Nat → Int32} {J : Nat → Nat → Int64} {F : Nat → Nat → Option Nat} {nc ns : Nat} {D : oD} (hF : RFok F) (hM : oM I 98 D) (hW : WF D) (hO : I 95 14 = tol D) {s : Nat → Int32} (hs : stM I s) (ht0 : tol D = 0)  : Ev 1 mX12_size 0 [.ref 95, .int 13] [] ((SH, nc, ns), I, J, F) (some (.int 0)) ((SH, nc, ns), hp_u I 95 0 0, J, F) := by
  have hD := hW.c
  have hH := hW.h
  have hT := hW.t
  have bt := hT.2
  obtain ⟨b0, b1, b2, b3, b4, b5, b6⟩ := hD.2
  refine e_aload_n (p := 1) dX12_size_0 rfl rfl ?_
  refine e_iconst (v := 0) (p := 2) dX12_size_1 (by decide) rfl ?_
  refine e_putI (c := 11) (j := 0) (n := 37)  (p := 5) dX12_size_2 rfl rfl (by decide) (by decide) rfl rfl rfl ?_
  refine e_iload_n (p := 6) dX12_size_5 rfl rfl ?_
  refine e_bipush (v := 15) (p := 8) dX12_size_6 (by decide) rfl ?_
  refine e_icmp_ne (t := 16) (p := 11) dX12_size_8 (by decide) rfl rfl (fun hc8 => ?_) (fun hc8 => absurd hc8 (by decide))
  refine e_aload_n (p := 17) dX12_size_16 rfl rfl ?_
  refine f_getI (c := 11) (j := 14) (n := 37) (v := 0) (p := 20) dX12_size_17 rfl rfl (by decide) (by decide) (Or.inr rfl) ((I_u hO (by decide)).trans ht0) rfl ?_
  refine e_if_ne (t := 39) (p := 23) dX12_size_20 (by decide) rfl rfl (fun hc20 => absurd (by decide) hc20) (fun hc20 => ?_)
  refine e_iload_n (p := 24) dX12_size_23 rfl rfl ?_
  refine e_iconst (v := 0) (p := 25) dX12_size_24 (by decide) rfl ?_
  refine e_bipush (v := 14) (p := 27) dX12_size_25 (by decide) rfl ?_
  refine e_callS_int (p := 30) (k' := 0) (a := [.int 13, .int 0, .int 14]) (rr := []) dX12_size_27 rfl rfl rfl rfl rfl (rc_st rfl) (Nat.le_of_ble_eq_true rfl) (Nat.le_of_ble_eq_true rfl) (by decide) (Ev.i (show inS 13 0 14 = 1 by decide) (y_in)) (Or.inl rfl) rfl ?_
  refine e_if_eq (t := 37) (p := 33) dX12_size_30 (by decide) rfl rfl (fun hc30 => absurd hc30 (by decide)) (fun hc30 => ?_)
  refine e_iconst (v := 0) (p := 34) dX12_size_33 (by decide) rfl ?_
  refine e_goto (p := 38) dX12_size_34 (by decide) rfl ?_
  exact e_iretE dX12_size_38 rfl rfl (by decide) ⟨rfl, rfl⟩
set_option maxRecDepth 10000 in
theorem q_size_u14 {I : Nat → Nat → Int32} {J : Nat → Nat → Int64} {F : Nat → Nat → Option Nat} {nc ns : Nat} {D : oD} (hF : RFok F) (hM : oM I 98 D) (hW : WF D) (hO : I 95 14 = tol D) {s : Nat → Int32} (hs : stM I s) (ht0 : tol D = 0)  : Ev 1 mX12_size 0 [.ref 95, .int 14] [] ((SH, nc, ns), I, J, F) (some (.int 0)) ((SH, nc, ns), hp_u I 95 0 0, J, F) := by
  have hD := hW.c
  have hH := hW.h
  have hT := hW.t
  have bt := hT.2
  obtain ⟨b0, b1, b2, b3, b4, b5, b6⟩ := hD.2
  refine e_aload_n (p := 1) dX12_size_0 rfl rfl ?_
  refine e_iconst (v := 0) (p := 2) dX12_size_1 (by decide) rfl ?_
  refine e_putI (c := 11) (j := 0) (n := 37)  (p := 5) dX12_size_2 rfl rfl (by decide) (by decide) rfl rfl rfl ?_
  refine e_iload_n (p := 6) dX12_size_5 rfl rfl ?_
  refine e_bipush (v := 15) (p := 8) dX12_size_6 (by decide) rfl ?_
  refine e_icmp_ne (t := 16) (p := 11) dX12_size_8 (by decide) rfl rfl (fun hc8 => ?_) (fun hc8 => absurd hc8 (by decide))
  refine e_aload_n (p := 17) dX12_size_16 rfl rfl ?_
  refine f_getI (c := 11) (j := 14) (n := 37) (v := 0) (p := 20) dX12_size_17 rfl rfl (by decide) (by decide) (Or.inr rfl) ((I_u hO (by decide)).trans ht0) rfl ?_
  refine e_if_ne (t := 39) (p := 23) dX12_size_20 (by decide) rfl rfl (fun hc20 => absurd (by decide) hc20) (fun hc20 => ?_)
  refine e_iload_n (p := 24) dX12_size_23 rfl rfl ?_
  refine e_iconst (v := 0) (p := 25) dX12_size_24 (by decide) rfl ?_
  refine e_bipush (v := 14) (p := 27) dX12_size_25 (by decide) rfl ?_
  refine e_callS_int (p := 30) (k' := 0) (a := [.int 14, .int 0, .int 14]) (rr := []) dX12_size_27 rfl rfl rfl rfl rfl (rc_st rfl) (Nat.le_of_ble_eq_true rfl) (Nat.le_of_ble_eq_true rfl) (by decide) (Ev.i (show inS 14 0 14 = 1 by decide) (y_in)) (Or.inl rfl) rfl ?_
  refine e_if_eq (t := 37) (p := 33) dX12_size_30 (by decide) rfl rfl (fun hc30 => absurd hc30 (by decide)) (fun hc30 => ?_)
  refine e_iconst (v := 0) (p := 34) dX12_size_33 (by decide) rfl ?_
  refine e_goto (p := 38) dX12_size_34 (by decide) rfl ?_
  exact e_iretE dX12_size_38 rfl rfl (by decide) ⟨rfl, rfl⟩
set_option maxRecDepth 10000 in
theorem q_size_t2 {I : Nat → Nat → Int32} {J : Nat → Nat → Int64} {F : Nat → Nat → Option Nat} {nc ns : Nat} {D : oD} (hF : RFok F) (hM : oM I 98 D) (hW : WF D) (hO : I 95 14 = tol D) {s : Nat → Int32} (hs : stM I s) (ht1 : tol D = 1)  : Ev 1 mX12_size 0 [.ref 95, .int 2] [] ((SH, nc, ns), I, J, F) (some (.int (nI (dN D 0)))) ((SH, nc, ns), hp_u I 95 0 0, J, F) := by
  have hD := hW.c
  have hH := hW.h
  have hT := hW.t
  have bt := hT.2
  obtain ⟨b0, b1, b2, b3, b4, b5, b6⟩ := hD.2
  refine e_aload_n (p := 1) dX12_size_0 rfl rfl ?_
  refine e_iconst (v := 0) (p := 2) dX12_size_1 (by decide) rfl ?_
  refine e_putI (c := 11) (j := 0) (n := 37)  (p := 5) dX12_size_2 rfl rfl (by decide) (by decide) rfl rfl rfl ?_
  refine e_iload_n (p := 6) dX12_size_5 rfl rfl ?_
  refine e_bipush (v := 15) (p := 8) dX12_size_6 (by decide) rfl ?_
  refine e_icmp_ne (t := 16) (p := 11) dX12_size_8 (by decide) rfl rfl (fun hc8 => ?_) (fun hc8 => absurd hc8 (by decide))
  refine e_aload_n (p := 17) dX12_size_16 rfl rfl ?_
  refine f_getI (c := 11) (j := 14) (n := 37) (v := 1) (p := 20) dX12_size_17 rfl rfl (by decide) (by decide) (Or.inr rfl) ((I_u hO (by decide)).trans ht1) rfl ?_
  refine e_if_ne (t := 39) (p := 23) dX12_size_20 (by decide) rfl rfl (fun hc20 => ?_) (fun hc20 => absurd hc20 (by decide))
  refine e_iload_n (p := 40) dX12_size_39 rfl rfl ?_
  refine e_iconst (v := 0) (p := 41) dX12_size_40 (by decide) rfl ?_
  refine e_bipush (v := 8) (p := 43) dX12_size_41 (by decide) rfl ?_
  refine e_callS_int (p := 46) (k' := 0) (a := [.int 2, .int 0, .int 8]) (rr := []) dX12_size_43 rfl rfl rfl rfl rfl (rc_st rfl) (Nat.le_of_ble_eq_true rfl) (Nat.le_of_ble_eq_true rfl) (by decide) (Ev.i (show inS 2 0 8 = 1 by decide) (y_in)) (Or.inl rfl) rfl ?_
  refine e_if_eq (t := 56) (p := 49) dX12_size_46 (by decide) rfl rfl (fun hc46 => absurd hc46 (by decide)) (fun hc46 => ?_)
  refine e_aload_n (p := 50) dX12_size_49 rfl rfl ?_
  refine e_getR (c := 11) (j := 15) (n := 37) (b := 98) (p := 53) dX12_size_50 rfl rfl (by decide) (by decide) rfl (r_95_15 hF) rfl ?_
  refine e_iload_n (p := 54) dX12_size_53 rfl rfl ?_
  refine f_iald (n := 276) (i := 2) (v := nI (dN D 0)) (p := 55) dX12_size_54 rfl (by decide) (by decide) (by decide) (mNn (i := 0) (oM_u hM (by decide)) hD (by decide)) rfl ?_
  exact e_iretE dX12_size_55 rfl rfl (by decide) ⟨rfl, rfl⟩
set_option maxRecDepth 10000 in
theorem q_size_t3 {I : Nat → Nat → Int32} {J : Nat → Nat → Int64} {F : Nat → Nat → Option Nat} {nc ns : Nat} {D : oD} (hF : RFok F) (hM : oM I 98 D) (hW : WF D) (hO : I 95 14 = tol D) {s : Nat → Int32} (hs : stM I s) (ht1 : tol D = 1)  : Ev 1 mX12_size 0 [.ref 95, .int 3] [] ((SH, nc, ns), I, J, F) (some (.int (nI (dN D 1)))) ((SH, nc, ns), hp_u I 95 0 0, J, F) := by
  have hD := hW.c
  have hH := hW.h
  have hT := hW.t
  have bt := hT.2
  obtain ⟨b0, b1, b2, b3, b4, b5, b6⟩ := hD.2
  refine e_aload_n (p := 1) dX12_size_0 rfl rfl ?_
  refine e_iconst (v := 0) (p := 2) dX12_size_1 (by decide) rfl ?_
  refine e_putI (c := 11) (j := 0) (n := 37)  (p := 5) dX12_size_2 rfl rfl (by decide) (by decide) rfl rfl rfl ?_
  refine e_iload_n (p := 6) dX12_size_5 rfl rfl ?_
  refine e_bipush (v := 15) (p := 8) dX12_size_6 (by decide) rfl ?_
  refine e_icmp_ne (t := 16) (p := 11) dX12_size_8 (by decide) rfl rfl (fun hc8 => ?_) (fun hc8 => absurd hc8 (by decide))
  refine e_aload_n (p := 17) dX12_size_16 rfl rfl ?_
  refine f_getI (c := 11) (j := 14) (n := 37) (v := 1) (p := 20) dX12_size_17 rfl rfl (by decide) (by decide) (Or.inr rfl) ((I_u hO (by decide)).trans ht1) rfl ?_
  refine e_if_ne (t := 39) (p := 23) dX12_size_20 (by decide) rfl rfl (fun hc20 => ?_) (fun hc20 => absurd hc20 (by decide))
  refine e_iload_n (p := 40) dX12_size_39 rfl rfl ?_
  refine e_iconst (v := 0) (p := 41) dX12_size_40 (by decide) rfl ?_
  refine e_bipush (v := 8) (p := 43) dX12_size_41 (by decide) rfl ?_
  refine e_callS_int (p := 46) (k' := 0) (a := [.int 3, .int 0, .int 8]) (rr := []) dX12_size_43 rfl rfl rfl rfl rfl (rc_st rfl) (Nat.le_of_ble_eq_true rfl) (Nat.le_of_ble_eq_true rfl) (by decide) (Ev.i (show inS 3 0 8 = 1 by decide) (y_in)) (Or.inl rfl) rfl ?_
  refine e_if_eq (t := 56) (p := 49) dX12_size_46 (by decide) rfl rfl (fun hc46 => absurd hc46 (by decide)) (fun hc46 => ?_)
  refine e_aload_n (p := 50) dX12_size_49 rfl rfl ?_
  refine e_getR (c := 11) (j := 15) (n := 37) (b := 98) (p := 53) dX12_size_50 rfl rfl (by decide) (by decide) rfl (r_95_15 hF) rfl ?_
  refine e_iload_n (p := 54) dX12_size_53 rfl rfl ?_
  refine f_iald (n := 276) (i := 3) (v := nI (dN D 1)) (p := 55) dX12_size_54 rfl (by decide) (by decide) (by decide) (mNn (i := 1) (oM_u hM (by decide)) hD (by decide)) rfl ?_
  exact e_iretE dX12_size_55 rfl rfl (by decide) ⟨rfl, rfl⟩
set_option maxRecDepth 10000 in
theorem q_size_t4 {I : Nat → Nat → Int32} {J : Nat → Nat → Int64} {F : Nat → Nat → Option Nat} {nc ns : Nat} {D : oD} (hF : RFok F) (hM : oM I 98 D) (hW : WF D) (hO : I 95 14 = tol D) {s : Nat → Int32} (hs : stM I s) (ht1 : tol D = 1)  : Ev 1 mX12_size 0 [.ref 95, .int 4] [] ((SH, nc, ns), I, J, F) (some (.int (nI (dN D 2)))) ((SH, nc, ns), hp_u I 95 0 0, J, F) := by
  have hD := hW.c
  have hH := hW.h
  have hT := hW.t
  have bt := hT.2
  obtain ⟨b0, b1, b2, b3, b4, b5, b6⟩ := hD.2
  refine e_aload_n (p := 1) dX12_size_0 rfl rfl ?_
  refine e_iconst (v := 0) (p := 2) dX12_size_1 (by decide) rfl ?_
  refine e_putI (c := 11) (j := 0) (n := 37)  (p := 5) dX12_size_2 rfl rfl (by decide) (by decide) rfl rfl rfl ?_
  refine e_iload_n (p := 6) dX12_size_5 rfl rfl ?_
  refine e_bipush (v := 15) (p := 8) dX12_size_6 (by decide) rfl ?_
  refine e_icmp_ne (t := 16) (p := 11) dX12_size_8 (by decide) rfl rfl (fun hc8 => ?_) (fun hc8 => absurd hc8 (by decide))
  refine e_aload_n (p := 17) dX12_size_16 rfl rfl ?_
  refine f_getI (c := 11) (j := 14) (n := 37) (v := 1) (p := 20) dX12_size_17 rfl rfl (by decide) (by decide) (Or.inr rfl) ((I_u hO (by decide)).trans ht1) rfl ?_
  refine e_if_ne (t := 39) (p := 23) dX12_size_20 (by decide) rfl rfl (fun hc20 => ?_) (fun hc20 => absurd hc20 (by decide))
  refine e_iload_n (p := 40) dX12_size_39 rfl rfl ?_
  refine e_iconst (v := 0) (p := 41) dX12_size_40 (by decide) rfl ?_
  refine e_bipush (v := 8) (p := 43) dX12_size_41 (by decide) rfl ?_
  refine e_callS_int (p := 46) (k' := 0) (a := [.int 4, .int 0, .int 8]) (rr := []) dX12_size_43 rfl rfl rfl rfl rfl (rc_st rfl) (Nat.le_of_ble_eq_true rfl) (Nat.le_of_ble_eq_true rfl) (by decide) (Ev.i (show inS 4 0 8 = 1 by decide) (y_in)) (Or.inl rfl) rfl ?_
  refine e_if_eq (t := 56) (p := 49) dX12_size_46 (by decide) rfl rfl (fun hc46 => absurd hc46 (by decide)) (fun hc46 => ?_)
  refine e_aload_n (p := 50) dX12_size_49 rfl rfl ?_
  refine e_getR (c := 11) (j := 15) (n := 37) (b := 98) (p := 53) dX12_size_50 rfl rfl (by decide) (by decide) rfl (r_95_15 hF) rfl ?_
  refine e_iload_n (p := 54) dX12_size_53 rfl rfl ?_
  refine f_iald (n := 276) (i := 4) (v := nI (dN D 2)) (p := 55) dX12_size_54 rfl (by decide) (by decide) (by decide) (mNn (i := 2) (oM_u hM (by decide)) hD (by decide)) rfl ?_
  exact e_iretE dX12_size_55 rfl rfl (by decide) ⟨rfl, rfl⟩
set_option maxRecDepth 10000 in
theorem q_size_t5 {I : Nat → Nat → Int32} {J : Nat → Nat → Int64} {F : Nat → Nat → Option Nat} {nc ns : Nat} {D : oD} (hF : RFok F) (hM : oM I 98 D) (hW : WF D) (hO : I 95 14 = tol D) {s : Nat → Int32} (hs : stM I s) (ht1 : tol D = 1)  : Ev 1 mX12_size 0 [.ref 95, .int 5] [] ((SH, nc, ns), I, J, F) (some (.int (nI (dN D 3)))) ((SH, nc, ns), hp_u I 95 0 0, J, F) := by
  have hD := hW.c
  have hH := hW.h
  have hT := hW.t
  have bt := hT.2
  obtain ⟨b0, b1, b2, b3, b4, b5, b6⟩ := hD.2
  refine e_aload_n (p := 1) dX12_size_0 rfl rfl ?_
  refine e_iconst (v := 0) (p := 2) dX12_size_1 (by decide) rfl ?_
  refine e_putI (c := 11) (j := 0) (n := 37)  (p := 5) dX12_size_2 rfl rfl (by decide) (by decide) rfl rfl rfl ?_
  refine e_iload_n (p := 6) dX12_size_5 rfl rfl ?_
  refine e_bipush (v := 15) (p := 8) dX12_size_6 (by decide) rfl ?_
  refine e_icmp_ne (t := 16) (p := 11) dX12_size_8 (by decide) rfl rfl (fun hc8 => ?_) (fun hc8 => absurd hc8 (by decide))
  refine e_aload_n (p := 17) dX12_size_16 rfl rfl ?_
  refine f_getI (c := 11) (j := 14) (n := 37) (v := 1) (p := 20) dX12_size_17 rfl rfl (by decide) (by decide) (Or.inr rfl) ((I_u hO (by decide)).trans ht1) rfl ?_
  refine e_if_ne (t := 39) (p := 23) dX12_size_20 (by decide) rfl rfl (fun hc20 => ?_) (fun hc20 => absurd hc20 (by decide))
  refine e_iload_n (p := 40) dX12_size_39 rfl rfl ?_
  refine e_iconst (v := 0) (p := 41) dX12_size_40 (by decide) rfl ?_
  refine e_bipush (v := 8) (p := 43) dX12_size_41 (by decide) rfl ?_
  refine e_callS_int (p := 46) (k' := 0) (a := [.int 5, .int 0, .int 8]) (rr := []) dX12_size_43 rfl rfl rfl rfl rfl (rc_st rfl) (Nat.le_of_ble_eq_true rfl) (Nat.le_of_ble_eq_true rfl) (by decide) (Ev.i (show inS 5 0 8 = 1 by decide) (y_in)) (Or.inl rfl) rfl ?_
  refine e_if_eq (t := 56) (p := 49) dX12_size_46 (by decide) rfl rfl (fun hc46 => absurd hc46 (by decide)) (fun hc46 => ?_)
  refine e_aload_n (p := 50) dX12_size_49 rfl rfl ?_
  refine e_getR (c := 11) (j := 15) (n := 37) (b := 98) (p := 53) dX12_size_50 rfl rfl (by decide) (by decide) rfl (r_95_15 hF) rfl ?_
  refine e_iload_n (p := 54) dX12_size_53 rfl rfl ?_
  refine f_iald (n := 276) (i := 5) (v := nI (dN D 3)) (p := 55) dX12_size_54 rfl (by decide) (by decide) (by decide) (mNn (i := 3) (oM_u hM (by decide)) hD (by decide)) rfl ?_
  exact e_iretE dX12_size_55 rfl rfl (by decide) ⟨rfl, rfl⟩
set_option maxRecDepth 10000 in
theorem q_size_t6 {I : Nat → Nat → Int32} {J : Nat → Nat → Int64} {F : Nat → Nat → Option Nat} {nc ns : Nat} {D : oD} (hF : RFok F) (hM : oM I 98 D) (hW : WF D) (hO : I 95 14 = tol D) {s : Nat → Int32} (hs : stM I s) (ht1 : tol D = 1)  : Ev 1 mX12_size 0 [.ref 95, .int 6] [] ((SH, nc, ns), I, J, F) (some (.int (nI (dN D 4)))) ((SH, nc, ns), hp_u I 95 0 0, J, F) := by
  have hD := hW.c
  have hH := hW.h
  have hT := hW.t
  have bt := hT.2
  obtain ⟨b0, b1, b2, b3, b4, b5, b6⟩ := hD.2
  refine e_aload_n (p := 1) dX12_size_0 rfl rfl ?_
  refine e_iconst (v := 0) (p := 2) dX12_size_1 (by decide) rfl ?_
  refine e_putI (c := 11) (j := 0) (n := 37)  (p := 5) dX12_size_2 rfl rfl (by decide) (by decide) rfl rfl rfl ?_
  refine e_iload_n (p := 6) dX12_size_5 rfl rfl ?_
  refine e_bipush (v := 15) (p := 8) dX12_size_6 (by decide) rfl ?_
  refine e_icmp_ne (t := 16) (p := 11) dX12_size_8 (by decide) rfl rfl (fun hc8 => ?_) (fun hc8 => absurd hc8 (by decide))
  refine e_aload_n (p := 17) dX12_size_16 rfl rfl ?_
  refine f_getI (c := 11) (j := 14) (n := 37) (v := 1) (p := 20) dX12_size_17 rfl rfl (by decide) (by decide) (Or.inr rfl) ((I_u hO (by decide)).trans ht1) rfl ?_
  refine e_if_ne (t := 39) (p := 23) dX12_size_20 (by decide) rfl rfl (fun hc20 => ?_) (fun hc20 => absurd hc20 (by decide))
  refine e_iload_n (p := 40) dX12_size_39 rfl rfl ?_
  refine e_iconst (v := 0) (p := 41) dX12_size_40 (by decide) rfl ?_
  refine e_bipush (v := 8) (p := 43) dX12_size_41 (by decide) rfl ?_
  refine e_callS_int (p := 46) (k' := 0) (a := [.int 6, .int 0, .int 8]) (rr := []) dX12_size_43 rfl rfl rfl rfl rfl (rc_st rfl) (Nat.le_of_ble_eq_true rfl) (Nat.le_of_ble_eq_true rfl) (by decide) (Ev.i (show inS 6 0 8 = 1 by decide) (y_in)) (Or.inl rfl) rfl ?_
  refine e_if_eq (t := 56) (p := 49) dX12_size_46 (by decide) rfl rfl (fun hc46 => absurd hc46 (by decide)) (fun hc46 => ?_)
  refine e_aload_n (p := 50) dX12_size_49 rfl rfl ?_
  refine e_getR (c := 11) (j := 15) (n := 37) (b := 98) (p := 53) dX12_size_50 rfl rfl (by decide) (by decide) rfl (r_95_15 hF) rfl ?_
  refine e_iload_n (p := 54) dX12_size_53 rfl rfl ?_
  refine f_iald (n := 276) (i := 6) (v := nI (dN D 4)) (p := 55) dX12_size_54 rfl (by decide) (by decide) (by decide) (mNn (i := 4) (oM_u hM (by decide)) hD (by decide)) rfl ?_
  exact e_iretE dX12_size_55 rfl rfl (by decide) ⟨rfl, rfl⟩
set_option maxRecDepth 10000 in
theorem q_size_t7 {I : Nat → Nat → Int32} {J : Nat → Nat → Int64} {F : Nat → Nat → Option Nat} {nc ns : Nat} {D : oD} (hF : RFok F) (hM : oM I 98 D) (hW : WF D) (hO : I 95 14 = tol D) {s : Nat → Int32} (hs : stM I s) (ht1 : tol D = 1)  : Ev 1 mX12_size 0 [.ref 95, .int 7] [] ((SH, nc, ns), I, J, F) (some (.int (nI (dN D 5)))) ((SH, nc, ns), hp_u I 95 0 0, J, F) := by
  have hD := hW.c
  have hH := hW.h
  have hT := hW.t
  have bt := hT.2
  obtain ⟨b0, b1, b2, b3, b4, b5, b6⟩ := hD.2
  refine e_aload_n (p := 1) dX12_size_0 rfl rfl ?_
  refine e_iconst (v := 0) (p := 2) dX12_size_1 (by decide) rfl ?_
  refine e_putI (c := 11) (j := 0) (n := 37)  (p := 5) dX12_size_2 rfl rfl (by decide) (by decide) rfl rfl rfl ?_
  refine e_iload_n (p := 6) dX12_size_5 rfl rfl ?_
  refine e_bipush (v := 15) (p := 8) dX12_size_6 (by decide) rfl ?_
  refine e_icmp_ne (t := 16) (p := 11) dX12_size_8 (by decide) rfl rfl (fun hc8 => ?_) (fun hc8 => absurd hc8 (by decide))
  refine e_aload_n (p := 17) dX12_size_16 rfl rfl ?_
  refine f_getI (c := 11) (j := 14) (n := 37) (v := 1) (p := 20) dX12_size_17 rfl rfl (by decide) (by decide) (Or.inr rfl) ((I_u hO (by decide)).trans ht1) rfl ?_
  refine e_if_ne (t := 39) (p := 23) dX12_size_20 (by decide) rfl rfl (fun hc20 => ?_) (fun hc20 => absurd hc20 (by decide))
  refine e_iload_n (p := 40) dX12_size_39 rfl rfl ?_
  refine e_iconst (v := 0) (p := 41) dX12_size_40 (by decide) rfl ?_
  refine e_bipush (v := 8) (p := 43) dX12_size_41 (by decide) rfl ?_
  refine e_callS_int (p := 46) (k' := 0) (a := [.int 7, .int 0, .int 8]) (rr := []) dX12_size_43 rfl rfl rfl rfl rfl (rc_st rfl) (Nat.le_of_ble_eq_true rfl) (Nat.le_of_ble_eq_true rfl) (by decide) (Ev.i (show inS 7 0 8 = 1 by decide) (y_in)) (Or.inl rfl) rfl ?_
  refine e_if_eq (t := 56) (p := 49) dX12_size_46 (by decide) rfl rfl (fun hc46 => absurd hc46 (by decide)) (fun hc46 => ?_)
  refine e_aload_n (p := 50) dX12_size_49 rfl rfl ?_
  refine e_getR (c := 11) (j := 15) (n := 37) (b := 98) (p := 53) dX12_size_50 rfl rfl (by decide) (by decide) rfl (r_95_15 hF) rfl ?_
  refine e_iload_n (p := 54) dX12_size_53 rfl rfl ?_
  refine f_iald (n := 276) (i := 7) (v := nI (dN D 5)) (p := 55) dX12_size_54 rfl (by decide) (by decide) (by decide) (mNn (i := 5) (oM_u hM (by decide)) hD (by decide)) rfl ?_
  exact e_iretE dX12_size_55 rfl rfl (by decide) ⟨rfl, rfl⟩
set_option maxRecDepth 10000 in
theorem q_size_t8 {I : Nat → Nat → Int32} {J : Nat → Nat → Int64} {F : Nat → Nat → Option Nat} {nc ns : Nat} {D : oD} (hF : RFok F) (hM : oM I 98 D) (hW : WF D) (hO : I 95 14 = tol D) {s : Nat → Int32} (hs : stM I s) (ht1 : tol D = 1)  : Ev 1 mX12_size 0 [.ref 95, .int 8] [] ((SH, nc, ns), I, J, F) (some (.int (nI (dN D 6)))) ((SH, nc, ns), hp_u I 95 0 0, J, F) := by
  have hD := hW.c
  have hH := hW.h
  have hT := hW.t
  have bt := hT.2
  obtain ⟨b0, b1, b2, b3, b4, b5, b6⟩ := hD.2
  refine e_aload_n (p := 1) dX12_size_0 rfl rfl ?_
  refine e_iconst (v := 0) (p := 2) dX12_size_1 (by decide) rfl ?_
  refine e_putI (c := 11) (j := 0) (n := 37)  (p := 5) dX12_size_2 rfl rfl (by decide) (by decide) rfl rfl rfl ?_
  refine e_iload_n (p := 6) dX12_size_5 rfl rfl ?_
  refine e_bipush (v := 15) (p := 8) dX12_size_6 (by decide) rfl ?_
  refine e_icmp_ne (t := 16) (p := 11) dX12_size_8 (by decide) rfl rfl (fun hc8 => ?_) (fun hc8 => absurd hc8 (by decide))
  refine e_aload_n (p := 17) dX12_size_16 rfl rfl ?_
  refine f_getI (c := 11) (j := 14) (n := 37) (v := 1) (p := 20) dX12_size_17 rfl rfl (by decide) (by decide) (Or.inr rfl) ((I_u hO (by decide)).trans ht1) rfl ?_
  refine e_if_ne (t := 39) (p := 23) dX12_size_20 (by decide) rfl rfl (fun hc20 => ?_) (fun hc20 => absurd hc20 (by decide))
  refine e_iload_n (p := 40) dX12_size_39 rfl rfl ?_
  refine e_iconst (v := 0) (p := 41) dX12_size_40 (by decide) rfl ?_
  refine e_bipush (v := 8) (p := 43) dX12_size_41 (by decide) rfl ?_
  refine e_callS_int (p := 46) (k' := 0) (a := [.int 8, .int 0, .int 8]) (rr := []) dX12_size_43 rfl rfl rfl rfl rfl (rc_st rfl) (Nat.le_of_ble_eq_true rfl) (Nat.le_of_ble_eq_true rfl) (by decide) (Ev.i (show inS 8 0 8 = 1 by decide) (y_in)) (Or.inl rfl) rfl ?_
  refine e_if_eq (t := 56) (p := 49) dX12_size_46 (by decide) rfl rfl (fun hc46 => absurd hc46 (by decide)) (fun hc46 => ?_)
  refine e_aload_n (p := 50) dX12_size_49 rfl rfl ?_
  refine e_getR (c := 11) (j := 15) (n := 37) (b := 98) (p := 53) dX12_size_50 rfl rfl (by decide) (by decide) rfl (r_95_15 hF) rfl ?_
  refine e_iload_n (p := 54) dX12_size_53 rfl rfl ?_
  refine f_iald (n := 276) (i := 8) (v := nI (dN D 6)) (p := 55) dX12_size_54 rfl (by decide) (by decide) (by decide) (mNn (i := 6) (oM_u hM (by decide)) hD (by decide)) rfl ?_
  exact e_iretE dX12_size_55 rfl rfl (by decide) ⟨rfl, rfl⟩
set_option maxRecDepth 10000 in
theorem q_size_t0 {I : Nat → Nat → Int32} {J : Nat → Nat → Int64} {F : Nat → Nat → Option Nat} {nc ns : Nat} {D : oD} (hF : RFok F) (hM : oM I 98 D) (hW : WF D) (hO : I 95 14 = tol D) {s : Nat → Int32} (hs : stM I s) (ht1 : tol D = 1)  : Ev 1 mX12_size 0 [.ref 95, .int 0] [] ((SH, nc, ns), I, J, F) (some (.int (D 0 0))) ((SH, nc, ns), hp_u I 95 0 0, J, F) := by
  have hD := hW.c
  have hH := hW.h
  have hT := hW.t
  have bt := hT.2
  obtain ⟨b0, b1, b2, b3, b4, b5, b6⟩ := hD.2
  refine e_aload_n (p := 1) dX12_size_0 rfl rfl ?_
  refine e_iconst (v := 0) (p := 2) dX12_size_1 (by decide) rfl ?_
  refine e_putI (c := 11) (j := 0) (n := 37)  (p := 5) dX12_size_2 rfl rfl (by decide) (by decide) rfl rfl rfl ?_
  refine e_iload_n (p := 6) dX12_size_5 rfl rfl ?_
  refine e_bipush (v := 15) (p := 8) dX12_size_6 (by decide) rfl ?_
  refine e_icmp_ne (t := 16) (p := 11) dX12_size_8 (by decide) rfl rfl (fun hc8 => ?_) (fun hc8 => absurd hc8 (by decide))
  refine e_aload_n (p := 17) dX12_size_16 rfl rfl ?_
  refine f_getI (c := 11) (j := 14) (n := 37) (v := 1) (p := 20) dX12_size_17 rfl rfl (by decide) (by decide) (Or.inr rfl) ((I_u hO (by decide)).trans ht1) rfl ?_
  refine e_if_ne (t := 39) (p := 23) dX12_size_20 (by decide) rfl rfl (fun hc20 => ?_) (fun hc20 => absurd hc20 (by decide))
  refine e_iload_n (p := 40) dX12_size_39 rfl rfl ?_
  refine e_iconst (v := 0) (p := 41) dX12_size_40 (by decide) rfl ?_
  refine e_bipush (v := 8) (p := 43) dX12_size_41 (by decide) rfl ?_
  refine e_callS_int (p := 46) (k' := 0) (a := [.int 0, .int 0, .int 8]) (rr := []) dX12_size_43 rfl rfl rfl rfl rfl (rc_st rfl) (Nat.le_of_ble_eq_true rfl) (Nat.le_of_ble_eq_true rfl) (by decide) (Ev.i (show inS 0 0 8 = 1 by decide) (y_in)) (Or.inl rfl) rfl ?_
  refine e_if_eq (t := 56) (p := 49) dX12_size_46 (by decide) rfl rfl (fun hc46 => absurd hc46 (by decide)) (fun hc46 => ?_)
  refine e_aload_n (p := 50) dX12_size_49 rfl rfl ?_
  refine e_getR (c := 11) (j := 15) (n := 37) (b := 98) (p := 53) dX12_size_50 rfl rfl (by decide) (by decide) rfl (r_95_15 hF) rfl ?_
  refine e_iload_n (p := 54) dX12_size_53 rfl rfl ?_
  refine f_iald (n := 276) (i := 0) (v := D 0 0) (p := 55) dX12_size_54 rfl (by decide) (by decide) (by decide) (oM_u hM (by decide)).1 rfl ?_
  exact e_iretE dX12_size_55 rfl rfl (by decide) ⟨rfl, rfl⟩
set_option maxRecDepth 10000 in
theorem q_size_t1 {I : Nat → Nat → Int32} {J : Nat → Nat → Int64} {F : Nat → Nat → Option Nat} {nc ns : Nat} {D : oD} (hF : RFok F) (hM : oM I 98 D) (hW : WF D) (hO : I 95 14 = tol D) {s : Nat → Int32} (hs : stM I s) (ht1 : tol D = 1)  : Ev 1 mX12_size 0 [.ref 95, .int 1] [] ((SH, nc, ns), I, J, F) (some (.int (nI (tN D)))) ((SH, nc, ns), hp_u I 95 0 0, J, F) := by
  have hD := hW.c
  have hH := hW.h
  have hT := hW.t
  have bt := hT.2
  obtain ⟨b0, b1, b2, b3, b4, b5, b6⟩ := hD.2
  refine e_aload_n (p := 1) dX12_size_0 rfl rfl ?_
  refine e_iconst (v := 0) (p := 2) dX12_size_1 (by decide) rfl ?_
  refine e_putI (c := 11) (j := 0) (n := 37)  (p := 5) dX12_size_2 rfl rfl (by decide) (by decide) rfl rfl rfl ?_
  refine e_iload_n (p := 6) dX12_size_5 rfl rfl ?_
  refine e_bipush (v := 15) (p := 8) dX12_size_6 (by decide) rfl ?_
  refine e_icmp_ne (t := 16) (p := 11) dX12_size_8 (by decide) rfl rfl (fun hc8 => ?_) (fun hc8 => absurd hc8 (by decide))
  refine e_aload_n (p := 17) dX12_size_16 rfl rfl ?_
  refine f_getI (c := 11) (j := 14) (n := 37) (v := 1) (p := 20) dX12_size_17 rfl rfl (by decide) (by decide) (Or.inr rfl) ((I_u hO (by decide)).trans ht1) rfl ?_
  refine e_if_ne (t := 39) (p := 23) dX12_size_20 (by decide) rfl rfl (fun hc20 => ?_) (fun hc20 => absurd hc20 (by decide))
  refine e_iload_n (p := 40) dX12_size_39 rfl rfl ?_
  refine e_iconst (v := 0) (p := 41) dX12_size_40 (by decide) rfl ?_
  refine e_bipush (v := 8) (p := 43) dX12_size_41 (by decide) rfl ?_
  refine e_callS_int (p := 46) (k' := 0) (a := [.int 1, .int 0, .int 8]) (rr := []) dX12_size_43 rfl rfl rfl rfl rfl (rc_st rfl) (Nat.le_of_ble_eq_true rfl) (Nat.le_of_ble_eq_true rfl) (by decide) (Ev.i (show inS 1 0 8 = 1 by decide) (y_in)) (Or.inl rfl) rfl ?_
  refine e_if_eq (t := 56) (p := 49) dX12_size_46 (by decide) rfl rfl (fun hc46 => absurd hc46 (by decide)) (fun hc46 => ?_)
  refine e_aload_n (p := 50) dX12_size_49 rfl rfl ?_
  refine e_getR (c := 11) (j := 15) (n := 37) (b := 98) (p := 53) dX12_size_50 rfl rfl (by decide) (by decide) rfl (r_95_15 hF) rfl ?_
  refine e_iload_n (p := 54) dX12_size_53 rfl rfl ?_
  refine f_iald (n := 276) (i := 1) (v := nI (tN D)) (p := 55) dX12_size_54 rfl (by decide) (by decide) (by decide) ((oM_u hM (by decide)).2.1.trans hT.1) rfl ?_
  exact e_iretE dX12_size_55 rfl rfl (by decide) ⟨rfl, rfl⟩
set_option maxRecDepth 10000 in
theorem q_size_t9 {I : Nat → Nat → Int32} {J : Nat → Nat → Int64} {F : Nat → Nat → Option Nat} {nc ns : Nat} {D : oD} (hF : RFok F) (hM : oM I 98 D) (hW : WF D) (hO : I 95 14 = tol D) {s : Nat → Int32} (hs : stM I s) (ht1 : tol D = 1)  : Ev 1 mX12_size 0 [.ref 95, .int 9] [] ((SH, nc, ns), I, J, F) (some (.int (s 0))) ((SH, nc, ns), hp_u I 95 0 0, J, F) := by
  have hD := hW.c
  have hH := hW.h
  have hT := hW.t
  have bt := hT.2
  obtain ⟨b0, b1, b2, b3, b4, b5, b6⟩ := hD.2
  refine e_aload_n (p := 1) dX12_size_0 rfl rfl ?_
  refine e_iconst (v := 0) (p := 2) dX12_size_1 (by decide) rfl ?_
  refine e_putI (c := 11) (j := 0) (n := 37)  (p := 5) dX12_size_2 rfl rfl (by decide) (by decide) rfl rfl rfl ?_
  refine e_iload_n (p := 6) dX12_size_5 rfl rfl ?_
  refine e_bipush (v := 15) (p := 8) dX12_size_6 (by decide) rfl ?_
  refine e_icmp_ne (t := 16) (p := 11) dX12_size_8 (by decide) rfl rfl (fun hc8 => ?_) (fun hc8 => absurd hc8 (by decide))
  refine e_aload_n (p := 17) dX12_size_16 rfl rfl ?_
  refine f_getI (c := 11) (j := 14) (n := 37) (v := 1) (p := 20) dX12_size_17 rfl rfl (by decide) (by decide) (Or.inr rfl) ((I_u hO (by decide)).trans ht1) rfl ?_
  refine e_if_ne (t := 39) (p := 23) dX12_size_20 (by decide) rfl rfl (fun hc20 => ?_) (fun hc20 => absurd hc20 (by decide))
  refine e_iload_n (p := 40) dX12_size_39 rfl rfl ?_
  refine e_iconst (v := 0) (p := 41) dX12_size_40 (by decide) rfl ?_
  refine e_bipush (v := 8) (p := 43) dX12_size_41 (by decide) rfl ?_
  refine e_callS_int (p := 46) (k' := 0) (a := [.int 9, .int 0, .int 8]) (rr := []) dX12_size_43 rfl rfl rfl rfl rfl (rc_st rfl) (Nat.le_of_ble_eq_true rfl) (Nat.le_of_ble_eq_true rfl) (by decide) (Ev.i (show inS 9 0 8 = 0 by decide) (y_in)) (Or.inl rfl) rfl ?_
  refine e_if_eq (t := 56) (p := 49) dX12_size_46 (by decide) rfl rfl (fun hc46 => ?_) (fun hc46 => absurd (by decide) hc46)
  refine e_iload_n (p := 57) dX12_size_56 rfl rfl ?_
  skip
  · skip
    refine e_swIn (p := 96) dX12_size_57 (by decide) rfl (by decide) rfl ?_
    refine e_aload_n (p := 97) dX12_size_96 rfl rfl ?_
    refine e_getR (c := 11) (j := 17) (n := 37) (b := 100) (p := 100) dX12_size_97 rfl rfl (by decide) (by decide) rfl (r_95_17 hF) rfl ?_
    refine e_iconst (v := 0) (p := 101) dX12_size_100 (by decide) rfl ?_
    refine f_iald (n := 6) (i := 0) (v := s 0) (p := 102) dX12_size_101 rfl (by decide) (by decide) (by decide) ((stM_u hs (by decide)) 0 (by decide)) rfl ?_
    exact e_iretE dX12_size_102 rfl rfl (by decide) ⟨rfl, rfl⟩
set_option maxRecDepth 10000 in
theorem q_size_t10 {I : Nat → Nat → Int32} {J : Nat → Nat → Int64} {F : Nat → Nat → Option Nat} {nc ns : Nat} {D : oD} (hF : RFok F) (hM : oM I 98 D) (hW : WF D) (hO : I 95 14 = tol D) {s : Nat → Int32} (hs : stM I s) (ht1 : tol D = 1)  : Ev 1 mX12_size 0 [.ref 95, .int 10] [] ((SH, nc, ns), I, J, F) (some (.int (s 1))) ((SH, nc, ns), hp_u I 95 0 0, J, F) := by
  have hD := hW.c
  have hH := hW.h
  have hT := hW.t
  have bt := hT.2
  obtain ⟨b0, b1, b2, b3, b4, b5, b6⟩ := hD.2
  refine e_aload_n (p := 1) dX12_size_0 rfl rfl ?_
  refine e_iconst (v := 0) (p := 2) dX12_size_1 (by decide) rfl ?_
  refine e_putI (c := 11) (j := 0) (n := 37)  (p := 5) dX12_size_2 rfl rfl (by decide) (by decide) rfl rfl rfl ?_
  refine e_iload_n (p := 6) dX12_size_5 rfl rfl ?_
  refine e_bipush (v := 15) (p := 8) dX12_size_6 (by decide) rfl ?_
  refine e_icmp_ne (t := 16) (p := 11) dX12_size_8 (by decide) rfl rfl (fun hc8 => ?_) (fun hc8 => absurd hc8 (by decide))
  refine e_aload_n (p := 17) dX12_size_16 rfl rfl ?_
  refine f_getI (c := 11) (j := 14) (n := 37) (v := 1) (p := 20) dX12_size_17 rfl rfl (by decide) (by decide) (Or.inr rfl) ((I_u hO (by decide)).trans ht1) rfl ?_
  refine e_if_ne (t := 39) (p := 23) dX12_size_20 (by decide) rfl rfl (fun hc20 => ?_) (fun hc20 => absurd hc20 (by decide))
  refine e_iload_n (p := 40) dX12_size_39 rfl rfl ?_
  refine e_iconst (v := 0) (p := 41) dX12_size_40 (by decide) rfl ?_
  refine e_bipush (v := 8) (p := 43) dX12_size_41 (by decide) rfl ?_
  refine e_callS_int (p := 46) (k' := 0) (a := [.int 10, .int 0, .int 8]) (rr := []) dX12_size_43 rfl rfl rfl rfl rfl (rc_st rfl) (Nat.le_of_ble_eq_true rfl) (Nat.le_of_ble_eq_true rfl) (by decide) (Ev.i (show inS 10 0 8 = 0 by decide) (y_in)) (Or.inl rfl) rfl ?_
  refine e_if_eq (t := 56) (p := 49) dX12_size_46 (by decide) rfl rfl (fun hc46 => ?_) (fun hc46 => absurd (by decide) hc46)
  refine e_iload_n (p := 57) dX12_size_56 rfl rfl ?_
  skip
  · skip
    refine e_swIn (p := 103) dX12_size_57 (by decide) rfl (by decide) rfl ?_
    refine e_aload_n (p := 104) dX12_size_103 rfl rfl ?_
    refine e_getR (c := 11) (j := 17) (n := 37) (b := 100) (p := 107) dX12_size_104 rfl rfl (by decide) (by decide) rfl (r_95_17 hF) rfl ?_
    refine e_iconst (v := 1) (p := 108) dX12_size_107 (by decide) rfl ?_
    refine f_iald (n := 6) (i := 1) (v := s 1) (p := 109) dX12_size_108 rfl (by decide) (by decide) (by decide) ((stM_u hs (by decide)) 1 (by decide)) rfl ?_
    exact e_iretE dX12_size_109 rfl rfl (by decide) ⟨rfl, rfl⟩
set_option maxRecDepth 10000 in
theorem q_size_t12 {I : Nat → Nat → Int32} {J : Nat → Nat → Int64} {F : Nat → Nat → Option Nat} {nc ns : Nat} {D : oD} (hF : RFok F) (hM : oM I 98 D) (hW : WF D) (hO : I 95 14 = tol D) {s : Nat → Int32} (hs : stM I s) (ht1 : tol D = 1)  : Ev 1 mX12_size 0 [.ref 95, .int 12] [] ((SH, nc, ns), I, J, F) (some (.int (s 3))) ((SH, nc, ns), hp_u I 95 0 0, J, F) := by
  have hD := hW.c
  have hH := hW.h
  have hT := hW.t
  have bt := hT.2
  obtain ⟨b0, b1, b2, b3, b4, b5, b6⟩ := hD.2
  refine e_aload_n (p := 1) dX12_size_0 rfl rfl ?_
  refine e_iconst (v := 0) (p := 2) dX12_size_1 (by decide) rfl ?_
  refine e_putI (c := 11) (j := 0) (n := 37)  (p := 5) dX12_size_2 rfl rfl (by decide) (by decide) rfl rfl rfl ?_
  refine e_iload_n (p := 6) dX12_size_5 rfl rfl ?_
  refine e_bipush (v := 15) (p := 8) dX12_size_6 (by decide) rfl ?_
  refine e_icmp_ne (t := 16) (p := 11) dX12_size_8 (by decide) rfl rfl (fun hc8 => ?_) (fun hc8 => absurd hc8 (by decide))
  refine e_aload_n (p := 17) dX12_size_16 rfl rfl ?_
  refine f_getI (c := 11) (j := 14) (n := 37) (v := 1) (p := 20) dX12_size_17 rfl rfl (by decide) (by decide) (Or.inr rfl) ((I_u hO (by decide)).trans ht1) rfl ?_
  refine e_if_ne (t := 39) (p := 23) dX12_size_20 (by decide) rfl rfl (fun hc20 => ?_) (fun hc20 => absurd hc20 (by decide))
  refine e_iload_n (p := 40) dX12_size_39 rfl rfl ?_
  refine e_iconst (v := 0) (p := 41) dX12_size_40 (by decide) rfl ?_
  refine e_bipush (v := 8) (p := 43) dX12_size_41 (by decide) rfl ?_
  refine e_callS_int (p := 46) (k' := 0) (a := [.int 12, .int 0, .int 8]) (rr := []) dX12_size_43 rfl rfl rfl rfl rfl (rc_st rfl) (Nat.le_of_ble_eq_true rfl) (Nat.le_of_ble_eq_true rfl) (by decide) (Ev.i (show inS 12 0 8 = 0 by decide) (y_in)) (Or.inl rfl) rfl ?_
  refine e_if_eq (t := 56) (p := 49) dX12_size_46 (by decide) rfl rfl (fun hc46 => ?_) (fun hc46 => absurd (by decide) hc46)
  refine e_iload_n (p := 57) dX12_size_56 rfl rfl ?_
  skip
  · skip
    refine e_swIn (p := 133) dX12_size_57 (by decide) rfl (by decide) rfl ?_
    refine e_aload_n (p := 134) dX12_size_133 rfl rfl ?_
    refine e_getR (c := 11) (j := 17) (n := 37) (b := 100) (p := 137) dX12_size_134 rfl rfl (by decide) (by decide) rfl (r_95_17 hF) rfl ?_
    refine e_iconst (v := 3) (p := 138) dX12_size_137 (by decide) rfl ?_
    refine f_iald (n := 6) (i := 3) (v := s 3) (p := 139) dX12_size_138 rfl (by decide) (by decide) (by decide) ((stM_u hs (by decide)) 3 (by decide)) rfl ?_
    exact e_iretE dX12_size_139 rfl rfl (by decide) ⟨rfl, rfl⟩
set_option maxRecDepth 10000 in
theorem q_size_t13 {I : Nat → Nat → Int32} {J : Nat → Nat → Int64} {F : Nat → Nat → Option Nat} {nc ns : Nat} {D : oD} (hF : RFok F) (hM : oM I 98 D) (hW : WF D) (hO : I 95 14 = tol D) {s : Nat → Int32} (hs : stM I s) (ht1 : tol D = 1)  : Ev 1 mX12_size 0 [.ref 95, .int 13] [] ((SH, nc, ns), I, J, F) (some (.int (I 95 20))) ((SH, nc, ns), hp_u I 95 0 0, J, F) := by
  have hD := hW.c
  have hH := hW.h
  have hT := hW.t
  have bt := hT.2
  obtain ⟨b0, b1, b2, b3, b4, b5, b6⟩ := hD.2
  refine e_aload_n (p := 1) dX12_size_0 rfl rfl ?_
  refine e_iconst (v := 0) (p := 2) dX12_size_1 (by decide) rfl ?_
  refine e_putI (c := 11) (j := 0) (n := 37)  (p := 5) dX12_size_2 rfl rfl (by decide) (by decide) rfl rfl rfl ?_
  refine e_iload_n (p := 6) dX12_size_5 rfl rfl ?_
  refine e_bipush (v := 15) (p := 8) dX12_size_6 (by decide) rfl ?_
  refine e_icmp_ne (t := 16) (p := 11) dX12_size_8 (by decide) rfl rfl (fun hc8 => ?_) (fun hc8 => absurd hc8 (by decide))
  refine e_aload_n (p := 17) dX12_size_16 rfl rfl ?_
  refine f_getI (c := 11) (j := 14) (n := 37) (v := 1) (p := 20) dX12_size_17 rfl rfl (by decide) (by decide) (Or.inr rfl) ((I_u hO (by decide)).trans ht1) rfl ?_
  refine e_if_ne (t := 39) (p := 23) dX12_size_20 (by decide) rfl rfl (fun hc20 => ?_) (fun hc20 => absurd hc20 (by decide))
  refine e_iload_n (p := 40) dX12_size_39 rfl rfl ?_
  refine e_iconst (v := 0) (p := 41) dX12_size_40 (by decide) rfl ?_
  refine e_bipush (v := 8) (p := 43) dX12_size_41 (by decide) rfl ?_
  refine e_callS_int (p := 46) (k' := 0) (a := [.int 13, .int 0, .int 8]) (rr := []) dX12_size_43 rfl rfl rfl rfl rfl (rc_st rfl) (Nat.le_of_ble_eq_true rfl) (Nat.le_of_ble_eq_true rfl) (by decide) (Ev.i (show inS 13 0 8 = 0 by decide) (y_in)) (Or.inl rfl) rfl ?_
  refine e_if_eq (t := 56) (p := 49) dX12_size_46 (by decide) rfl rfl (fun hc46 => ?_) (fun hc46 => absurd (by decide) hc46)
  refine e_iload_n (p := 57) dX12_size_56 rfl rfl ?_
  skip
  · skip
    refine e_swIn (p := 140) dX12_size_57 (by decide) rfl (by decide) rfl ?_
    refine e_aload_n (p := 141) dX12_size_140 rfl rfl ?_
    refine f_getI (c := 11) (j := 20) (n := 37) (v := (hp_u I 95 0 0) 95 20) (p := 144) dX12_size_141 rfl rfl (by decide) (by decide) (Or.inl rfl) rfl rfl ?_
    exact e_iretE dX12_size_144 rfl rfl (by decide) ⟨rfl, rfl⟩
set_option maxRecDepth 10000 in
theorem q_size_t14 {I : Nat → Nat → Int32} {J : Nat → Nat → Int64} {F : Nat → Nat → Option Nat} {nc ns : Nat} {D : oD} (hF : RFok F) (hM : oM I 98 D) (hW : WF D) (hO : I 95 14 = tol D) {s : Nat → Int32} (hs : stM I s) (ht1 : tol D = 1)  : Ev 1 mX12_size 0 [.ref 95, .int 14] [] ((SH, nc, ns), I, J, F) (some (.int (I 95 21))) ((SH, nc, ns), hp_u I 95 0 0, J, F) := by
  have hD := hW.c
  have hH := hW.h
  have hT := hW.t
  have bt := hT.2
  obtain ⟨b0, b1, b2, b3, b4, b5, b6⟩ := hD.2
  refine e_aload_n (p := 1) dX12_size_0 rfl rfl ?_
  refine e_iconst (v := 0) (p := 2) dX12_size_1 (by decide) rfl ?_
  refine e_putI (c := 11) (j := 0) (n := 37)  (p := 5) dX12_size_2 rfl rfl (by decide) (by decide) rfl rfl rfl ?_
  refine e_iload_n (p := 6) dX12_size_5 rfl rfl ?_
  refine e_bipush (v := 15) (p := 8) dX12_size_6 (by decide) rfl ?_
  refine e_icmp_ne (t := 16) (p := 11) dX12_size_8 (by decide) rfl rfl (fun hc8 => ?_) (fun hc8 => absurd hc8 (by decide))
  refine e_aload_n (p := 17) dX12_size_16 rfl rfl ?_
  refine f_getI (c := 11) (j := 14) (n := 37) (v := 1) (p := 20) dX12_size_17 rfl rfl (by decide) (by decide) (Or.inr rfl) ((I_u hO (by decide)).trans ht1) rfl ?_
  refine e_if_ne (t := 39) (p := 23) dX12_size_20 (by decide) rfl rfl (fun hc20 => ?_) (fun hc20 => absurd hc20 (by decide))
  refine e_iload_n (p := 40) dX12_size_39 rfl rfl ?_
  refine e_iconst (v := 0) (p := 41) dX12_size_40 (by decide) rfl ?_
  refine e_bipush (v := 8) (p := 43) dX12_size_41 (by decide) rfl ?_
  refine e_callS_int (p := 46) (k' := 0) (a := [.int 14, .int 0, .int 8]) (rr := []) dX12_size_43 rfl rfl rfl rfl rfl (rc_st rfl) (Nat.le_of_ble_eq_true rfl) (Nat.le_of_ble_eq_true rfl) (by decide) (Ev.i (show inS 14 0 8 = 0 by decide) (y_in)) (Or.inl rfl) rfl ?_
  refine e_if_eq (t := 56) (p := 49) dX12_size_46 (by decide) rfl rfl (fun hc46 => ?_) (fun hc46 => absurd (by decide) hc46)
  refine e_iload_n (p := 57) dX12_size_56 rfl rfl ?_
  skip
  · skip
    refine e_swIn (p := 145) dX12_size_57 (by decide) rfl (by decide) rfl ?_
    refine e_aload_n (p := 146) dX12_size_145 rfl rfl ?_
    refine f_getI (c := 11) (j := 21) (n := 37) (v := (hp_u I 95 0 0) 95 21) (p := 149) dX12_size_146 rfl rfl (by decide) (by decide) (Or.inl rfl) rfl rfl ?_
    exact e_iretE dX12_size_149 rfl rfl (by decide) ⟨rfl, rfl⟩
set_option maxRecDepth 10000 in
theorem q_size_t11 {I : Nat → Nat → Int32} {J : Nat → Nat → Int64} {F : Nat → Nat → Option Nat} {nc ns : Nat} {D : oD} (hF : RFok F) (hM : oM I 98 D) (hW : WF D) (hO : I 95 14 = tol D) {s : Nat → Int32} (hs : stM I s) (ht1 : tol D = 1)  : Ev 1 mX12_size 0 [.ref 95, .int 11] [] ((SH, nc, ns), I, J, F) (some (.int (frS (s 2)))) ((SH, nc, ns), hp_u I 95 0 0, J, F) := by
  have hD := hW.c
  have hH := hW.h
  have hT := hW.t
  have bt := hT.2
  obtain ⟨b0, b1, b2, b3, b4, b5, b6⟩ := hD.2
  refine e_aload_n (p := 1) dX12_size_0 rfl rfl ?_
  refine e_iconst (v := 0) (p := 2) dX12_size_1 (by decide) rfl ?_
  refine e_putI (c := 11) (j := 0) (n := 37)  (p := 5) dX12_size_2 rfl rfl (by decide) (by decide) rfl rfl rfl ?_
  refine e_iload_n (p := 6) dX12_size_5 rfl rfl ?_
  refine e_bipush (v := 15) (p := 8) dX12_size_6 (by decide) rfl ?_
  refine e_icmp_ne (t := 16) (p := 11) dX12_size_8 (by decide) rfl rfl (fun hc8 => ?_) (fun hc8 => absurd hc8 (by decide))
  refine e_aload_n (p := 17) dX12_size_16 rfl rfl ?_
  refine f_getI (c := 11) (j := 14) (n := 37) (v := 1) (p := 20) dX12_size_17 rfl rfl (by decide) (by decide) (Or.inr rfl) ((I_u hO (by decide)).trans ht1) rfl ?_
  refine e_if_ne (t := 39) (p := 23) dX12_size_20 (by decide) rfl rfl (fun hc20 => ?_) (fun hc20 => absurd hc20 (by decide))
  refine e_iload_n (p := 40) dX12_size_39 rfl rfl ?_
  refine e_iconst (v := 0) (p := 41) dX12_size_40 (by decide) rfl ?_
  refine e_bipush (v := 8) (p := 43) dX12_size_41 (by decide) rfl ?_
  refine e_callS_int (p := 46) (k' := 0) (a := [.int 11, .int 0, .int 8]) (rr := []) dX12_size_43 rfl rfl rfl rfl rfl (rc_st rfl) (Nat.le_of_ble_eq_true rfl) (Nat.le_of_ble_eq_true rfl) (by decide) (Ev.i (show inS 11 0 8 = 0 by decide) (y_in)) (Or.inl rfl) rfl ?_
  refine e_if_eq (t := 56) (p := 49) dX12_size_46 (by decide) rfl rfl (fun hc46 => ?_) (fun hc46 => absurd (by decide) hc46)
  refine e_iload_n (p := 57) dX12_size_56 rfl rfl ?_
  skip
  · skip
    refine e_swIn (p := 110) dX12_size_57 (by decide) rfl (by decide) rfl ?_
    refine e_aload_n (p := 111) dX12_size_110 rfl rfl ?_
    refine e_getR (c := 11) (j := 17) (n := 37) (b := 100) (p := 114) dX12_size_111 rfl rfl (by decide) (by decide) rfl (r_95_17 hF) rfl ?_
    refine e_iconst (v := 2) (p := 115) dX12_size_114 (by decide) rfl ?_
    refine f_iald (n := 6) (i := 2) (v := s 2) (p := 116) dX12_size_115 rfl (by decide) (by decide) (by decide) ((stM_u hs (by decide)) 2 (by decide)) rfl ?_
    refine e_if_ne (t := 124) (p := 119) dX12_size_116 (by decide) rfl rfl (fun hc116 => ?_) (fun hc116 => ?_)
    · skip
      refine e_aload_n (p := 125) dX12_size_124 rfl rfl ?_
      refine e_getR (c := 11) (j := 17) (n := 37) (b := 100) (p := 128) dX12_size_125 rfl rfl (by decide) (by decide) rfl (r_95_17 hF) rfl ?_
      refine e_iconst (v := 2) (p := 129) dX12_size_128 (by decide) rfl ?_
      refine f_iald (n := 6) (i := 2) (v := s 2) (p := 130) dX12_size_129 rfl (by decide) (by decide) (by decide) ((stM_u hs (by decide)) 2 (by decide)) rfl ?_
      refine e_iconst (v := 1) (p := 131) dX12_size_130 (by decide) rfl ?_
      refine e_isub (p := 132) dX12_size_131 rfl ?_
      exact e_iretE dX12_size_132 rfl rfl (by decide) ⟨by simp only [frS, hc116, ↓reduceIte], rfl⟩
    · skip
      refine e_bipush (v := -2) (p := 121) dX12_size_119 (by decide) rfl ?_
      refine e_goto (p := 132) dX12_size_121 (by decide) rfl ?_
      exact e_iretE dX12_size_132 rfl rfl (by decide) ⟨by simp only [frS, hc116, ↓reduceIte], rfl⟩
set_option maxRecDepth 10000 in
theorem q_size_15 {I : Nat → Nat → Int32} {J : Nat → Nat → Int64} {F : Nat → Nat → Option Nat} {nc ns : Nat} {D : oD} (hF : RFok F) (hM : oM I 98 D) (hW : WF D) (hO : I 95 14 = tol D) {s : Nat → Int32} (hs : stM I s)  : Ev 1 mX12_size 0 [.ref 95, .int 15] [] ((SH, nc, ns), I, J, F) (some (.int (I 95 2))) ((SH, nc, ns), hp_u I 95 0 0, J, F) := by
  have hD := hW.c
  have hH := hW.h
  have hT := hW.t
  have bt := hT.2
  obtain ⟨b0, b1, b2, b3, b4, b5, b6⟩ := hD.2
  refine e_aload_n (p := 1) dX12_size_0 rfl rfl ?_
  refine e_iconst (v := 0) (p := 2) dX12_size_1 (by decide) rfl ?_
  refine e_putI (c := 11) (j := 0) (n := 37)  (p := 5) dX12_size_2 rfl rfl (by decide) (by decide) rfl rfl rfl ?_
  refine e_iload_n (p := 6) dX12_size_5 rfl rfl ?_
  refine e_bipush (v := 15) (p := 8) dX12_size_6 (by decide) rfl ?_
  refine e_icmp_ne (t := 16) (p := 11) dX12_size_8 (by decide) rfl rfl (fun hc8 => absurd (by decide) hc8) (fun hc8 => ?_)
  refine e_aload_n (p := 12) dX12_size_11 rfl rfl ?_
  refine f_getI (c := 11) (j := 2) (n := 37) (v := (hp_u I 95 0 0) 95 2) (p := 15) dX12_size_12 rfl rfl (by decide) (by decide) (Or.inl rfl) rfl rfl ?_
  exact e_iretE dX12_size_15 rfl rfl (by decide) ⟨rfl, rfl⟩
theorem sz_out {x : Int32} (h14 : inS x 0 14 = 0) : inS x 0 8 = 0 ∧ (x.toInt < 9 ∨ 14 < x.toInt) := by
  unfold inS at h14 ⊢
  by_cases c : x < 0
  · refine ⟨if_pos c, Or.inl ?_⟩
    have := Int32.lt_iff_toInt_lt.mp c
    have e : (0 : Int32).toInt = 0 := by decide
    omega
  · rw [if_neg c] at h14
    by_cases c2 : 14 < x
    · have h2 := Int32.lt_iff_toInt_lt.mp c2
      have e : (14 : Int32).toInt = 14 := by decide
      refine ⟨?_, Or.inr (by omega)⟩
      rw [if_neg c, if_pos]
      rw [Int32.lt_iff_toInt_lt, show (8 : Int32).toInt = 8 by decide]
      omega
    · rw [if_neg c2] at h14
      exact absurd h14 (by decide)
set_option maxRecDepth 10000 in
theorem q_size_to {I : Nat → Nat → Int32} {J : Nat → Nat → Int64} {F : Nat → Nat → Option Nat} {nc ns : Nat} {D : oD} (hF : RFok F) (hM : oM I 98 D) (hW : WF D) (hO : I 95 14 = tol D) {s : Nat → Int32} (hs : stM I s) (ht1 : tol D = 1) {x : Int32} (h15 : ¬ x = 15) (h14 : inS x 0 14 = 0) : Ev 1 mX12_size 0 [.ref 95, .int x] [] ((SH, nc, ns), I, J, F) (some (.int (-1))) ((SH, nc, ns), hp_u I 95 0 0, J, F) := by
  have hD := hW.c
  have hH := hW.h
  have hT := hW.t
  have bt := hT.2
  obtain ⟨b0, b1, b2, b3, b4, b5, b6⟩ := hD.2
  have h8 := sz_out h14
  refine e_aload_n (p := 1) dX12_size_0 rfl rfl ?_
  refine e_iconst (v := 0) (p := 2) dX12_size_1 (by decide) rfl ?_
  refine e_putI (c := 11) (j := 0) (n := 37)  (p := 5) dX12_size_2 rfl rfl (by decide) (by decide) rfl rfl rfl ?_
  refine e_iload_n (p := 6) dX12_size_5 rfl rfl ?_
  refine e_bipush (v := 15) (p := 8) dX12_size_6 (by decide) rfl ?_
  refine e_icmp_ne (t := 16) (p := 11) dX12_size_8 (by decide) rfl rfl (fun hc8 => ?_) (fun hc8 => absurd hc8 h15)
  refine e_aload_n (p := 17) dX12_size_16 rfl rfl ?_
  refine f_getI (c := 11) (j := 14) (n := 37) (v := 1) (p := 20) dX12_size_17 rfl rfl (by decide) (by decide) (Or.inr rfl) ((I_u hO (by decide)).trans ht1) rfl ?_
  refine e_if_ne (t := 39) (p := 23) dX12_size_20 (by decide) rfl rfl (fun hc20 => ?_) (fun hc20 => absurd hc20 (by decide))
  refine e_iload_n (p := 40) dX12_size_39 rfl rfl ?_
  refine e_iconst (v := 0) (p := 41) dX12_size_40 (by decide) rfl ?_
  refine e_bipush (v := 8) (p := 43) dX12_size_41 (by decide) rfl ?_
  refine e_callS_int (p := 46) (k' := 0) (a := [.int x, .int 0, .int 8]) (rr := []) dX12_size_43 rfl rfl rfl rfl rfl (rc_st rfl) (Nat.le_of_ble_eq_true rfl) (Nat.le_of_ble_eq_true rfl) (by decide) (y_in  ) (Or.inl rfl) rfl ?_
  refine e_if_eq (t := 56) (p := 49) dX12_size_46 (by decide) rfl rfl (fun hc46 => ?_) (fun hc46 => absurd h8.1 hc46)
  refine e_iload_n (p := 57) dX12_size_56 rfl rfl ?_
  skip
  · skip
    refine e_swOut (p := 150) dX12_size_57 h8.2 (by decide) rfl ?_
    refine e_iconst (v := -1) (p := 151) dX12_size_150 (by decide) rfl ?_
    exact e_iretE dX12_size_151 rfl rfl (by decide) ⟨rfl, rfl⟩
set_option maxRecDepth 10000 in
theorem q_size_uo {I : Nat → Nat → Int32} {J : Nat → Nat → Int64} {F : Nat → Nat → Option Nat} {nc ns : Nat} {D : oD} (hF : RFok F) (hM : oM I 98 D) (hW : WF D) (hO : I 95 14 = tol D) {s : Nat → Int32} (hs : stM I s) (ht0 : tol D = 0) {x : Int32} (h15 : ¬ x = 15) (h14 : inS x 0 14 = 0) : Ev 1 mX12_size 0 [.ref 95, .int x] [] ((SH, nc, ns), I, J, F) (some (.int (-1))) ((SH, nc, ns), hp_u I 95 0 0, J, F) := by
  have hD := hW.c
  have hH := hW.h
  have hT := hW.t
  have bt := hT.2
  obtain ⟨b0, b1, b2, b3, b4, b5, b6⟩ := hD.2
  have h8 := sz_out h14
  refine e_aload_n (p := 1) dX12_size_0 rfl rfl ?_
  refine e_iconst (v := 0) (p := 2) dX12_size_1 (by decide) rfl ?_
  refine e_putI (c := 11) (j := 0) (n := 37)  (p := 5) dX12_size_2 rfl rfl (by decide) (by decide) rfl rfl rfl ?_
  refine e_iload_n (p := 6) dX12_size_5 rfl rfl ?_
  refine e_bipush (v := 15) (p := 8) dX12_size_6 (by decide) rfl ?_
  refine e_icmp_ne (t := 16) (p := 11) dX12_size_8 (by decide) rfl rfl (fun hc8 => ?_) (fun hc8 => absurd hc8 h15)
  refine e_aload_n (p := 17) dX12_size_16 rfl rfl ?_
  refine f_getI (c := 11) (j := 14) (n := 37) (v := 0) (p := 20) dX12_size_17 rfl rfl (by decide) (by decide) (Or.inr rfl) ((I_u hO (by decide)).trans ht0) rfl ?_
  refine e_if_ne (t := 39) (p := 23) dX12_size_20 (by decide) rfl rfl (fun hc20 => absurd (by decide) hc20) (fun hc20 => ?_)
  refine e_iload_n (p := 24) dX12_size_23 rfl rfl ?_
  refine e_iconst (v := 0) (p := 25) dX12_size_24 (by decide) rfl ?_
  refine e_bipush (v := 14) (p := 27) dX12_size_25 (by decide) rfl ?_
  refine e_callS_int (p := 30) (k' := 0) (a := [.int x, .int 0, .int 14]) (rr := []) dX12_size_27 rfl rfl rfl rfl rfl (rc_st rfl) (Nat.le_of_ble_eq_true rfl) (Nat.le_of_ble_eq_true rfl) (by decide) (y_in  ) (Or.inl rfl) rfl ?_
  refine e_if_eq (t := 37) (p := 33) dX12_size_30 (by decide) rfl rfl (fun hc30 => ?_) (fun hc30 => absurd h14 hc30)
  refine e_iconst (v := -1) (p := 38) dX12_size_37 (by decide) rfl ?_
  exact e_iretE dX12_size_38 rfl rfl (by decide) ⟨rfl, rfl⟩
def ledG (b i : Int32) : Nat → Nat → Int32 → Option Nat
  | _, 0, _ => none
  | j, m + 1, n => if hbS b (nI j) = 0 then ledG b i (j + 1) m n else if n = i then some j else ledG b i (j + 1) m (n + 1)
def ledV : Option Nat → Int32
  | some k => nI k
  | none => 0
def ledT : Option Nat → Int32
  | some _ => 0
  | none => 1
set_option maxRecDepth 10000 in
theorem y_led_L {I : Nat → Nat → Int32} {J : Nat → Nat → Int64} {F : Nat → Nat → Option Nat} {nc ns : Nat} {D : oD} (hF : RFok F) (hM : oM I 98 D) (hW : WF D) (hO : I 95 14 = tol D) {s : Nat → Int32} (hs : stM I s) (ht1 : tol D = 1) {i : Int32}  : ∀ (m j : Nat) (n : Int32), j + m = dN D 4 → Ev 1 mX12_led 4 [.ref 95, .int i, .int n, .int (nI j)] [] ((SH, nc, ns), I, J, F) (some (.int (ledV (ledG (s 5) i j m n)))) ((SH, nc, ns), hp_u I 95 0 (ledT (ledG (s 5) i j m n)), J, F)
  | 0, j, n, hj => by
    have hD := hW.c
    have hH := hW.h
    have hT := hW.t
    have bt := hT.2
    obtain ⟨b0, b1, b2, b3, b4, b5, b6⟩ := hD.2
    refine e_aload_n (p := 5) dX12_led_4 rfl rfl ?_
    refine f_getI (c := 11) (j := 14) (n := 37) (v := 1) (p := 8) dX12_led_5 rfl rfl (by decide) (by decide) (Or.inr rfl) (hO.trans ht1) rfl ?_
    refine e_if_eq (t := 59) (p := 11) dX12_led_8 (by decide) rfl rfl (fun hc8 => absurd hc8 (by decide)) (fun hc8 => ?_)
    refine e_iload_n (p := 12) dX12_led_11 rfl rfl ?_
    refine e_aload_n (p := 13) dX12_led_12 rfl rfl ?_
    refine e_getR (c := 11) (j := 15) (n := 37) (b := 98) (p := 16) dX12_led_13 rfl rfl (by decide) (by decide) rfl (r_95_15 hF) rfl ?_
    refine e_bipush (v := 6) (p := 18) dX12_led_16 (by decide) rfl ?_
    refine f_iald (n := 276) (i := 6) (v := nI (dN D 4)) (p := 19) dX12_led_18 rfl (by decide) (by decide) (by decide) (mNn (i := 4) hM hD (by decide)) rfl ?_
    refine e_icmp_ge (t := 59) (p := 22) dX12_led_19 (by decide) rfl rfl (fun hc19 => ?_) (fun hc19 => absurd (nle (by omega) (by omega)) hc19)
    refine e_aload_n (p := 60) dX12_led_59 rfl rfl ?_
    refine e_iconst (v := 1) (p := 61) dX12_led_60 (by decide) rfl ?_
    refine e_putI (c := 11) (j := 0) (n := 37)  (p := 64) dX12_led_61 rfl rfl (by decide) (by decide) rfl rfl rfl ?_
    refine e_iconst (v := 0) (p := 65) dX12_led_64 (by decide) rfl ?_
    exact e_iretE dX12_led_65 rfl rfl (by decide) ⟨rfl, rfl⟩
  | m + 1, j, n, hj => by
    have hD := hW.c
    have hH := hW.h
    have hT := hW.t
    have bt := hT.2
    obtain ⟨b0, b1, b2, b3, b4, b5, b6⟩ := hD.2
    refine e_aload_n (p := 5) dX12_led_4 rfl rfl ?_
    refine f_getI (c := 11) (j := 14) (n := 37) (v := 1) (p := 8) dX12_led_5 rfl rfl (by decide) (by decide) (Or.inr rfl) (hO.trans ht1) rfl ?_
    refine e_if_eq (t := 59) (p := 11) dX12_led_8 (by decide) rfl rfl (fun hc8 => absurd hc8 (by decide)) (fun hc8 => ?_)
    refine e_iload_n (p := 12) dX12_led_11 rfl rfl ?_
    refine e_aload_n (p := 13) dX12_led_12 rfl rfl ?_
    refine e_getR (c := 11) (j := 15) (n := 37) (b := 98) (p := 16) dX12_led_13 rfl rfl (by decide) (by decide) rfl (r_95_15 hF) rfl ?_
    refine e_bipush (v := 6) (p := 18) dX12_led_16 (by decide) rfl ?_
    refine f_iald (n := 276) (i := 6) (v := nI (dN D 4)) (p := 19) dX12_led_18 rfl (by decide) (by decide) (by decide) (mNn (i := 4) hM hD (by decide)) rfl ?_
    refine e_icmp_ge (t := 59) (p := 22) dX12_led_19 (by decide) rfl rfl (fun hc19 => absurd hc19 (nge (by omega) (by omega))) (fun hc19 => ?_)
    refine e_aload_n (p := 23) dX12_led_22 rfl rfl ?_
    refine e_getR (c := 11) (j := 17) (n := 37) (b := 100) (p := 26) dX12_led_23 rfl rfl (by decide) (by decide) rfl (r_95_17 hF) rfl ?_
    refine e_iconst (v := 5) (p := 27) dX12_led_26 (by decide) rfl ?_
    refine f_iald (n := 6) (i := 5) (v := s 5) (p := 28) dX12_led_27 rfl (by decide) (by decide) (by decide) (hs 5 (by decide)) rfl ?_
    refine e_iload_n (p := 29) dX12_led_28 rfl rfl ?_
    refine e_callS_int (p := 32) (k' := 0) (a := [.int (s 5), .int (nI j)]) (rr := []) dX12_led_29 rfl rfl rfl rfl rfl (rc_st rfl) (Nat.le_of_ble_eq_true rfl) (Nat.le_of_ble_eq_true rfl) (by decide) (y_hasBit  ) (Or.inl rfl) rfl ?_
    refine e_if_ne (t := 38) (p := 35) dX12_led_32 (by decide) rfl rfl (fun hc32 => ?_) (fun hc32 => ?_)
    · skip
      refine e_iload_n (p := 39) dX12_led_38 rfl rfl ?_
      refine e_iload_n (p := 40) dX12_led_39 rfl rfl ?_
      refine e_icmp_ne (t := 50) (p := 43) dX12_led_40 (by decide) rfl rfl (fun hc40 => ?_) (fun hc40 => ?_)
      · skip
        refine e_iinc (ls1 := [.ref 95, .int i, .int (n + 1), .int (nI j)]) (p := 53) dX12_led_50 rfl rfl rfl ?_
        refine e_iinc (ls1 := [.ref 95, .int i, .int (n + 1), .int ((nI j) + 1)]) (p := 56) dX12_led_53 rfl rfl rfl ?_
        refine e_goto (p := 4) dX12_led_56 (by decide) rfl ?_
        rw [nI_1]
        refine Ev.res (r' := _) ?_ (Ev.hp ?_ (y_led_L hF hM hW hO hs ht1 m (j + 1) (n + 1) (by omega)))
        · simp only [ledG, hc32, hc40, ↓reduceIte]
        · simp only [ledG, hc32, hc40, ↓reduceIte]
      · skip
        refine e_aload_n (p := 44) dX12_led_43 rfl rfl ?_
        refine e_iconst (v := 0) (p := 45) dX12_led_44 (by decide) rfl ?_
        refine e_putI (c := 11) (j := 0) (n := 37)  (p := 48) dX12_led_45 rfl rfl (by decide) (by decide) rfl rfl rfl ?_
        refine e_iload_n (p := 49) dX12_led_48 rfl rfl ?_
        exact e_iretE dX12_led_49 rfl rfl (by decide) ⟨by simp only [ledG, ledV, hc32, hc40, ↓reduceIte], by simp only [ledG, ledT, hc32, hc40, ↓reduceIte]⟩
    · skip
      refine e_goto (p := 53) dX12_led_35 (by decide) rfl ?_
      refine e_iinc (ls1 := [.ref 95, .int i, .int n, .int ((nI j) + 1)]) (p := 56) dX12_led_53 rfl rfl rfl ?_
      refine e_goto (p := 4) dX12_led_56 (by decide) rfl ?_
      rw [nI_1]
      refine Ev.res (r' := _) ?_ (Ev.hp ?_ (y_led_L hF hM hW hO hs ht1 m (j + 1) n (by omega)))
      · simp only [ledG, hc32, ↓reduceIte]
      · simp only [ledG, hc32, ↓reduceIte]
set_option maxRecDepth 10000 in
theorem q_led_t {I : Nat → Nat → Int32} {J : Nat → Nat → Int64} {F : Nat → Nat → Option Nat} {nc ns : Nat} {D : oD} (hF : RFok F) (hM : oM I 98 D) (hW : WF D) (hO : I 95 14 = tol D) {s : Nat → Int32} (hs : stM I s) (ht1 : tol D = 1) {i : Int32}  : Ev 1 mX12_led 0 [.ref 95, .int i, .null, .null] [] ((SH, nc, ns), I, J, F) (some (.int (ledV (ledG (s 5) i 0 (dN D 4) 0)))) ((SH, nc, ns), hp_u I 95 0 (ledT (ledG (s 5) i 0 (dN D 4) 0)), J, F) := by
  have hD := hW.c
  have hH := hW.h
  have hT := hW.t
  have bt := hT.2
  obtain ⟨b0, b1, b2, b3, b4, b5, b6⟩ := hD.2
  refine e_iconst (v := 0) (p := 1) dX12_led_0 (by decide) rfl ?_
  refine e_istore_n (ls1 := [.ref 95, .int i, .int 0, .null]) (p := 2) dX12_led_1 rfl rfl ?_
  refine e_iconst (v := 0) (p := 3) dX12_led_2 (by decide) rfl ?_
  refine e_istore_n (ls1 := [.ref 95, .int i, .int 0, .int 0]) (p := 4) dX12_led_3 rfl rfl ?_
  exact y_led_L hF hM hW hO hs ht1 _ 0 _ (by omega)
set_option maxRecDepth 10000 in
theorem q_led_u {I : Nat → Nat → Int32} {J : Nat → Nat → Int64} {F : Nat → Nat → Option Nat} {nc ns : Nat} {D : oD} (hF : RFok F) (hM : oM I 98 D) (hW : WF D) (hO : I 95 14 = tol D) {s : Nat → Int32} (hs : stM I s) (ht0 : tol D = 0) {i : Int32}  : Ev 1 mX12_led 0 [.ref 95, .int i, .null, .null] [] ((SH, nc, ns), I, J, F) (some (.int 0)) ((SH, nc, ns), hp_u I 95 0 1, J, F) := by
  have hD := hW.c
  have hH := hW.h
  have hT := hW.t
  have bt := hT.2
  obtain ⟨b0, b1, b2, b3, b4, b5, b6⟩ := hD.2
  refine e_iconst (v := 0) (p := 1) dX12_led_0 (by decide) rfl ?_
  refine e_istore_n (ls1 := [.ref 95, .int i, .int 0, .null]) (p := 2) dX12_led_1 rfl rfl ?_
  refine e_iconst (v := 0) (p := 3) dX12_led_2 (by decide) rfl ?_
  refine e_istore_n (ls1 := [.ref 95, .int i, .int 0, .int 0]) (p := 4) dX12_led_3 rfl rfl ?_
  refine e_aload_n (p := 5) dX12_led_4 rfl rfl ?_
  refine f_getI (c := 11) (j := 14) (n := 37) (v := 0) (p := 8) dX12_led_5 rfl rfl (by decide) (by decide) (Or.inr rfl) (hO.trans ht0) rfl ?_
  refine e_if_eq (t := 59) (p := 11) dX12_led_8 (by decide) rfl rfl (fun hc8 => ?_) (fun hc8 => absurd (by decide) hc8)
  refine e_aload_n (p := 60) dX12_led_59 rfl rfl ?_
  refine e_iconst (v := 1) (p := 61) dX12_led_60 (by decide) rfl ?_
  refine e_putI (c := 11) (j := 0) (n := 37)  (p := 64) dX12_led_61 rfl rfl (by decide) (by decide) rfl rfl rfl ?_
  refine e_iconst (v := 0) (p := 65) dX12_led_64 (by decide) rfl ?_
  exact e_iretE dX12_led_65 rfl rfl (by decide) ⟨rfl, rfl⟩
