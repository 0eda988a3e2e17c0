/-! The class: what refuses; the plain public questions. -/
def rfS (x : Int32) : Int32 := if x = 0 then 0 else 1
theorem rf_ne {x : Int32} (h : ¬ x = 0) : ¬ rfS x = 0 := by
  unfold rfS
  rw [if_neg h]
  decide
theorem rf01 {x : Int32} : rfS x = 0 ∨ rfS x = 1 := if01 z0 z1
def freeB (s : Nat → Int32) : Int32 := if s 2 ≤ 0 then 0 else 1
theorem fr_eq {D : oD} {s : Nat → Int32} (hW : WF D) (h : WFs D s) : frS (s 2) = -2 ↔ s 2 ≤ 0 := by
  obtain ⟨-, -, ⟨f, h1, e⟩, -⟩ := h
  have := hW.c.2.2.2.1
  rw [e]
  unfold frS
  cases f with
  | zero => decide
  | succ f =>
    rw [if_neg (nI_ne0 (by omega) (by omega)), nI_pred]
    exact ⟨fun z => absurd z (nI_m2 (by omega)), fun z => absurd z (nI_nle (by omega) (by omega))⟩
def toS (D : oD) : Int32 := if tol D = 0 then 1 else 0
theorem can_raw {D : oD} {a : Nat} {b : Int32} : (if (reachS D a >>> (b &&& 31)) &&& 1 = 0 then 0 else 1) = canS D a b := rfl
set_option maxRecDepth 10000 in
theorem x_refused {I : Nat → Nat → Int32} {J : Nat → Nat → Int64} {F : Nat → Nat → Option Nat} {nc ns : Nat} {v : Int32} : Ev 0 mX11_refused 0 [.ref 0, .int v] [] ((SH, nc, ns), I, J, F) (some (.int (rfS v))) ((SH, nc, ns), hp_u I 0 10 v, J, F) := by
  refine e_aload_n (p := 1) dX11_refused_0 rfl rfl ?_
  refine e_iload_n (p := 2) dX11_refused_1 rfl rfl ?_
  refine e_putI (c := 10) (j := 10) (n := 13)  (p := 5) dX11_refused_2 rfl rfl (by decide) (by decide) rfl rfl rfl ?_
  refine e_iload_n (p := 6) dX11_refused_5 rfl rfl ?_
  refine e_if_eq (t := 13) (p := 9) dX11_refused_6 (by decide) rfl rfl (fun hc6 => ?_) (fun hc6 => ?_)
  · skip
    refine e_iconst (v := 0) (p := 14) dX11_refused_13 (by decide) rfl ?_
    exact e_iretE dX11_refused_14 rfl (by decide) (by decide) ⟨by simp only [rfS, hc6, ↓reduceIte], rfl⟩
  · skip
    refine e_iconst (v := 1) (p := 10) dX11_refused_9 (by decide) rfl ?_
    refine e_goto (p := 14) dX11_refused_10 (by decide) rfl ?_
    exact e_iretE dX11_refused_14 rfl (by decide) (by decide) ⟨by simp only [rfS, hc6, ↓reduceIte], rfl⟩
set_option maxRecDepth 10000 in
theorem x_either {I : Nat → Nat → Int32} {J : Nat → Nat → Int64} {F : Nat → Nat → Option Nat} {nc ns : Nat} {a b : Int32} : Ev 0 mX11_either 0 [.int a, .int b] [] ((SH, nc, ns), I, J, F) (some (.int (eiS a b))) ((SH, nc, ns), I, J, F) := by
  refine e_iload_n (p := 1) dX11_either_0 rfl rfl ?_
  refine e_if_eq (t := 8) (p := 4) dX11_either_1 (by decide) rfl rfl (fun hc1 => ?_) (fun hc1 => ?_)
  · skip
    refine e_iload_n (p := 9) dX11_either_8 rfl rfl ?_
    exact e_iretE dX11_either_9 rfl rfl (by decide) ⟨by simp only [eiS, hc1, ↓reduceIte], rfl⟩
  · skip
    refine e_iload_n (p := 5) dX11_either_4 rfl rfl ?_
    refine e_goto (p := 9) dX11_either_5 (by decide) rfl ?_
    exact e_iretE dX11_either_9 rfl rfl (by decide) ⟨by simp only [eiS, hc1, ↓reduceIte], rfl⟩
set_option maxRecDepth 10000 in
theorem x_ofNumber {I : Nat → Nat → Int32} {J : Nat → Nat → Int64} {F : Nat → Nat → Option Nat} {nc ns : Nat} {v a b : Int32} : Ev 0 mX11_ofNumber 0 [.int v, .int a, .int b] [] ((SH, nc, ns), I, J, F) (some (.int (nuS v a b))) ((SH, nc, ns), I, J, F) := by
  refine e_iload_n (p := 1) dX11_ofNumber_0 rfl rfl ?_
  refine e_iload_n (p := 2) dX11_ofNumber_1 rfl rfl ?_
  refine e_icmp_lt (t := 14) (p := 5) dX11_ofNumber_2 (by decide) rfl rfl (fun hc2 => ?_) (fun hc2 => ?_)
  · skip
    refine e_iconst (v := 2) (p := 15) dX11_ofNumber_14 (by decide) rfl ?_
    exact e_iretE dX11_ofNumber_15 rfl rfl (by decide) ⟨by simp only [nuS, hc2, (Int32.not_le.mpr hc2), ↓reduceIte], rfl⟩
  · skip
    refine e_iload_n (p := 6) dX11_ofNumber_5 rfl rfl ?_
    refine e_iload_n (p := 7) dX11_ofNumber_6 rfl rfl ?_
    refine e_icmp_gt (t := 14) (p := 10) dX11_ofNumber_7 (by decide) rfl rfl (fun hc7 => ?_) (fun hc7 => ?_)
    · skip
      refine e_iconst (v := 2) (p := 15) dX11_ofNumber_14 (by decide) rfl ?_
      exact e_iretE dX11_ofNumber_15 rfl rfl (by decide) ⟨by simp only [nuS, hc2, hc7, (Int32.not_lt.mp hc2), (Int32.not_le.mpr hc7), ↓reduceIte], rfl⟩
    · skip
      refine e_iconst (v := 0) (p := 11) dX11_ofNumber_10 (by decide) rfl ?_
      refine e_goto (p := 15) dX11_ofNumber_11 (by decide) rfl ?_
      exact e_iretE dX11_ofNumber_15 rfl rfl (by decide) ⟨by simp only [nuS, hc2, hc7, (Int32.not_lt.mp hc2), (Int32.not_lt.mp hc7), ↓reduceIte], rfl⟩
set_option maxRecDepth 10000 in
theorem x_ofIndex {I : Nat → Nat → Int32} {J : Nat → Nat → Int64} {F : Nat → Nat → Option Nat} {nc ns : Nat} {v : Int32} {n : Nat} : Ev 0 mX11_ofIndex 0 [.int v, .int (nI n)] [] ((SH, nc, ns), I, J, F) (some (.int (ixS v n))) ((SH, nc, ns), I, J, F) := by
  refine e_iload_n (p := 1) dX11_ofIndex_0 rfl rfl ?_
  refine e_if_lt (t := 13) (p := 4) dX11_ofIndex_1 (by decide) rfl rfl (fun hc1 => ?_) (fun hc1 => ?_)
  · skip
    refine e_iconst (v := 1) (p := 14) dX11_ofIndex_13 (by decide) rfl ?_
    exact e_iretE dX11_ofIndex_14 rfl rfl (by decide) ⟨by simp only [ixS, hc1, (Int32.not_le.mpr hc1), ↓reduceIte], rfl⟩
  · skip
    refine e_iload_n (p := 5) dX11_ofIndex_4 rfl rfl ?_
    refine e_iload_n (p := 6) dX11_ofIndex_5 rfl rfl ?_
    refine e_icmp_ge (t := 13) (p := 9) dX11_ofIndex_6 (by decide) rfl rfl (fun hc6 => ?_) (fun hc6 => ?_)
    · skip
      refine e_iconst (v := 1) (p := 14) dX11_ofIndex_13 (by decide) rfl ?_
      exact e_iretE dX11_ofIndex_14 rfl rfl (by decide) ⟨by simp only [ixS, hc1, hc6, (Int32.not_lt.mp hc1), (Int32.not_lt.mpr hc6), ↓reduceIte], rfl⟩
    · skip
      refine e_iconst (v := 0) (p := 10) dX11_ofIndex_9 (by decide) rfl ?_
      refine e_goto (p := 14) dX11_ofIndex_10 (by decide) rfl ?_
      exact e_iretE dX11_ofIndex_14 rfl rfl (by decide) ⟨by simp only [ixS, hc1, hc6, (Int32.not_lt.mp hc1), (Int32.not_le.mp hc6), ↓reduceIte], rfl⟩
set_option maxRecDepth 10000 in
theorem x_ofOath {I : Nat → Nat → Int32} {J : Nat → Nat → Int64} {F : Nat → Nat → Option Nat} {nc ns : Nat} {o : Nat} {D : oD} {s : Nat → Int32} (ho : isO o) (hF : RFok F) (hoF : F 0 2 = some o) (hC : oC I o D) (hW : WF D) (hm : mo I 42 s) (hS : WFs D s)  : Ev 1 mX11_ofOath 0 [.ref 0] [] ((SH, nc, ns), I, J, F) (some (.int (toS D))) ((SH, nc, ns), I, J, F) := by
  refine e_aload_n (p := 1) dX11_ofOath_0 rfl rfl ?_
  refine e_getR (c := 10) (j := 2) (n := 13) (b := o) (p := 4) dX11_ofOath_1 rfl rfl (by decide) (by decide) rfl hoF rfl ?_
  refine e_callV_int (p := 7) (k' := 0) (a := [.ref o]) (rr := []) dX11_ofOath_4 rfl rfl rfl rfl (rc_of rfl (s_o ho) (l_o0 ho) ⟨rfl, by decide⟩) (Nat.le_of_ble_eq_true rfl) (Nat.le_of_ble_eq_true rfl) (by decide) (Ev.i (w := tol D) rfl (x_isTold ho hF hC hW.c )) (Or.inl rfl) rfl ?_
  refine e_if_eq (t := 14) (p := 10) dX11_ofOath_7 (by decide) rfl rfl (fun hc7 => ?_) (fun hc7 => ?_)
  · skip
    refine e_iconst (v := 1) (p := 15) dX11_ofOath_14 (by decide) rfl ?_
    exact e_iretE dX11_ofOath_15 rfl rfl (by decide) ⟨by simp only [toS, hc7, ↓reduceIte], rfl⟩
  · skip
    refine e_iconst (v := 0) (p := 11) dX11_ofOath_10 (by decide) rfl ?_
    refine e_goto (p := 15) dX11_ofOath_11 (by decide) rfl ?_
    exact e_iretE dX11_ofOath_15 rfl rfl (by decide) ⟨by simp only [toS, hc7, ↓reduceIte], rfl⟩
set_option maxRecDepth 10000 in
theorem x_ofHarbour {I : Nat → Nat → Int32} {J : Nat → Nat → Int64} {F : Nat → Nat → Option Nat} {nc ns : Nat} {o : Nat} {D : oD} {s : Nat → Int32} (ho : isO o) (hF : RFok F) (hoF : F 0 2 = some o) (hC : oC I o D) (hW : WF D) (hm : mo I 42 s) (hS : WFs D s) {v : Int32} : Ev 1 mX11_ofHarbour 0 [.ref 0, .int v] [] ((SH, nc, ns), I, J, F) (some (.int (ixS v (dN D 0)))) ((SH, nc, ns), I, J, F) := by
  have hD := hW.c
  have hH := hW.h
  have hT := hW.t
  have bt := hT.2
  obtain ⟨b0, b1, b2, b3, b4, b5, b6⟩ := hD.2
  refine e_iload_n (p := 1) dX11_ofHarbour_0 rfl rfl ?_
  refine e_aload_n (p := 2) dX11_ofHarbour_1 rfl rfl ?_
  refine e_getR (c := 10) (j := 2) (n := 13) (b := o) (p := 5) dX11_ofHarbour_2 rfl rfl (by decide) (by decide) rfl hoF rfl ?_
  refine e_getR (c := 4) (j := 2) (n := 18) (b := (o + 1)) (p := 8) dX11_ofHarbour_5 rfl (s_o ho) (l_o0 ho) (by decide) rfl (r_o2 hF ho) rfl ?_
  refine e_iconst (v := 0) (p := 9) dX11_ofHarbour_8 (by decide) rfl ?_
  refine f_iald (n := 7) (i := 0) (v := nI (dN D 0)) (p := 10) dX11_ofHarbour_9 (s_o1 ho) (l_o ho 1 (by decide)) (by decide) (by decide) (cN hC hD (by decide)) rfl ?_
  refine e_callS_int (p := 13) (k' := 0) (a := [.int v, .int (nI (dN D 0))]) (rr := []) dX11_ofHarbour_10 rfl rfl rfl rfl rfl (rc_st rfl) (Nat.le_of_ble_eq_true rfl) (Nat.le_of_ble_eq_true rfl) (by decide) (x_ofIndex (n := (dN D 0))) (Or.inl rfl) rfl ?_
  exact e_iretE dX11_ofHarbour_13 rfl rfl (by decide) ⟨rfl, rfl⟩
set_option maxRecDepth 10000 in
theorem x_ofWoman {I : Nat → Nat → Int32} {J : Nat → Nat → Int64} {F : Nat → Nat → Option Nat} {nc ns : Nat} {o : Nat} {D : oD} {s : Nat → Int32} (ho : isO o) (hF : RFok F) (hoF : F 0 2 = some o) (hC : oC I o D) (hW : WF D) (hm : mo I 42 s) (hS : WFs D s) {v : Int32} : Ev 1 mX11_ofWoman 0 [.ref 0, .int v] [] ((SH, nc, ns), I, J, F) (some (.int (ixS v (dN D 2)))) ((SH, nc, ns), I, J, F) := by
  have hD := hW.c
  have hH := hW.h
  have hT := hW.t
  have bt := hT.2
  obtain ⟨b0, b1, b2, b3, b4, b5, b6⟩ := hD.2
  refine e_iload_n (p := 1) dX11_ofWoman_0 rfl rfl ?_
  refine e_aload_n (p := 2) dX11_ofWoman_1 rfl rfl ?_
  refine e_getR (c := 10) (j := 2) (n := 13) (b := o) (p := 5) dX11_ofWoman_2 rfl rfl (by decide) (by decide) rfl hoF rfl ?_
  refine e_getR (c := 4) (j := 2) (n := 18) (b := (o + 1)) (p := 8) dX11_ofWoman_5 rfl (s_o ho) (l_o0 ho) (by decide) rfl (r_o2 hF ho) rfl ?_
  refine e_iconst (v := 2) (p := 9) dX11_ofWoman_8 (by decide) rfl ?_
  refine f_iald (n := 7) (i := 2) (v := nI (dN D 2)) (p := 10) dX11_ofWoman_9 (s_o1 ho) (l_o ho 1 (by decide)) (by decide) (by decide) (cN hC hD (by decide)) rfl ?_
  refine e_callS_int (p := 13) (k' := 0) (a := [.int v, .int (nI (dN D 2))]) (rr := []) dX11_ofWoman_10 rfl rfl rfl rfl rfl (rc_st rfl) (Nat.le_of_ble_eq_true rfl) (Nat.le_of_ble_eq_true rfl) (by decide) (x_ofIndex (n := (dN D 2))) (Or.inl rfl) rfl ?_
  exact e_iretE dX11_ofWoman_13 rfl rfl (by decide) ⟨rfl, rfl⟩
set_option maxRecDepth 10000 in
theorem x_ofHand {I : Nat → Nat → Int32} {J : Nat → Nat → Int64} {F : Nat → Nat → Option Nat} {nc ns : Nat} {o : Nat} {D : oD} {s : Nat → Int32} (ho : isO o) (hF : RFok F) (hoF : F 0 2 = some o) (hC : oC I o D) (hW : WF D) (hm : mo I 42 s) (hS : WFs D s) {v : Int32} : Ev 1 mX11_ofHand 0 [.ref 0, .int v] [] ((SH, nc, ns), I, J, F) (some (.int (ixS v (dN D 5)))) ((SH, nc, ns), I, J, F) := by
  have hD := hW.c
  have hH := hW.h
  have hT := hW.t
  have bt := hT.2
  obtain ⟨b0, b1, b2, b3, b4, b5, b6⟩ := hD.2
  refine e_iload_n (p := 1) dX11_ofHand_0 rfl rfl ?_
  refine e_aload_n (p := 2) dX11_ofHand_1 rfl rfl ?_
  refine e_getR (c := 10) (j := 2) (n := 13) (b := o) (p := 5) dX11_ofHand_2 rfl rfl (by decide) (by decide) rfl hoF rfl ?_
  refine e_getR (c := 4) (j := 2) (n := 18) (b := (o + 1)) (p := 8) dX11_ofHand_5 rfl (s_o ho) (l_o0 ho) (by decide) rfl (r_o2 hF ho) rfl ?_
  refine e_iconst (v := 5) (p := 9) dX11_ofHand_8 (by decide) rfl ?_
  refine f_iald (n := 7) (i := 5) (v := nI (dN D 5)) (p := 10) dX11_ofHand_9 (s_o1 ho) (l_o ho 1 (by decide)) (by decide) (by decide) (cN hC hD (by decide)) rfl ?_
  refine e_callS_int (p := 13) (k' := 0) (a := [.int v, .int (nI (dN D 5))]) (rr := []) dX11_ofHand_10 rfl rfl rfl rfl rfl (rc_st rfl) (Nat.le_of_ble_eq_true rfl) (Nat.le_of_ble_eq_true rfl) (by decide) (x_ofIndex (n := (dN D 5))) (Or.inl rfl) rfl ?_
  exact e_iretE dX11_ofHand_13 rfl rfl (by decide) ⟨rfl, rfl⟩
theorem to_1 {D : oD} (h : tol D = 1) : toS D = 0 := by
  unfold toS
  rw [h]
  decide
set_option maxRecDepth 10000 in
theorem x_ofLanding {I : Nat → Nat → Int32} {J : Nat → Nat → Int64} {F : Nat → Nat → Option Nat} {nc ns : Nat} {v : Int32} : Ev 1 mX11_ofLanding 0 [.ref 0, .int v] [] ((SH, nc, ns), I, J, F) (some (.int (nuS v 0 30))) ((SH, nc, ns), I, J, F) := by
  refine e_iload_n (p := 1) dX11_ofLanding_0 rfl rfl ?_
  refine e_iconst (v := 0) (p := 2) dX11_ofLanding_1 (by decide) rfl ?_
  refine e_bipush (v := 30) (p := 4) dX11_ofLanding_2 (by decide) rfl ?_
  refine e_callS_int (p := 7) (k' := 0) (a := [.int v, .int 0, .int 30]) (rr := []) dX11_ofLanding_4 rfl rfl rfl rfl rfl (rc_st rfl) (Nat.le_of_ble_eq_true rfl) (Nat.le_of_ble_eq_true rfl) (by decide) x_ofNumber (Or.inl rfl) rfl ?_
  exact e_iretE dX11_ofLanding_7 rfl rfl (by decide) ⟨rfl, rfl⟩
set_option maxRecDepth 10000 in
theorem x_isFreed {I : Nat → Nat → Int32} {J : Nat → Nat → Int64} {F : Nat → Nat → Option Nat} {nc ns : Nat} {t : Nat} {D : oD} {s : Nat → Int32} (ht : isM t) (hmt : mo I t s) (hW : WF D) (hS : WFs D s)  : Ev 0 mX3_isFreed 0 [.ref t] [] ((SH, nc, ns), I, J, F) (some (.int (freeB s))) ((SH, nc, ns), I, J, F) := by
  refine e_aload_n (p := 1) dX3_isFreed_0 rfl rfl ?_
  refine f_getI (c := 3) (j := 4) (n := 6) (v := frS (s 2)) (p := 4) dX3_isFreed_1 rfl ht.1 ht.2 (by decide) (Or.inl rfl) hmt.2.2.2.2.1 rfl ?_
  refine e_bipush (v := -2) (p := 6) dX3_isFreed_4 (by decide) rfl ?_
  refine e_icmp_eq (t := 13) (p := 9) dX3_isFreed_6 (by decide) rfl rfl (fun hc6 => ?_) (fun hc6 => ?_)
  · skip
    refine e_iconst (v := 0) (p := 14) dX3_isFreed_13 (by decide) rfl ?_
    exact e_iretE dX3_isFreed_14 rfl (by decide) (by decide) ⟨by rw [fr_eq hW hS] at hc6; simp only [freeB, hc6, ↓reduceIte], rfl⟩
  · skip
    refine e_iconst (v := 1) (p := 10) dX3_isFreed_9 (by decide) rfl ?_
    refine e_goto (p := 14) dX3_isFreed_10 (by decide) rfl ?_
    exact e_iretE dX3_isFreed_14 rfl (by decide) (by decide) ⟨by rw [fr_eq hW hS] at hc6; simp only [freeB, hc6, ↓reduceIte], rfl⟩
def triB (s : Nat → Int32) (w : Int32) : Int32 := if (s 4 >>> (w &&& 31)) &&& 1 = 0 then 0 else 1
theorem tri01 {s : Nat → Int32} {w : Int32} : triB s w = 0 ∨ triB s w = 1 := if01 z0 z1
theorem free01 {s : Nat → Int32} : freeB s = 0 ∨ freeB s = 1 := if01 z0 z1
set_option maxRecDepth 10000 in
theorem x_hasTried {I : Nat → Nat → Int32} {J : Nat → Nat → Int64} {F : Nat → Nat → Option Nat} {nc ns : Nat} {t : Nat} {s : Nat → Int32} (ht : isM t) (hmt : mo I t s) {w : Int32} : Ev 0 mX3_hasTried 0 [.ref t, .int w] [] ((SH, nc, ns), I, J, F) (some (.int (triB s w))) ((SH, nc, ns), I, J, F) := by
  refine e_aload_n (p := 1) dX3_hasTried_0 rfl rfl ?_
  refine f_getI (c := 3) (j := 2) (n := 6) (v := s 4) (p := 4) dX3_hasTried_1 rfl ht.1 ht.2 (by decide) (Or.inl rfl) hmt.2.2.1 rfl ?_
  refine e_iload_n (p := 5) dX3_hasTried_4 rfl rfl ?_
  refine e_ishr (p := 6) dX3_hasTried_5 rfl ?_
  refine e_iconst (v := 1) (p := 7) dX3_hasTried_6 (by decide) rfl ?_
  refine e_iand (p := 8) dX3_hasTried_7 rfl ?_
  refine e_if_eq (t := 15) (p := 11) dX3_hasTried_8 (by decide) rfl rfl (fun hc8 => ?_) (fun hc8 => ?_)
  · skip
    refine e_iconst (v := 0) (p := 16) dX3_hasTried_15 (by decide) rfl ?_
    exact e_iretE dX3_hasTried_16 rfl (by decide) (by decide) ⟨by simp only [triB, hc8, ↓reduceIte], rfl⟩
  · skip
    refine e_iconst (v := 1) (p := 12) dX3_hasTried_11 (by decide) rfl ?_
    refine e_goto (p := 16) dX3_hasTried_12 (by decide) rfl ?_
    exact e_iretE dX3_hasTried_16 rfl (by decide) (by decide) ⟨by simp only [triB, hc8, ↓reduceIte], rfl⟩
def frD (s : Nat → Int32) : Int32 := if s 2 ≤ 0 then 0 else 5
set_option maxRecDepth 10000 in
theorem x_ofFreedom {I : Nat → Nat → Int32} {J : Nat → Nat → Int64} {F : Nat → Nat → Option Nat} {nc ns : Nat} {o : Nat} {D : oD} {s : Nat → Int32} (ho : isO o) (hF : RFok F) (hoF : F 0 2 = some o) (hC : oC I o D) (hW : WF D) (hm : mo I 42 s) (hS : WFs D s)  : Ev 1 mX11_ofFreedom 0 [.ref 0] [] ((SH, nc, ns), I, J, F) (some (.int (frD s))) ((SH, nc, ns), I, J, F) := by
  refine e_aload_n (p := 1) dX11_ofFreedom_0 rfl rfl ?_
  refine e_getR (c := 10) (j := 3) (n := 13) (b := 42) (p := 4) dX11_ofFreedom_1 rfl rfl (by decide) (by decide) rfl (r_0_3 hF) rfl ?_
  refine e_callV_int (p := 7) (k' := 0) (a := [.ref 42]) (rr := []) dX11_ofFreedom_4 rfl rfl rfl rfl (rc_of rfl rfl (by decide) ⟨rfl, by decide⟩) (Nat.le_of_ble_eq_true rfl) (Nat.le_of_ble_eq_true rfl) (by decide) (x_isFreed (t := 42) ⟨rfl, by decide⟩ hm hW hS) (Or.inl rfl) rfl ?_
  refine e_if_eq (t := 14) (p := 10) dX11_ofFreedom_7 (by decide) rfl rfl (fun hc7 => ?_) (fun hc7 => ?_)
  · skip
    refine e_iconst (v := 0) (p := 15) dX11_ofFreedom_14 (by decide) rfl ?_
    exact e_iretE dX11_ofFreedom_15 rfl rfl (by decide) ⟨by unfold freeB at hc7; unfold frD; by_cases c : s 2 ≤ 0 <;> simp [c] at hc7 ⊢, rfl⟩
  · skip
    refine e_iconst (v := 5) (p := 11) dX11_ofFreedom_10 (by decide) rfl ?_
    refine e_goto (p := 15) dX11_ofFreedom_11 (by decide) rfl ?_
    exact e_iretE dX11_ofFreedom_15 rfl rfl (by decide) ⟨by unfold freeB at hc7; unfold frD; by_cases c : s 2 ≤ 0 <;> simp [c] at hc7 ⊢, rfl⟩
set_option maxRecDepth 10000 in
theorem x_ofPlan {I : Nat → Nat → Int32} {J : Nat → Nat → Int64} {F : Nat → Nat → Option Nat} {nc ns : Nat} {o : Nat} {D : oD} {s : Nat → Int32} (ho : isO o) (hF : RFok F) (hoF : F 0 2 = some o) (hC : oC I o D) (hW : WF D) (hm : mo I 42 s) (hS : WFs D s) {v a b : Int32} : Ev 2 mX11_ofPlan 0 [.ref 0, .int v, .int a, .int b] [] ((SH, nc, ns), I, J, F) (some (.int (eiS (toS D) (eiS (nuS v a b) (frD s))))) ((SH, nc, ns), I, J, F) := by
  refine e_aload_n (p := 1) dX11_ofPlan_0 rfl rfl ?_
  refine e_callV_int (p := 4) (k' := 1) (a := [.ref 0]) (rr := []) dX11_ofPlan_1 rfl rfl rfl rfl (rc_of rfl rfl (by decide) ⟨rfl, by decide⟩) (Nat.le_of_ble_eq_true rfl) (Nat.le_of_ble_eq_true rfl) (by decide) (x_ofOath ho hF hoF hC hW hm hS) (Or.inl rfl) rfl ?_
  refine e_iload_n (p := 5) dX11_ofPlan_4 rfl rfl ?_
  refine e_iload_n (p := 6) dX11_ofPlan_5 rfl rfl ?_
  refine e_iload_n (p := 7) dX11_ofPlan_6 rfl rfl ?_
  refine e_callS_int (p := 10) (k' := 0) (a := [.int v, .int a, .int b]) (rr := [.int (toS D)]) dX11_ofPlan_7 rfl rfl rfl rfl rfl (rc_st rfl) (Nat.le_of_ble_eq_true rfl) (Nat.le_of_ble_eq_true rfl) (by decide) x_ofNumber (Or.inl rfl) rfl ?_
  refine e_aload_n (p := 11) dX11_ofPlan_10 rfl rfl ?_
  refine e_callV_int (p := 14) (k' := 1) (a := [.ref 0]) (rr := [.int (nuS v a b), .int (toS D)]) dX11_ofPlan_11 rfl rfl rfl rfl (rc_of rfl rfl (by decide) ⟨rfl, by decide⟩) (Nat.le_of_ble_eq_true rfl) (Nat.le_of_ble_eq_true rfl) (by decide) (x_ofFreedom ho hF hoF hC hW hm hS) (Or.inl rfl) rfl ?_
  refine e_callS_int (p := 17) (k' := 0) (a := [.int (nuS v a b), .int (frD s)]) (rr := [.int (toS D)]) dX11_ofPlan_14 rfl rfl rfl rfl rfl (rc_st rfl) (Nat.le_of_ble_eq_true rfl) (Nat.le_of_ble_eq_true rfl) (by decide) x_either (Or.inl rfl) rfl ?_
  refine e_callS_int (p := 20) (k' := 0) (a := [.int (toS D), .int (eiS (nuS v a b) (frD s))]) (rr := []) dX11_ofPlan_17 rfl rfl rfl rfl rfl (rc_st rfl) (Nat.le_of_ble_eq_true rfl) (Nat.le_of_ble_eq_true rfl) (by decide) x_either (Or.inl rfl) rfl ?_
  exact e_iretE dX11_ofPlan_20 rfl rfl (by decide) ⟨rfl, rfl⟩
set_option maxRecDepth 10000 in
theorem x_ofPlan_ok {I : Nat → Nat → Int32} {J : Nat → Nat → Int64} {F : Nat → Nat → Option Nat} {nc ns : Nat} {o : Nat} {D : oD} {s : Nat → Int32} (ho : isO o) (hF : RFok F) (hoF : F 0 2 = some o) (hC : oC I o D) (hW : WF D) (hm : mo I 42 s) (hS : WFs D s) (ht1 : tol D = 1) (hfr : s 2 ≤ 0) {v a b : Int32} (hn : nuS v a b = 0)  : Ev 2 mX11_ofPlan 0 [.ref 0, .int v, .int a, .int b] [] ((SH, nc, ns), I, J, F) (some (.int 0)) ((SH, nc, ns), I, J, F) := by
  refine e_aload_n (p := 1) dX11_ofPlan_0 rfl rfl ?_
  refine e_callV_int (p := 4) (k' := 1) (a := [.ref 0]) (rr := []) dX11_ofPlan_1 rfl rfl rfl rfl (rc_of rfl rfl (by decide) ⟨rfl, by decide⟩) (Nat.le_of_ble_eq_true rfl) (Nat.le_of_ble_eq_true rfl) (by decide) (Ev.i (to_1 ht1) (x_ofOath ho hF hoF hC hW hm hS)) (Or.inl rfl) rfl ?_
  refine e_iload_n (p := 5) dX11_ofPlan_4 rfl rfl ?_
  refine e_iload_n (p := 6) dX11_ofPlan_5 rfl rfl ?_
  refine e_iload_n (p := 7) dX11_ofPlan_6 rfl rfl ?_
  refine e_callS_int (p := 10) (k' := 0) (a := [.int v, .int a, .int b]) (rr := [.int 0]) dX11_ofPlan_7 rfl rfl rfl rfl rfl (rc_st rfl) (Nat.le_of_ble_eq_true rfl) (Nat.le_of_ble_eq_true rfl) (by decide) (Ev.i hn (x_ofNumber)) (Or.inl rfl) rfl ?_
  refine e_aload_n (p := 11) dX11_ofPlan_10 rfl rfl ?_
  refine e_callV_int (p := 14) (k' := 1) (a := [.ref 0]) (rr := [.int 0, .int 0]) dX11_ofPlan_11 rfl rfl rfl rfl (rc_of rfl rfl (by decide) ⟨rfl, by decide⟩) (Nat.le_of_ble_eq_true rfl) (Nat.le_of_ble_eq_true rfl) (by decide) (Ev.i (if_pos hfr) (x_ofFreedom ho hF hoF hC hW hm hS)) (Or.inl rfl) rfl ?_
  refine e_callS_int (p := 17) (k' := 0) (a := [.int 0, .int 0]) (rr := [.int 0]) dX11_ofPlan_14 rfl rfl rfl rfl rfl (rc_st rfl) (Nat.le_of_ble_eq_true rfl) (Nat.le_of_ble_eq_true rfl) (by decide) (Ev.i (show eiS 0 0 = 0 by decide) (x_either)) (Or.inl rfl) rfl ?_
  refine e_callS_int (p := 20) (k' := 0) (a := [.int 0, .int 0]) (rr := []) dX11_ofPlan_17 rfl rfl rfl rfl rfl (rc_st rfl) (Nat.le_of_ble_eq_true rfl) (Nat.le_of_ble_eq_true rfl) (by decide) (Ev.i (show eiS 0 0 = 0 by decide) (x_either)) (Or.inl rfl) rfl ?_
  exact e_iretE dX11_ofPlan_20 rfl rfl (by decide) ⟨rfl, rfl⟩
set_option maxRecDepth 10000 in
theorem x_ofLife {I : Nat → Nat → Int32} {J : Nat → Nat → Int64} {F : Nat → Nat → Option Nat} {nc ns : Nat} {o : Nat} {D : oD} {s : Nat → Int32} (ho : isO o) (hF : RFok F) (hoF : F 0 2 = some o) (hC : oC I o D) (hW : WF D) (hm : mo I 42 s) (hS : WFs D s) {v n a b : Int32} : Ev 2 mX11_ofLife 0 [.ref 0, .int v, .int n, .int a, .int b] [] ((SH, nc, ns), I, J, F) (some (.int (eiS (toS D) (eiS (nuS v 0 65536) (eiS (nuS n a b) (frD s)))))) ((SH, nc, ns), I, J, F) := by
  refine e_aload_n (p := 1) dX11_ofLife_0 rfl rfl ?_
  refine e_callV_int (p := 4) (k' := 1) (a := [.ref 0]) (rr := []) dX11_ofLife_1 rfl rfl rfl rfl (rc_of rfl rfl (by decide) ⟨rfl, by decide⟩) (Nat.le_of_ble_eq_true rfl) (Nat.le_of_ble_eq_true rfl) (by decide) (x_ofOath ho hF hoF hC hW hm hS) (Or.inl rfl) rfl ?_
  refine e_iload_n (p := 5) dX11_ofLife_4 rfl rfl ?_
  refine e_iconst (v := 0) (p := 6) dX11_ofLife_5 (by decide) rfl ?_
  refine e_ldcwI (p := 9) dX11_ofLife_6 rfl rfl ?_
  refine e_callS_int (p := 12) (k' := 0) (a := [.int v, .int 0, .int 65536]) (rr := [.int (toS D)]) dX11_ofLife_9 rfl rfl rfl rfl rfl (rc_st rfl) (Nat.le_of_ble_eq_true rfl) (Nat.le_of_ble_eq_true rfl) (by decide) x_ofNumber (Or.inl rfl) rfl ?_
  refine e_iload_n (p := 13) dX11_ofLife_12 rfl rfl ?_
  refine e_iload_n (p := 14) dX11_ofLife_13 rfl rfl ?_
  refine e_iload (p := 16) dX11_ofLife_14 rfl rfl ?_
  refine e_callS_int (p := 19) (k' := 0) (a := [.int n, .int a, .int b]) (rr := [.int (nuS v 0 65536), .int (toS D)]) dX11_ofLife_16 rfl rfl rfl rfl rfl (rc_st rfl) (Nat.le_of_ble_eq_true rfl) (Nat.le_of_ble_eq_true rfl) (by decide) x_ofNumber (Or.inl rfl) rfl ?_
  refine e_aload_n (p := 20) dX11_ofLife_19 rfl rfl ?_
  refine e_callV_int (p := 23) (k' := 1) (a := [.ref 0]) (rr := [.int (nuS n a b), .int (nuS v 0 65536), .int (toS D)]) dX11_ofLife_20 rfl rfl rfl rfl (rc_of rfl rfl (by decide) ⟨rfl, by decide⟩) (Nat.le_of_ble_eq_true rfl) (Nat.le_of_ble_eq_true rfl) (by decide) (x_ofFreedom ho hF hoF hC hW hm hS) (Or.inl rfl) rfl ?_
  refine e_callS_int (p := 26) (k' := 0) (a := [.int (nuS n a b), .int (frD s)]) (rr := [.int (nuS v 0 65536), .int (toS D)]) dX11_ofLife_23 rfl rfl rfl rfl rfl (rc_st rfl) (Nat.le_of_ble_eq_true rfl) (Nat.le_of_ble_eq_true rfl) (by decide) x_either (Or.inl rfl) rfl ?_
  refine e_callS_int (p := 29) (k' := 0) (a := [.int (nuS v 0 65536), .int (eiS (nuS n a b) (frD s))]) (rr := [.int (toS D)]) dX11_ofLife_26 rfl rfl rfl rfl rfl (rc_st rfl) (Nat.le_of_ble_eq_true rfl) (Nat.le_of_ble_eq_true rfl) (by decide) x_either (Or.inl rfl) rfl ?_
  refine e_callS_int (p := 32) (k' := 0) (a := [.int (toS D), .int (eiS (nuS v 0 65536) (eiS (nuS n a b) (frD s)))]) (rr := []) dX11_ofLife_29 rfl rfl rfl rfl rfl (rc_st rfl) (Nat.le_of_ble_eq_true rfl) (Nat.le_of_ble_eq_true rfl) (by decide) x_either (Or.inl rfl) rfl ?_
  exact e_iretE dX11_ofLife_32 rfl rfl (by decide) ⟨rfl, rfl⟩
set_option maxRecDepth 10000 in
theorem x_ofLife_ok {I : Nat → Nat → Int32} {J : Nat → Nat → Int64} {F : Nat → Nat → Option Nat} {nc ns : Nat} {o : Nat} {D : oD} {s : Nat → Int32} (ho : isO o) (hF : RFok F) (hoF : F 0 2 = some o) (hC : oC I o D) (hW : WF D) (hm : mo I 42 s) (hS : WFs D s) (ht1 : tol D = 1) (hfr : s 2 ≤ 0) {v n a b : Int32} (hv : nuS v 0 65536 = 0) (hn : nuS n a b = 0)  : Ev 2 mX11_ofLife 0 [.ref 0, .int v, .int n, .int a, .int b] [] ((SH, nc, ns), I, J, F) (some (.int 0)) ((SH, nc, ns), I, J, F) := by
  refine e_aload_n (p := 1) dX11_ofLife_0 rfl rfl ?_
  refine e_callV_int (p := 4) (k' := 1) (a := [.ref 0]) (rr := []) dX11_ofLife_1 rfl rfl rfl rfl (rc_of rfl rfl (by decide) ⟨rfl, by decide⟩) (Nat.le_of_ble_eq_true rfl) (Nat.le_of_ble_eq_true rfl) (by decide) (Ev.i (to_1 ht1) (x_ofOath ho hF hoF hC hW hm hS)) (Or.inl rfl) rfl ?_
  refine e_iload_n (p := 5) dX11_ofLife_4 rfl rfl ?_
  refine e_iconst (v := 0) (p := 6) dX11_ofLife_5 (by decide) rfl ?_
  refine e_ldcwI (p := 9) dX11_ofLife_6 rfl rfl ?_
  refine e_callS_int (p := 12) (k' := 0) (a := [.int v, .int 0, .int 65536]) (rr := [.int 0]) dX11_ofLife_9 rfl rfl rfl rfl rfl (rc_st rfl) (Nat.le_of_ble_eq_true rfl) (Nat.le_of_ble_eq_true rfl) (by decide) (Ev.i hv (x_ofNumber)) (Or.inl rfl) rfl ?_
  refine e_iload_n (p := 13) dX11_ofLife_12 rfl rfl ?_
  refine e_iload_n (p := 14) dX11_ofLife_13 rfl rfl ?_
  refine e_iload (p := 16) dX11_ofLife_14 rfl rfl ?_
  refine e_callS_int (p := 19) (k' := 0) (a := [.int n, .int a, .int b]) (rr := [.int 0, .int 0]) dX11_ofLife_16 rfl rfl rfl rfl rfl (rc_st rfl) (Nat.le_of_ble_eq_true rfl) (Nat.le_of_ble_eq_true rfl) (by decide) (Ev.i hn (x_ofNumber)) (Or.inl rfl) rfl ?_
  refine e_aload_n (p := 20) dX11_ofLife_19 rfl rfl ?_
  refine e_callV_int (p := 23) (k' := 1) (a := [.ref 0]) (rr := [.int 0, .int 0, .int 0]) dX11_ofLife_20 rfl rfl rfl rfl (rc_of rfl rfl (by decide) ⟨rfl, by decide⟩) (Nat.le_of_ble_eq_true rfl) (Nat.le_of_ble_eq_true rfl) (by decide) (Ev.i (if_pos hfr) (x_ofFreedom ho hF hoF hC hW hm hS)) (Or.inl rfl) rfl ?_
  refine e_callS_int (p := 26) (k' := 0) (a := [.int 0, .int 0]) (rr := [.int 0, .int 0]) dX11_ofLife_23 rfl rfl rfl rfl rfl (rc_st rfl) (Nat.le_of_ble_eq_true rfl) (Nat.le_of_ble_eq_true rfl) (by decide) (Ev.i (show eiS 0 0 = 0 by decide) (x_either)) (Or.inl rfl) rfl ?_
  refine e_callS_int (p := 29) (k' := 0) (a := [.int 0, .int 0]) (rr := [.int 0]) dX11_ofLife_26 rfl rfl rfl rfl rfl (rc_st rfl) (Nat.le_of_ble_eq_true rfl) (Nat.le_of_ble_eq_true rfl) (by decide) (Ev.i (show eiS 0 0 = 0 by decide) (x_either)) (Or.inl rfl) rfl ?_
  refine e_callS_int (p := 32) (k' := 0) (a := [.int 0, .int 0]) (rr := []) dX11_ofLife_29 rfl rfl rfl rfl rfl (rc_st rfl) (Nat.le_of_ble_eq_true rfl) (Nat.le_of_ble_eq_true rfl) (by decide) (Ev.i (show eiS 0 0 = 0 by decide) (x_either)) (Or.inl rfl) rfl ?_
  exact e_iretE dX11_ofLife_32 rfl rfl (by decide) ⟨rfl, rfl⟩
def neS (D : oD) : Int32 := if nI (dN D 6) = 0 then 6 else 0
set_option maxRecDepth 10000 in
theorem x_ofNearly {I : Nat → Nat → Int32} {J : Nat → Nat → Int64} {F : Nat → Nat → Option Nat} {nc ns : Nat} {o : Nat} {D : oD} {s : Nat → Int32} (ho : isO o) (hF : RFok F) (hoF : F 0 2 = some o) (hC : oC I o D) (hW : WF D) (hm : mo I 42 s) (hS : WFs D s)  : Ev 2 mX11_ofNearly 0 [.ref 0] [] ((SH, nc, ns), I, J, F) (some (.int (eiS (toS D) (neS D)))) ((SH, nc, ns), I, J, F) := by
  have hD := hW.c
  have hH := hW.h
  have hT := hW.t
  have bt := hT.2
  obtain ⟨b0, b1, b2, b3, b4, b5, b6⟩ := hD.2
  refine e_aload_n (p := 1) dX11_ofNearly_0 rfl rfl ?_
  refine e_callV_int (p := 4) (k' := 1) (a := [.ref 0]) (rr := []) dX11_ofNearly_1 rfl rfl rfl rfl (rc_of rfl rfl (by decide) ⟨rfl, by decide⟩) (Nat.le_of_ble_eq_true rfl) (Nat.le_of_ble_eq_true rfl) (by decide) (x_ofOath ho hF hoF hC hW hm hS) (Or.inl rfl) rfl ?_
  refine e_aload_n (p := 5) dX11_ofNearly_4 rfl rfl ?_
  refine e_getR (c := 10) (j := 2) (n := 13) (b := o) (p := 8) dX11_ofNearly_5 rfl rfl (by decide) (by decide) rfl hoF rfl ?_
  refine e_getR (c := 4) (j := 2) (n := 18) (b := (o + 1)) (p := 11) dX11_ofNearly_8 rfl (s_o ho) (l_o0 ho) (by decide) rfl (r_o2 hF ho) rfl ?_
  refine e_bipush (v := 6) (p := 13) dX11_ofNearly_11 (by decide) rfl ?_
  refine f_iald (n := 7) (i := 6) (v := nI (dN D 6)) (p := 14) dX11_ofNearly_13 (s_o1 ho) (l_o ho 1 (by decide)) (by decide) (by decide) (cN hC hD (by decide)) rfl ?_
  refine e_if_ne (t := 22) (p := 17) dX11_ofNearly_14 (by decide) rfl rfl (fun hc14 => ?_) (fun hc14 => ?_)
  · skip
    refine e_iconst (v := 0) (p := 23) dX11_ofNearly_22 (by decide) rfl ?_
    refine e_callS_int (p := 26) (k' := 0) (a := [.int (toS D), .int 0]) (rr := []) dX11_ofNearly_23 rfl rfl rfl rfl rfl (rc_st rfl) (Nat.le_of_ble_eq_true rfl) (Nat.le_of_ble_eq_true rfl) (by decide) x_either (Or.inl rfl) rfl ?_
    exact e_iretE dX11_ofNearly_26 rfl rfl (by decide) ⟨by simp only [neS, hc14, ↓reduceIte], rfl⟩
  · skip
    refine e_bipush (v := 6) (p := 19) dX11_ofNearly_17 (by decide) rfl ?_
    refine e_goto (p := 23) dX11_ofNearly_19 (by decide) rfl ?_
    refine e_callS_int (p := 26) (k' := 0) (a := [.int (toS D), .int 6]) (rr := []) dX11_ofNearly_23 rfl rfl rfl rfl rfl (rc_st rfl) (Nat.le_of_ble_eq_true rfl) (Nat.le_of_ble_eq_true rfl) (by decide) x_either (Or.inl rfl) rfl ?_
    exact e_iretE dX11_ofNearly_26 rfl rfl (by decide) ⟨by simp only [neS, hc14, ↓reduceIte], rfl⟩
set_option maxRecDepth 10000 in
theorem x_ofNearly_ok {I : Nat → Nat → Int32} {J : Nat → Nat → Int64} {F : Nat → Nat → Option Nat} {nc ns : Nat} {o : Nat} {D : oD} {s : Nat → Int32} (ho : isO o) (hF : RFok F) (hoF : F 0 2 = some o) (hC : oC I o D) (hW : WF D) (hm : mo I 42 s) (hS : WFs D s) (ht1 : tol D = 1) (hn : 0 < dN D 6)  : Ev 2 mX11_ofNearly 0 [.ref 0] [] ((SH, nc, ns), I, J, F) (some (.int 0)) ((SH, nc, ns), I, J, F) := by
  have hD := hW.c
  have hH := hW.h
  have hT := hW.t
  have bt := hT.2
  obtain ⟨b0, b1, b2, b3, b4, b5, b6⟩ := hD.2
  refine e_aload_n (p := 1) dX11_ofNearly_0 rfl rfl ?_
  refine e_callV_int (p := 4) (k' := 1) (a := [.ref 0]) (rr := []) dX11_ofNearly_1 rfl rfl rfl rfl (rc_of rfl rfl (by decide) ⟨rfl, by decide⟩) (Nat.le_of_ble_eq_true rfl) (Nat.le_of_ble_eq_true rfl) (by decide) (Ev.i (to_1 ht1) (x_ofOath ho hF hoF hC hW hm hS)) (Or.inl rfl) rfl ?_
  refine e_aload_n (p := 5) dX11_ofNearly_4 rfl rfl ?_
  refine e_getR (c := 10) (j := 2) (n := 13) (b := o) (p := 8) dX11_ofNearly_5 rfl rfl (by decide) (by decide) rfl hoF rfl ?_
  refine e_getR (c := 4) (j := 2) (n := 18) (b := (o + 1)) (p := 11) dX11_ofNearly_8 rfl (s_o ho) (l_o0 ho) (by decide) rfl (r_o2 hF ho) rfl ?_
  refine e_bipush (v := 6) (p := 13) dX11_ofNearly_11 (by decide) rfl ?_
  refine f_iald (n := 7) (i := 6) (v := nI (dN D 6)) (p := 14) dX11_ofNearly_13 (s_o1 ho) (l_o ho 1 (by decide)) (by decide) (by decide) (cN hC hD (by decide)) rfl ?_
  refine e_if_ne (t := 22) (p := 17) dX11_ofNearly_14 (by decide) rfl rfl (fun hc14 => ?_) (fun hc14 => absurd hc14 (nI_ne0 hn (by omega)))
  refine e_iconst (v := 0) (p := 23) dX11_ofNearly_22 (by decide) rfl ?_
  refine e_callS_int (p := 26) (k' := 0) (a := [.int 0, .int 0]) (rr := []) dX11_ofNearly_23 rfl rfl rfl rfl rfl (rc_st rfl) (Nat.le_of_ble_eq_true rfl) (Nat.le_of_ble_eq_true rfl) (by decide) (Ev.i (show eiS 0 0 = 0 by decide) (x_either)) (Or.inl rfl) rfl ?_
  exact e_iretE dX11_ofNearly_26 rfl rfl (by decide) ⟨rfl, rfl⟩
