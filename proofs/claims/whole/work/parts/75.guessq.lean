/-! Guesses: seek and what is asked of it. -/
def near0 (D : oD) (f : Nat → Int32) : gA := nrS D (dN D 6) (dN D 6) 0 0 (fun _ => 0) (0, f, fun _ _ => 0)
set_option maxRecDepth 10000 in
theorem x_zero_i {J : Nat → Nat → Int64} {F : Nat → Nat → Option Nat} {nc ns : Nat} {I0 : Nat → Nat → Int32} (hF : RFok F) {k : Nat} (hk : k < 4)  {o : Nat} {Q : Option Value → hp_H → Prop} : ∀ (m j : Nat) (I : Nat → Nat → Int32), j + m = 8 → (Fr 89 93 I0 I ∧ (∀ i, i < k → ∀ w, w < 8 → I (89 + i) w = 0) ∧ ∀ w, w < j → I (89 + k) w = 0) → (∀ (I : Nat → Nat → Int32), (Fr 89 93 I0 I ∧ (∀ i, i < k → ∀ w, w < 8 → I (89 + i) w = 0) ∧ ∀ w, w < 8 → I (89 + k) w = 0) → Ew 6 mX1_seek 61 [.ref 85, .ref o, .int (nI k), .int (nI 8)] [] ((SH, nc, ns), I, J, F) Q) → Ew 6 mX1_seek 37 [.ref 85, .ref o, .int (nI k), .int (nI j)] [] ((SH, nc, ns), I, J, F) Q
  | 0, j, I, hj, hI, hq => by
    obtain rfl : j = 8 := by omega
    refine we_iload_n (p := 38) dX1_seek_37 rfl rfl ?_
    refine we_statR (p := 41) dX1_seek_38 rfl rfl ?_
    refine we_iconst (v := 2) (p := 42) dX1_seek_41 (by decide) rfl ?_
    refine wf_room (v := 8) (p := 43) dX1_seek_42 (by decide) (by decide) rfl ?_
    refine we_icmp_ge (t := 61) (p := 46) dX1_seek_43 (by decide) rfl rfl (fun hc43 => ?_) (fun hc43 => absurd (nI_le (a := 8) (b := 8) (by omega) (by omega)) hc43)
    exact hq _  hI
  | m + 1, j, I, hj, hI, hq => by
    refine we_iload_n (p := 38) dX1_seek_37 rfl rfl ?_
    refine we_statR (p := 41) dX1_seek_38 rfl rfl ?_
    refine we_iconst (v := 2) (p := 42) dX1_seek_41 (by decide) rfl ?_
    refine wf_room (v := 8) (p := 43) dX1_seek_42 (by decide) (by decide) rfl ?_
    refine we_icmp_ge (t := 61) (p := 46) dX1_seek_43 (by decide) rfl rfl (fun hc43 => absurd hc43 (nI_ge (a := j) (b := 8) (by omega) (by omega))) (fun hc43 => ?_)
    refine we_aload_n (p := 47) dX1_seek_46 rfl rfl ?_
    refine we_getR (c := 1) (j := 2) (n := 5) (b := 88) (p := 50) dX1_seek_47 rfl rfl (by decide) (by decide) rfl (r_85_2 hF) rfl ?_
    refine we_iload_n (p := 51) dX1_seek_50 rfl rfl ?_
    refine wf_aald (c := 16) (n := 4) (b := (89 + k)) (i := k) (p := 52) dX1_seek_51 rfl (by decide) (in_nJ (by omega) (by decide)) (nI_cl (by omega)) (fm_88 hF (by omega)) rfl ?_
    refine we_iload_n (p := 53) dX1_seek_52 rfl rfl ?_
    refine we_iconst (v := 0) (p := 54) dX1_seek_53 (by decide) rfl ?_
    refine wf_iast (n := 8) (i := j) (p := 55) dX1_seek_54 (sf_88 (by omega)) (by omega) (in_nJ (by omega) (by decide)) (nI_cl (by omega)) rfl ?_
    refine we_iinc (ls1 := [.ref 85, .ref o, .int (nI k), .int ((nI j) + 1)]) (p := 58) dX1_seek_55 rfl rfl rfl ?_
    refine we_goto (p := 37) dX1_seek_58 (by decide) rfl ?_
    rw [nI_1]
    refine x_zero_i hF hk m (j + 1) _  (by omega) ?_ hq
    refine ⟨hI.1.u (by omega) (by omega), fun i hi w hw => ?_, fun w hw => ?_⟩
    · rw [hu_ne (by omega)]
      exact hI.2.1 i hi w hw
    · rw [hu_if]
      split
      · rfl
      · exact hI.2.2 w (by omega)
set_option maxRecDepth 10000 in
theorem x_zero {J : Nat → Nat → Int64} {F : Nat → Nat → Option Nat} {nc ns : Nat} {I0 : Nat → Nat → Int32} (hF : RFok F)  {o : Nat} {Q : Option Value → hp_H → Prop} : ∀ (m j : Nat) (I : Nat → Nat → Int32) (z : Value), j + m = 4 → (Fr 89 93 I0 I ∧ (∀ i, i < j → ∀ w, w < 8 → I (89 + i) w = 0)) → (∀ (I : Nat → Nat → Int32) (z : Value), (Fr 89 93 I0 I ∧ (∀ i, i < 4 → ∀ w, w < 8 → I (89 + i) w = 0)) → Ew 6 mX1_seek 67 [.ref 85, .ref o, .int (nI 4), z] [] ((SH, nc, ns), I, J, F) Q) → Ew 6 mX1_seek 26 [.ref 85, .ref o, .int (nI j), z] [] ((SH, nc, ns), I, J, F) Q
  | 0, j, I, z, hj, hI, hq => by
    obtain rfl : j = 4 := by omega
    refine we_iload_n (p := 27) dX1_seek_26 rfl rfl ?_
    refine we_aload_n (p := 28) dX1_seek_27 rfl rfl ?_
    refine we_getR (c := 1) (j := 0) (n := 5) (b := 86) (p := 31) dX1_seek_28 rfl rfl (by decide) (by decide) rfl (r_85_0 hF) rfl ?_
    refine we_alen (c := 12) (n := 4) (v := 4) (p := 32) dX1_seek_31 rfl (by decide) (by decide) rfl rfl ?_
    refine we_icmp_ge (t := 67) (p := 35) dX1_seek_32 (by decide) rfl rfl (fun hc32 => ?_) (fun hc32 => absurd (nI_le (a := 4) (b := 4) (by omega) (by omega)) hc32)
    exact hq _ _ hI
  | m + 1, j, I, z, hj, hI, hq => by
    refine we_iload_n (p := 27) dX1_seek_26 rfl rfl ?_
    refine we_aload_n (p := 28) dX1_seek_27 rfl rfl ?_
    refine we_getR (c := 1) (j := 0) (n := 5) (b := 86) (p := 31) dX1_seek_28 rfl rfl (by decide) (by decide) rfl (r_85_0 hF) rfl ?_
    refine we_alen (c := 12) (n := 4) (v := 4) (p := 32) dX1_seek_31 rfl (by decide) (by decide) rfl rfl ?_
    refine we_icmp_ge (t := 67) (p := 35) dX1_seek_32 (by decide) rfl rfl (fun hc32 => absurd hc32 (nI_ge (a := j) (b := 4) (by omega) (by omega))) (fun hc32 => ?_)
    refine we_iconst (v := 0) (p := 36) dX1_seek_35 (by decide) rfl ?_
    refine we_istore_n (ls1 := [.ref 85, .ref o, .int (nI j), .int 0]) (p := 37) dX1_seek_36 rfl rfl ?_
    refine x_zero_i hF (by omega) 8 0 I (by omega) ⟨hI.1, hI.2, fun w hw => absurd hw (by omega)⟩ (fun I1 hI1 => ?_)
    refine we_iinc (ls1 := [.ref 85, .ref o, .int ((nI j) + 1), .int (nI 8)]) (p := 64) dX1_seek_61 rfl rfl rfl ?_
    refine we_goto (p := 26) dX1_seek_64 (by decide) rfl ?_
    rw [nI_1]
    refine x_zero hF m (j + 1) _ _ (by omega) ?_ hq
    refine ⟨hI1.1, fun i hi w hw => ?_⟩
    by_cases c : i = j
    · subst c
      exact hI1.2.2 w hw
    · exact hI1.2.1 i (by omega) w hw
set_option maxRecDepth 10000 in
theorem x_seek {I : Nat → Nat → Int32} {J : Nat → Nat → Int64} {F : Nat → Nat → Option Nat} {nc ns : Nat} {o : Nat} {D : oD} (ho : isO o) (hF : RFok F) (hC : oC I o D) (hW : WF D) (hn : 0 < dN D 6) {f : Nat → Int32} (hf : I 87 = f) : Ew 6 mX1_seek 0 [.ref 85, .ref o, .null, .null] [] ((SH, nc, ns), I, J, F) (Ret nc ns none (fun I' J' F' => Fr 85 93 I I' ∧ J' = J ∧ F' = F ∧ gI (dN D 6) I' (near0 D f))) := by
  have hD := hW.c
  have hH := hW.h
  have hT := hW.t
  have bt := hT.2
  obtain ⟨b0, b1, b2, b3, b4, b5, b6⟩ := hD.2
  subst hf
  refine we_aload_n (p := 1) dX1_seek_0 rfl rfl ?_
  refine we_aload_n (p := 2) dX1_seek_1 rfl rfl ?_
  refine we_getR (c := 4) (j := 2) (n := 18) (b := (o + 1)) (p := 5) dX1_seek_2 rfl (s_o ho) (l_o0 ho) (by decide) rfl (r_o2 hF ho) rfl ?_
  refine we_bipush (v := 6) (p := 7) dX1_seek_5 (by decide) rfl ?_
  refine wf_iald (n := 7) (i := 6) (v := nI (dN D 6)) (p := 8) dX1_seek_7 (s_o1 ho) (l_o ho 1 (by decide)) (by decide) (by decide) (cN hC hD (by decide)) rfl ?_
  refine we_aload_n (p := 9) dX1_seek_8 rfl rfl ?_
  refine we_getR (c := 1) (j := 0) (n := 5) (b := 86) (p := 12) dX1_seek_9 rfl rfl (by decide) (by decide) rfl (r_85_0 hF) rfl ?_
  refine we_alen (c := 12) (n := 4) (v := 4) (p := 13) dX1_seek_12 rfl (by decide) (by decide) rfl rfl ?_
  refine we_min (p := 16) dX1_seek_13 rfl (Nat.le_of_ble_eq_true rfl) rfl ?_
  rw [if_neg (show ¬ (4 : Int32) < nI (dN D 6) from nI_nlt (a := 4) (b := dN D 6) b6 (by omega))]
  refine we_putI (c := 1) (j := 4) (n := 5)  (p := 19) dX1_seek_16 rfl rfl (by decide) (by decide) rfl rfl rfl ?_
  refine we_aload_n (p := 20) dX1_seek_19 rfl rfl ?_
  refine we_iconst (v := 0) (p := 21) dX1_seek_20 (by decide) rfl ?_
  refine we_putI (c := 1) (j := 3) (n := 5)  (p := 24) dX1_seek_21 rfl rfl (by decide) (by decide) rfl rfl rfl ?_
  refine we_iconst (v := 0) (p := 25) dX1_seek_24 (by decide) rfl ?_
  refine we_istore_n (ls1 := [.ref 85, .ref o, .int 0, .null]) (p := 26) dX1_seek_25 rfl rfl ?_
  refine x_zero hF 4 0 (hp_u (hp_u I 85 4 (nI (dN D 6))) 85 3 0) _ (by omega) ⟨Fr.rf, fun i hi => absurd hi (by omega)⟩ (fun I1 z hI1 => ?_)
  have h85 : I1 85 4 = nI (dN D 6) := (congrFun (hI1.1 85 (by omega)) 4).trans ((hu_nj (by decide)).trans hu_eq)
  have hfr : Fr 85 93 I I1 := ((Fr.rf.u (by omega) (by omega)).u (by omega) (by omega)).tr (hI1.1.wd (by omega) (by omega))
  have hg1 : gI (dN D 6) I1 (0, I 87, fun _ _ => 0) := ⟨(congrFun (hI1.1 85 (by omega)) 3).trans hu_eq, h85, fun i hi => congrFun ((hI1.1 87 (by omega)).trans ((hu_ne (by omega)).trans (hu_ne (by omega)))) i, hI1.2⟩
  refine we_aload_n (p := 68) dX1_seek_67 rfl rfl ?_
  refine wf_getI (c := 1) (j := 4) (n := 5) (v := nI (dN D 6)) (p := 71) dX1_seek_68 rfl rfl (by decide) (by decide) (Or.inl rfl) h85 rfl ?_
  refine we_if_le (t := 81) (p := 74) dX1_seek_71 (by decide) rfl rfl (fun hc71 => absurd hc71 (nI_nle hn (by omega))) (fun hc71 => ?_)
  refine we_aload_n (p := 75) dX1_seek_74 rfl rfl ?_
  refine we_aload_n (p := 76) dX1_seek_75 rfl rfl ?_
  refine we_iconst (v := 0) (p := 77) dX1_seek_76 (by decide) rfl ?_
  refine we_iconst (v := 0) (p := 78) dX1_seek_77 (by decide) rfl ?_
  obtain ⟨_, _, e2, rfl, I2, J2, F2, rfl, ⟨f2, rfl, rfl, g2, r2⟩⟩ := x_extend ho hF hW (dN D 6) 0 0 0 (fun _ => 0) (0, I 87, fun _ _ => 0) I1 rfl (by omega) (oC_fr hC ho (fun k h1 h2 => hfr k (by omega))) hg1 (fun i hi => absurd hi (by omega)) (fun i hi => absurd hi (by omega))
  refine we_callV_v (p := 81) (k' := (dN D 6 + 1)) (a := [.ref 85, .ref o, .int 0, .int 0]) (rr := []) dX1_seek_78 rfl rfl rfl rfl (rc_of rfl rfl (by decide) ⟨rfl, by decide⟩) (Nat.le_of_ble_eq_true rfl) (Nat.le_of_ble_eq_true rfl) (by omega) e2 (Or.inl rfl) rfl ?_
  exact wv_ret dX1_seek_81 rfl (⟨rfl, _, _, _, rfl, hfr.tr f2, rfl, rfl, g2⟩)
def posF (t : Nat → Nat → Int32) (i w : Nat) (a : Int32) : Int32 := if t i w ≤ 0 then a else a ||| bit w
def cerG (t : Nat → Nat → Int32) (n : Int32) (i : Nat) : Nat → Nat → Int32
  | _, 0 => -2
  | j, m + 1 => if n ≤ 0 then cerG t n i (j + 1) m else if t i j = n then nI j else cerG t n i (j + 1) m
def lefF (t : Nat → Nat → Int32) (i w : Nat) (a : Int32) : Int32 := if a < t i w then t i w else a
def lefS (t : Nat → Nat → Int32) (W i : Nat) : Int32 := gN (lefF t i) 0 W 0
def bqF (t : Nat → Nat → Int32) (W i b : Nat) : Nat := if lefS t W b ≤ lefS t W i then b else i
def bqS (t : Nat → Nat → Int32) (W N : Nat) : Nat := gN (bqF t W) 1 (N - 1) 0
theorem bq_lt {t : Nat → Nat → Int32} {W N : Nat} (h : 0 < N) : bqS t W N < N := by
  unfold bqS
  refine gN_inv (fun x => x < N) _ _ _ h ?_
  intro k a h1 h2 ha
  unfold bqF
  split
  · exact ha
  · omega
set_option maxRecDepth 10000 in
theorem x_possible_L {I : Nat → Nat → Int32} {J : Nat → Nat → Int64} {F : Nat → Nat → Option Nat} {nc ns : Nat} {N : Nat} {a : gA} {i : Nat} (hF : RFok F) (hg : gI N I a) (hi : i < 4)  : ∀ (m j : Nat) (acc : Int32), j + m = 8 → Ev 0 mX1_possible 4 [.ref 85, .int (nI i), .int acc, .int (nI j)] [] ((SH, nc, ns), I, J, F) (some (.int (gN (posF a.2.2 i) j m acc))) ((SH, nc, ns), I, J, F)
  | 0, j, acc, hj => by
    refine e_iload_n (p := 5) dX1_possible_4 rfl rfl ?_
    refine e_statR (p := 8) dX1_possible_5 rfl rfl ?_
    refine e_iconst (v := 2) (p := 9) dX1_possible_8 (by decide) rfl ?_
    refine f_room (v := 8) (p := 10) dX1_possible_9 (by decide) (by decide) rfl ?_
    refine e_icmp_ge (t := 36) (p := 13) dX1_possible_10 (by decide) rfl rfl (fun hc10 => ?_) (fun hc10 => absurd (nI_le (a := 8) (b := j) (by omega) (by omega)) hc10)
    refine e_iload_n (p := 37) dX1_possible_36 rfl rfl ?_
    exact e_iretE dX1_possible_37 rfl rfl (by decide) ⟨rfl, rfl⟩
  | m + 1, j, acc, hj => by
    refine e_iload_n (p := 5) dX1_possible_4 rfl rfl ?_
    refine e_statR (p := 8) dX1_possible_5 rfl rfl ?_
    refine e_iconst (v := 2) (p := 9) dX1_possible_8 (by decide) rfl ?_
    refine f_room (v := 8) (p := 10) dX1_possible_9 (by decide) (by decide) rfl ?_
    refine e_icmp_ge (t := 36) (p := 13) dX1_possible_10 (by decide) rfl rfl (fun hc10 => absurd hc10 (nI_ge (a := j) (b := 8) (by omega) (by omega))) (fun hc10 => ?_)
    refine e_aload_n (p := 14) dX1_possible_13 rfl rfl ?_
    refine e_getR (c := 1) (j := 2) (n := 5) (b := 88) (p := 17) dX1_possible_14 rfl rfl (by decide) (by decide) rfl (r_85_2 hF) rfl ?_
    refine e_iload_n (p := 18) dX1_possible_17 rfl rfl ?_
    refine f_aald (c := 16) (n := 4) (b := (89 + i)) (i := i) (p := 19) dX1_possible_18 rfl (by decide) (in_nJ (by omega) (by decide)) (nI_cl (by omega)) (fm_88 hF (by omega)) rfl ?_
    refine e_iload_n (p := 20) dX1_possible_19 rfl rfl ?_
    refine f_iald (n := 8) (i := j) (v := a.2.2 i j) (p := 21) dX1_possible_20 (sf_88 (by omega)) (by omega) (in_nJ (by omega) (by decide)) (nI_cl (by omega)) (hg.2.2.2 i (by omega) j (by omega)) rfl ?_
    refine e_if_le (t := 30) (p := 24) dX1_possible_21 (by decide) rfl rfl (fun hc21 => ?_) (fun hc21 => ?_)
    · skip
      refine e_iinc (ls1 := [.ref 85, .int (nI i), .int acc, .int ((nI j) + 1)]) (p := 33) dX1_possible_30 rfl rfl rfl ?_
      refine e_goto (p := 4) dX1_possible_33 (by decide) rfl ?_
      rw [nI_1]
      exact Ev.res (by simp only [gN_s, posF, hc21, (Int32.not_lt.mpr hc21), bit, Int32.or_zero, Int32.add_zero, ↓reduceIte]) (x_possible_L hF hg hi m (j + 1) acc  (by omega))
    · skip
      refine e_iload_n (p := 25) dX1_possible_24 rfl rfl ?_
      refine e_iconst (v := 1) (p := 26) dX1_possible_25 (by decide) rfl ?_
      refine e_iload_n (p := 27) dX1_possible_26 rfl rfl ?_
      refine e_ishl (p := 28) dX1_possible_27 rfl ?_
      refine e_ior (p := 29) dX1_possible_28 rfl ?_
      refine e_istore_n (ls1 := [.ref 85, .int (nI i), .int (acc ||| (1 <<< ((nI j) &&& 31))), .int (nI j)]) (p := 30) dX1_possible_29 rfl rfl ?_
      refine e_iinc (ls1 := [.ref 85, .int (nI i), .int (acc ||| (1 <<< ((nI j) &&& 31))), .int ((nI j) + 1)]) (p := 33) dX1_possible_30 rfl rfl rfl ?_
      refine e_goto (p := 4) dX1_possible_33 (by decide) rfl ?_
      rw [nI_1]
      exact Ev.res (by simp only [gN_s, posF, hc21, (Int32.not_le.mp hc21), bit, Int32.or_zero, Int32.add_zero, ↓reduceIte]) (x_possible_L hF hg hi m (j + 1) (acc ||| (1 <<< ((nI j) &&& 31)))  (by omega))
set_option maxRecDepth 10000 in
theorem x_possible {I : Nat → Nat → Int32} {J : Nat → Nat → Int64} {F : Nat → Nat → Option Nat} {nc ns : Nat} {N : Nat} {a : gA} {i : Nat} (hF : RFok F) (hg : gI N I a) (hi : i < 4)  : Ev 0 mX1_possible 0 [.ref 85, .int (nI i), .null, .null] [] ((SH, nc, ns), I, J, F) (some (.int (gN (posF a.2.2 i) 0 8 0))) ((SH, nc, ns), I, J, F) := by
  refine e_iconst (v := 0) (p := 1) dX1_possible_0 (by decide) rfl ?_
  refine e_istore_n (ls1 := [.ref 85, .int (nI i), .int 0, .null]) (p := 2) dX1_possible_1 rfl rfl ?_
  refine e_iconst (v := 0) (p := 3) dX1_possible_2 (by decide) rfl ?_
  refine e_istore_n (ls1 := [.ref 85, .int (nI i), .int 0, .int 0]) (p := 4) dX1_possible_3 rfl rfl ?_
  exact x_possible_L hF hg hi _ 0 _ (by omega)
set_option maxRecDepth 10000 in
theorem x_certain_L {I : Nat → Nat → Int32} {J : Nat → Nat → Int64} {F : Nat → Nat → Option Nat} {nc ns : Nat} {N : Nat} {a : gA} {i : Nat} (hF : RFok F) (hg : gI N I a) (hi : i < 4)  : ∀ (m j : Nat) , j + m = 8 → Ev 0 mX1_certain 2 [.ref 85, .int (nI i), .int (nI j)] [] ((SH, nc, ns), I, J, F) (some (.int (cerG a.2.2 a.1 i j m))) ((SH, nc, ns), I, J, F)
  | 0, j, hj => by
    refine e_iload_n (p := 3) dX1_certain_2 rfl rfl ?_
    refine e_statR (p := 6) dX1_certain_3 rfl rfl ?_
    refine e_iconst (v := 2) (p := 7) dX1_certain_6 (by decide) rfl ?_
    refine f_room (v := 8) (p := 8) dX1_certain_7 (by decide) (by decide) rfl ?_
    refine e_icmp_ge (t := 41) (p := 11) dX1_certain_8 (by decide) rfl rfl (fun hc8 => ?_) (fun hc8 => absurd (nI_le (a := 8) (b := j) (by omega) (by omega)) hc8)
    refine e_bipush (v := -2) (p := 43) dX1_certain_41 (by decide) rfl ?_
    exact e_iretE dX1_certain_43 rfl rfl (by decide) ⟨rfl, rfl⟩
  | m + 1, j, hj => by
    refine e_iload_n (p := 3) dX1_certain_2 rfl rfl ?_
    refine e_statR (p := 6) dX1_certain_3 rfl rfl ?_
    refine e_iconst (v := 2) (p := 7) dX1_certain_6 (by decide) rfl ?_
    refine f_room (v := 8) (p := 8) dX1_certain_7 (by decide) (by decide) rfl ?_
    refine e_icmp_ge (t := 41) (p := 11) dX1_certain_8 (by decide) rfl rfl (fun hc8 => absurd hc8 (nI_ge (a := j) (b := 8) (by omega) (by omega))) (fun hc8 => ?_)
    refine e_aload_n (p := 12) dX1_certain_11 rfl rfl ?_
    refine f_getI (c := 1) (j := 3) (n := 5) (v := a.1) (p := 15) dX1_certain_12 rfl rfl (by decide) (by decide) (Or.inl rfl) hg.1 rfl ?_
    refine e_if_le (t := 35) (p := 18) dX1_certain_15 (by decide) rfl rfl (fun hc15 => ?_) (fun hc15 => ?_)
    · skip
      refine e_iinc (ls1 := [.ref 85, .int (nI i), .int ((nI j) + 1)]) (p := 38) dX1_certain_35 rfl rfl rfl ?_
      refine e_goto (p := 2) dX1_certain_38 (by decide) rfl ?_
      rw [nI_1]
      exact Ev.res (by simp only [cerG, hc15, ↓reduceIte]) (x_certain_L hF hg hi m (j + 1) (by omega))
    · skip
      refine e_aload_n (p := 19) dX1_certain_18 rfl rfl ?_
      refine e_getR (c := 1) (j := 2) (n := 5) (b := 88) (p := 22) dX1_certain_19 rfl rfl (by decide) (by decide) rfl (r_85_2 hF) rfl ?_
      refine e_iload_n (p := 23) dX1_certain_22 rfl rfl ?_
      refine f_aald (c := 16) (n := 4) (b := (89 + i)) (i := i) (p := 24) dX1_certain_23 rfl (by decide) (in_nJ (by omega) (by decide)) (nI_cl (by omega)) (fm_88 hF (by omega)) rfl ?_
      refine e_iload_n (p := 25) dX1_certain_24 rfl rfl ?_
      refine f_iald (n := 8) (i := j) (v := a.2.2 i j) (p := 26) dX1_certain_25 (sf_88 (by omega)) (by omega) (in_nJ (by omega) (by decide)) (nI_cl (by omega)) (hg.2.2.2 i (by omega) j (by omega)) rfl ?_
      refine e_aload_n (p := 27) dX1_certain_26 rfl rfl ?_
      refine f_getI (c := 1) (j := 3) (n := 5) (v := a.1) (p := 30) dX1_certain_27 rfl rfl (by decide) (by decide) (Or.inl rfl) hg.1 rfl ?_
      refine e_icmp_ne (t := 35) (p := 33) dX1_certain_30 (by decide) rfl rfl (fun hc30 => ?_) (fun hc30 => ?_)
      · skip
        refine e_iinc (ls1 := [.ref 85, .int (nI i), .int ((nI j) + 1)]) (p := 38) dX1_certain_35 rfl rfl rfl ?_
        refine e_goto (p := 2) dX1_certain_38 (by decide) rfl ?_
        rw [nI_1]
        exact Ev.res (by simp only [cerG, hc15, hc30, ↓reduceIte]) (x_certain_L hF hg hi m (j + 1) (by omega))
      · skip
        refine e_iload_n (p := 34) dX1_certain_33 rfl rfl ?_
        exact e_iretE dX1_certain_34 rfl rfl (by decide) ⟨by simp only [cerG, hc15, hc30, ↓reduceIte], rfl⟩
set_option maxRecDepth 10000 in
theorem x_certain {I : Nat → Nat → Int32} {J : Nat → Nat → Int64} {F : Nat → Nat → Option Nat} {nc ns : Nat} {N : Nat} {a : gA} {i : Nat} (hF : RFok F) (hg : gI N I a) (hi : i < 4)  : Ev 0 mX1_certain 0 [.ref 85, .int (nI i), .null] [] ((SH, nc, ns), I, J, F) (some (.int (cerG a.2.2 a.1 i 0 8))) ((SH, nc, ns), I, J, F) := by
  refine e_iconst (v := 0) (p := 1) dX1_certain_0 (by decide) rfl ?_
  refine e_istore_n (ls1 := [.ref 85, .int (nI i), .int 0]) (p := 2) dX1_certain_1 rfl rfl ?_
  exact x_certain_L hF hg hi _ 0 (by omega)
set_option maxRecDepth 10000 in
theorem x_leftAtMost_L {I : Nat → Nat → Int32} {J : Nat → Nat → Int64} {F : Nat → Nat → Option Nat} {nc ns : Nat} {N : Nat} {a : gA} {i : Nat} (hF : RFok F) (hg : gI N I a) (hi : i < 4)  : ∀ (m j : Nat) (acc : Int32), j + m = 8 → Ev 0 mX1_leftAtMost 4 [.ref 85, .int (nI i), .int acc, .int (nI j)] [] ((SH, nc, ns), I, J, F) (some (.int (gN (lefF a.2.2 i) j m acc))) ((SH, nc, ns), I, J, F)
  | 0, j, acc, hj => by
    refine e_iload_n (p := 5) dX1_leftAtMost_4 rfl rfl ?_
    refine e_statR (p := 8) dX1_leftAtMost_5 rfl rfl ?_
    refine e_iconst (v := 2) (p := 9) dX1_leftAtMost_8 (by decide) rfl ?_
    refine f_room (v := 8) (p := 10) dX1_leftAtMost_9 (by decide) (by decide) rfl ?_
    refine e_icmp_ge (t := 32) (p := 13) dX1_leftAtMost_10 (by decide) rfl rfl (fun hc10 => ?_) (fun hc10 => absurd (nI_le (a := 8) (b := j) (by omega) (by omega)) hc10)
    refine e_iload_n (p := 33) dX1_leftAtMost_32 rfl rfl ?_
    exact e_iretE dX1_leftAtMost_33 rfl rfl (by decide) ⟨rfl, rfl⟩
  | m + 1, j, acc, hj => by
    refine e_iload_n (p := 5) dX1_leftAtMost_4 rfl rfl ?_
    refine e_statR (p := 8) dX1_leftAtMost_5 rfl rfl ?_
    refine e_iconst (v := 2) (p := 9) dX1_leftAtMost_8 (by decide) rfl ?_
    refine f_room (v := 8) (p := 10) dX1_leftAtMost_9 (by decide) (by decide) rfl ?_
    refine e_icmp_ge (t := 32) (p := 13) dX1_leftAtMost_10 (by decide) rfl rfl (fun hc10 => absurd hc10 (nI_ge (a := j) (b := 8) (by omega) (by omega))) (fun hc10 => ?_)
    refine e_iload_n (p := 14) dX1_leftAtMost_13 rfl rfl ?_
    refine e_aload_n (p := 15) dX1_leftAtMost_14 rfl rfl ?_
    refine e_getR (c := 1) (j := 2) (n := 5) (b := 88) (p := 18) dX1_leftAtMost_15 rfl rfl (by decide) (by decide) rfl (r_85_2 hF) rfl ?_
    refine e_iload_n (p := 19) dX1_leftAtMost_18 rfl rfl ?_
    refine f_aald (c := 16) (n := 4) (b := (89 + i)) (i := i) (p := 20) dX1_leftAtMost_19 rfl (by decide) (in_nJ (by omega) (by decide)) (nI_cl (by omega)) (fm_88 hF (by omega)) rfl ?_
    refine e_iload_n (p := 21) dX1_leftAtMost_20 rfl rfl ?_
    refine f_iald (n := 8) (i := j) (v := a.2.2 i j) (p := 22) dX1_leftAtMost_21 (sf_88 (by omega)) (by omega) (in_nJ (by omega) (by decide)) (nI_cl (by omega)) (hg.2.2.2 i (by omega) j (by omega)) rfl ?_
    refine e_max (p := 25) dX1_leftAtMost_22 rfl (Nat.le_of_ble_eq_true rfl) rfl ?_
    refine e_istore_n (ls1 := [.ref 85, .int (nI i), .int (if acc < (a.2.2 i j) then (a.2.2 i j) else acc), .int (nI j)]) (p := 26) dX1_leftAtMost_25 rfl rfl ?_
    refine e_iinc (ls1 := [.ref 85, .int (nI i), .int (if acc < (a.2.2 i j) then (a.2.2 i j) else acc), .int ((nI j) + 1)]) (p := 29) dX1_leftAtMost_26 rfl rfl rfl ?_
    refine e_goto (p := 4) dX1_leftAtMost_29 (by decide) rfl ?_
    rw [nI_1]
    exact Ev.res (by simp only [gN_s, lefF, bit, Int32.or_zero, Int32.add_zero, ↓reduceIte]) (x_leftAtMost_L hF hg hi m (j + 1) (if acc < (a.2.2 i j) then (a.2.2 i j) else acc)  (by omega))
set_option maxRecDepth 10000 in
theorem x_leftAtMost {I : Nat → Nat → Int32} {J : Nat → Nat → Int64} {F : Nat → Nat → Option Nat} {nc ns : Nat} {N : Nat} {a : gA} {i : Nat} (hF : RFok F) (hg : gI N I a) (hi : i < 4)  : Ev 0 mX1_leftAtMost 0 [.ref 85, .int (nI i), .null, .null] [] ((SH, nc, ns), I, J, F) (some (.int (lefS a.2.2 8 i))) ((SH, nc, ns), I, J, F) := by
  refine e_iconst (v := 0) (p := 1) dX1_leftAtMost_0 (by decide) rfl ?_
  refine e_istore_n (ls1 := [.ref 85, .int (nI i), .int 0, .null]) (p := 2) dX1_leftAtMost_1 rfl rfl ?_
  refine e_iconst (v := 0) (p := 3) dX1_leftAtMost_2 (by decide) rfl ?_
  refine e_istore_n (ls1 := [.ref 85, .int (nI i), .int 0, .int 0]) (p := 4) dX1_leftAtMost_3 rfl rfl ?_
  exact x_leftAtMost_L hF hg hi _ 0 _ (by omega)
set_option maxRecDepth 10000 in
theorem x_bestQuestion_L {I : Nat → Nat → Int32} {J : Nat → Nat → Int64} {F : Nat → Nat → Option Nat} {nc ns : Nat} {N : Nat} {a : gA} (hF : RFok F) (hg : gI N I a) (hN : N ≤ 4) : ∀ (m j b : Nat), j + m = N → b < N → Ev 1 mX1_bestQuestion 4 [.ref 85, .int (nI b), .int (nI j)] [] ((SH, nc, ns), I, J, F) (some (.int (nI (gN (bqF a.2.2 8) j m b)))) ((SH, nc, ns), I, J, F)
  | 0, j, b, hj, hb => by
    refine e_iload_n (p := 5) dX1_bestQuestion_4 rfl rfl ?_
    refine e_aload_n (p := 6) dX1_bestQuestion_5 rfl rfl ?_
    refine f_getI (c := 1) (j := 4) (n := 5) (v := nI N) (p := 9) dX1_bestQuestion_6 rfl rfl (by decide) (by decide) (Or.inl rfl) hg.2.1 rfl ?_
    refine e_icmp_ge (t := 33) (p := 12) dX1_bestQuestion_9 (by decide) rfl rfl (fun hc9 => ?_) (fun hc9 => absurd (nI_le (a := N) (b := j) (by omega) (by omega)) hc9)
    refine e_iload_n (p := 34) dX1_bestQuestion_33 rfl rfl ?_
    exact e_iretE dX1_bestQuestion_34 rfl rfl (by decide) ⟨rfl, rfl⟩
  | m + 1, j, b, hj, hb => by
    refine e_iload_n (p := 5) dX1_bestQuestion_4 rfl rfl ?_
    refine e_aload_n (p := 6) dX1_bestQuestion_5 rfl rfl ?_
    refine f_getI (c := 1) (j := 4) (n := 5) (v := nI N) (p := 9) dX1_bestQuestion_6 rfl rfl (by decide) (by decide) (Or.inl rfl) hg.2.1 rfl ?_
    refine e_icmp_ge (t := 33) (p := 12) dX1_bestQuestion_9 (by decide) rfl rfl (fun hc9 => absurd hc9 (nI_ge (a := j) (b := N) (by omega) (by omega))) (fun hc9 => ?_)
    refine e_aload_n (p := 13) dX1_bestQuestion_12 rfl rfl ?_
    refine e_iload_n (p := 14) dX1_bestQuestion_13 rfl rfl ?_
    refine e_callV_int (p := 17) (k' := 0) (a := [.ref 85, .int (nI j)]) (rr := []) dX1_bestQuestion_14 rfl rfl rfl rfl (rc_of rfl rfl (by decide) ⟨rfl, by decide⟩) (Nat.le_of_ble_eq_true rfl) (Nat.le_of_ble_eq_true rfl) (by decide) (x_leftAtMost hF hg (i := j) (by omega)) (Or.inl rfl) rfl ?_
    refine e_aload_n (p := 18) dX1_bestQuestion_17 rfl rfl ?_
    refine e_iload_n (p := 19) dX1_bestQuestion_18 rfl rfl ?_
    refine e_callV_int (p := 22) (k' := 0) (a := [.ref 85, .int (nI b)]) (rr := [.int (lefS a.2.2 8 j)]) dX1_bestQuestion_19 rfl rfl rfl rfl (rc_of rfl rfl (by decide) ⟨rfl, by decide⟩) (Nat.le_of_ble_eq_true rfl) (Nat.le_of_ble_eq_true rfl) (by decide) (x_leftAtMost hF hg (i := b) (by omega)) (Or.inl rfl) rfl ?_
    refine e_icmp_ge (t := 27) (p := 25) dX1_bestQuestion_22 (by decide) rfl rfl (fun hc22 => ?_) (fun hc22 => ?_)
    · skip
      refine e_iinc (ls1 := [.ref 85, .int (nI b), .int ((nI j) + 1)]) (p := 30) dX1_bestQuestion_27 rfl rfl rfl ?_
      refine e_goto (p := 4) dX1_bestQuestion_30 (by decide) rfl ?_
      rw [nI_1]
      exact Ev.res (by simp only [gN_s, bqF, hc22, (Int32.not_lt.mpr hc22), ↓reduceIte]) (x_bestQuestion_L hF hg hN m (j + 1) b (by omega) (by omega))
    · skip
      refine e_iload_n (p := 26) dX1_bestQuestion_25 rfl rfl ?_
      refine e_istore_n (ls1 := [.ref 85, .int (nI j), .int (nI j)]) (p := 27) dX1_bestQuestion_26 rfl rfl ?_
      refine e_iinc (ls1 := [.ref 85, .int (nI j), .int ((nI j) + 1)]) (p := 30) dX1_bestQuestion_27 rfl rfl rfl ?_
      refine e_goto (p := 4) dX1_bestQuestion_30 (by decide) rfl ?_
      rw [nI_1]
      exact Ev.res (by simp only [gN_s, bqF, hc22, (Int32.not_le.mp hc22), ↓reduceIte]) (x_bestQuestion_L hF hg hN m (j + 1) j (by omega) (by omega))
set_option maxRecDepth 10000 in
theorem x_bestQuestion {I : Nat → Nat → Int32} {J : Nat → Nat → Int64} {F : Nat → Nat → Option Nat} {nc ns : Nat} {N : Nat} {a : gA} (hF : RFok F) (hg : gI N I a) (hN : N ≤ 4) (hn : 0 < N) : Ev 1 mX1_bestQuestion 0 [.ref 85, .null, .null] [] ((SH, nc, ns), I, J, F) (some (.int (nI (bqS a.2.2 8 N)))) ((SH, nc, ns), I, J, F) := by
  refine e_iconst (v := 0) (p := 1) dX1_bestQuestion_0 (by decide) rfl ?_
  refine e_istore_n (ls1 := [.ref 85, .int 0, .null]) (p := 2) dX1_bestQuestion_1 rfl rfl ?_
  refine e_iconst (v := 1) (p := 3) dX1_bestQuestion_2 (by decide) rfl ?_
  refine e_istore_n (ls1 := [.ref 85, .int 0, .int 1]) (p := 4) dX1_bestQuestion_3 rfl rfl ?_
  exact x_bestQuestion_L hF hg hN (N - 1) 1 0 (by omega) hn
set_option maxRecDepth 10000 in
theorem c_rows_no {I : Nat → Nat → Int32} {J : Nat → Nat → Int64} {F : Nat → Nat → Option Nat} {nc ns : Nat} {o : Nat} {D : oD} {s : Nat → Int32} (ho : isO o) (hF : RFok F) (hoF : F 0 2 = some o) (hC : oC I o D) (hW : WF D) (hm : mo I 42 s) (hS : WFs D s) (ht : ¬ (eiS (toS D) (neS D)) = 0) : Ev 7 mX11_rows 0 [.ref 0] [] ((SH, nc, ns), I, J, F) (some (.int (-1))) ((SH, nc, ns), hp_u I 0 10 (eiS (toS D) (neS D)), J, F) := by
  have hD := hW.c
  have hH := hW.h
  have hT := hW.t
  have bt := hT.2
  obtain ⟨b0, b1, b2, b3, b4, b5, b6⟩ := hD.2
  refine e_aload_n (p := 1) dX11_rows_0 rfl rfl ?_
  refine e_aload_n (p := 2) dX11_rows_1 rfl rfl ?_
  refine e_callV_int (p := 5) (k' := 2) (a := [.ref 0]) (rr := [.ref 0]) dX11_rows_2 rfl rfl rfl rfl (rc_of rfl rfl (by decide) ⟨rfl, by decide⟩) (Nat.le_of_ble_eq_true rfl) (Nat.le_of_ble_eq_true rfl) (by decide) (x_ofNearly ho hF hoF hC hW hm hS) (Or.inl rfl) rfl ?_
  refine e_callV_int (p := 8) (k' := 0) (a := [.ref 0, .int (eiS (toS D) (neS D))]) (rr := []) dX11_rows_5 rfl rfl rfl rfl (rc_of rfl rfl (by decide) ⟨rfl, by decide⟩) (Nat.le_of_ble_eq_true rfl) (Nat.le_of_ble_eq_true rfl) (by decide) x_refused (Or.inl rfl) rfl ?_
  refine e_if_eq (t := 13) (p := 11) dX11_rows_8 (by decide) rfl rfl (fun hc8 => absurd hc8 (rf_ne ht)) (fun hc8 => ?_)
  refine e_iconst (v := -1) (p := 12) dX11_rows_11 (by decide) rfl ?_
  exact e_iretE dX11_rows_12 rfl rfl (by decide) ⟨rfl, rfl⟩
set_option maxRecDepth 10000 in
theorem c_rows_ok {I : Nat → Nat → Int32} {J : Nat → Nat → Int64} {F : Nat → Nat → Option Nat} {nc ns : Nat} {o : Nat} {D : oD} {s : Nat → Int32} (ho : isO o) (hF : RFok F) (hoF : F 0 2 = some o) (hC : oC I o D) (hW : WF D) (hm : mo I 42 s) (hS : WFs D s) (ht1 : tol D = 1) (hn : 0 < dN D 6) : Ew 7 mX11_rows 0 [.ref 0] [] ((SH, nc, ns), I, J, F) (Ret nc ns (some (.int ((near0 D (I 87)).1))) (fun I' J' F' => Fr 85 93 (hp_u I 0 10 0) I' ∧ J' = J ∧ F' = F)) := by
  have hD := hW.c
  have hH := hW.h
  have hT := hW.t
  have bt := hT.2
  obtain ⟨b0, b1, b2, b3, b4, b5, b6⟩ := hD.2
  refine we_aload_n (p := 1) dX11_rows_0 rfl rfl ?_
  refine we_aload_n (p := 2) dX11_rows_1 rfl rfl ?_
  refine we_callV_int (p := 5) (k' := 2) (a := [.ref 0]) (rr := [.ref 0]) dX11_rows_2 rfl rfl rfl rfl (rc_of rfl rfl (by decide) ⟨rfl, by decide⟩) (Nat.le_of_ble_eq_true rfl) (Nat.le_of_ble_eq_true rfl) (by decide) (x_ofNearly_ok ho hF hoF hC hW hm hS ht1 (by omega)) (Or.inl rfl) rfl ?_
  refine we_callV_int (p := 8) (k' := 0) (a := [.ref 0, .int 0]) (rr := []) dX11_rows_5 rfl rfl rfl rfl (rc_of rfl rfl (by decide) ⟨rfl, by decide⟩) (Nat.le_of_ble_eq_true rfl) (Nat.le_of_ble_eq_true rfl) (by decide) (Ev.i (show rfS 0 = 0 by decide) (x_refused)) (Or.inl rfl) rfl ?_
  refine we_if_eq (t := 13) (p := 11) dX11_rows_8 (by decide) rfl rfl (fun hc8 => ?_) (fun hc8 => absurd (by decide) hc8)
  refine we_aload_n (p := 14) dX11_rows_13 rfl rfl ?_
  refine we_getR (c := 10) (j := 8) (n := 13) (b := 85) (p := 17) dX11_rows_14 rfl rfl (by decide) (by decide) rfl (r_0_8 hF) rfl ?_
  refine we_aload_n (p := 18) dX11_rows_17 rfl rfl ?_
  refine we_getR (c := 10) (j := 2) (n := 13) (b := o) (p := 21) dX11_rows_18 rfl rfl (by decide) (by decide) rfl hoF rfl ?_
  obtain ⟨_, _, e1, rfl, I1, J1, F1, rfl, ⟨f1, rfl, rfl, hg⟩⟩ := x_seek (I := (hp_u I 0 10 0)) ho hF (oC_u hC ho (by decide)) hW (by omega) (f := I 87) (hu_ne (by decide))
  refine we_callV_v (p := 24) (k' := 6) (a := [.ref 85, .ref o]) (rr := []) dX11_rows_21 rfl rfl rfl rfl (rc_of rfl rfl (by decide) ⟨rfl, by decide⟩) (Nat.le_of_ble_eq_true rfl) (Nat.le_of_ble_eq_true rfl) (by decide) e1 (Or.inl rfl) rfl ?_
  refine we_aload_n (p := 25) dX11_rows_24 rfl rfl ?_
  refine we_getR (c := 10) (j := 8) (n := 13) (b := 85) (p := 28) dX11_rows_25 rfl rfl (by decide) (by decide) rfl (r_0_8 hF) rfl ?_
  refine wf_getI (c := 1) (j := 3) (n := 5) (v := (near0 D (I 87)).1) (p := 31) dX11_rows_28 rfl rfl (by decide) (by decide) (Or.inl rfl) hg.1 rfl ?_
  exact wi_ret dX11_rows_31 rfl rfl (by decide) (⟨rfl, _, _, _, rfl, f1, rfl, rfl⟩)
set_option maxRecDepth 10000 in
theorem c_could_no {I : Nat → Nat → Int32} {J : Nat → Nat → Int64} {F : Nat → Nat → Option Nat} {nc ns : Nat} {o : Nat} {D : oD} {s : Nat → Int32} (ho : isO o) (hF : RFok F) (hoF : F 0 2 = some o) (hC : oC I o D) (hW : WF D) (hm : mo I 42 s) (hS : WFs D s) {k : Int32} (ht : ¬ (ixS k (dN D 6)) = 0) : Ev 7 mX11_could 0 [.ref 0, .int k] [] ((SH, nc, ns), I, J, F) (some (.int (-1))) ((SH, nc, ns), hp_u I 0 10 (ixS k (dN D 6)), J, F) := by
  have hD := hW.c
  have hH := hW.h
  have hT := hW.t
  have bt := hT.2
  obtain ⟨b0, b1, b2, b3, b4, b5, b6⟩ := hD.2
  refine e_aload_n (p := 1) dX11_could_0 rfl rfl ?_
  refine e_iload_n (p := 2) dX11_could_1 rfl rfl ?_
  refine e_aload_n (p := 3) dX11_could_2 rfl rfl ?_
  refine e_getR (c := 10) (j := 2) (n := 13) (b := o) (p := 6) dX11_could_3 rfl rfl (by decide) (by decide) rfl hoF rfl ?_
  refine e_getR (c := 4) (j := 2) (n := 18) (b := (o + 1)) (p := 9) dX11_could_6 rfl (s_o ho) (l_o0 ho) (by decide) rfl (r_o2 hF ho) rfl ?_
  refine e_bipush (v := 6) (p := 11) dX11_could_9 (by decide) rfl ?_
  refine f_iald (n := 7) (i := 6) (v := nI (dN D 6)) (p := 12) dX11_could_11 (s_o1 ho) (l_o ho 1 (by decide)) (by decide) (by decide) (cN hC hD (by decide)) rfl ?_
  refine e_callS_int (p := 15) (k' := 0) (a := [.int k, .int (nI (dN D 6))]) (rr := [.ref 0]) dX11_could_12 rfl rfl rfl rfl rfl (rc_st rfl) (Nat.le_of_ble_eq_true rfl) (Nat.le_of_ble_eq_true rfl) (by decide) (x_ofIndex (n := (dN D 6))) (Or.inl rfl) rfl ?_
  refine e_callV_int (p := 18) (k' := 0) (a := [.ref 0, .int (ixS k (dN D 6))]) (rr := []) dX11_could_15 rfl rfl rfl rfl (rc_of rfl rfl (by decide) ⟨rfl, by decide⟩) (Nat.le_of_ble_eq_true rfl) (Nat.le_of_ble_eq_true rfl) (by decide) x_refused (Or.inl rfl) rfl ?_
  refine e_if_eq (t := 23) (p := 21) dX11_could_18 (by decide) rfl rfl (fun hc18 => absurd hc18 (rf_ne ht)) (fun hc18 => ?_)
  refine e_iconst (v := -1) (p := 22) dX11_could_21 (by decide) rfl ?_
  exact e_iretE dX11_could_22 rfl rfl (by decide) ⟨rfl, rfl⟩
set_option maxRecDepth 10000 in
theorem c_surely_no {I : Nat → Nat → Int32} {J : Nat → Nat → Int64} {F : Nat → Nat → Option Nat} {nc ns : Nat} {o : Nat} {D : oD} {s : Nat → Int32} (ho : isO o) (hF : RFok F) (hoF : F 0 2 = some o) (hC : oC I o D) (hW : WF D) (hm : mo I 42 s) (hS : WFs D s) {k : Int32} (ht : ¬ (ixS k (dN D 6)) = 0) : Ev 7 mX11_surely 0 [.ref 0, .int k] [] ((SH, nc, ns), I, J, F) (some (.int (-1))) ((SH, nc, ns), hp_u I 0 10 (ixS k (dN D 6)), J, F) := by
  have hD := hW.c
  have hH := hW.h
  have hT := hW.t
  have bt := hT.2
  obtain ⟨b0, b1, b2, b3, b4, b5, b6⟩ := hD.2
  refine e_aload_n (p := 1) dX11_surely_0 rfl rfl ?_
  refine e_iload_n (p := 2) dX11_surely_1 rfl rfl ?_
  refine e_aload_n (p := 3) dX11_surely_2 rfl rfl ?_
  refine e_getR (c := 10) (j := 2) (n := 13) (b := o) (p := 6) dX11_surely_3 rfl rfl (by decide) (by decide) rfl hoF rfl ?_
  refine e_getR (c := 4) (j := 2) (n := 18) (b := (o + 1)) (p := 9) dX11_surely_6 rfl (s_o ho) (l_o0 ho) (by decide) rfl (r_o2 hF ho) rfl ?_
  refine e_bipush (v := 6) (p := 11) dX11_surely_9 (by decide) rfl ?_
  refine f_iald (n := 7) (i := 6) (v := nI (dN D 6)) (p := 12) dX11_surely_11 (s_o1 ho) (l_o ho 1 (by decide)) (by decide) (by decide) (cN hC hD (by decide)) rfl ?_
  refine e_callS_int (p := 15) (k' := 0) (a := [.int k, .int (nI (dN D 6))]) (rr := [.ref 0]) dX11_surely_12 rfl rfl rfl rfl rfl (rc_st rfl) (Nat.le_of_ble_eq_true rfl) (Nat.le_of_ble_eq_true rfl) (by decide) (x_ofIndex (n := (dN D 6))) (Or.inl rfl) rfl ?_
  refine e_callV_int (p := 18) (k' := 0) (a := [.ref 0, .int (ixS k (dN D 6))]) (rr := []) dX11_surely_15 rfl rfl rfl rfl (rc_of rfl rfl (by decide) ⟨rfl, by decide⟩) (Nat.le_of_ble_eq_true rfl) (Nat.le_of_ble_eq_true rfl) (by decide) x_refused (Or.inl rfl) rfl ?_
  refine e_if_eq (t := 23) (p := 21) dX11_surely_18 (by decide) rfl rfl (fun hc18 => absurd hc18 (rf_ne ht)) (fun hc18 => ?_)
  refine e_iconst (v := -1) (p := 22) dX11_surely_21 (by decide) rfl ?_
  exact e_iretE dX11_surely_22 rfl rfl (by decide) ⟨rfl, rfl⟩
set_option maxRecDepth 10000 in
theorem c_firstOf_no {I : Nat → Nat → Int32} {J : Nat → Nat → Int64} {F : Nat → Nat → Option Nat} {nc ns : Nat} {o : Nat} {D : oD} {s : Nat → Int32} (ho : isO o) (hF : RFok F) (hoF : F 0 2 = some o) (hC : oC I o D) (hW : WF D) (hm : mo I 42 s) (hS : WFs D s) {k : Int32} (ht : ¬ (ixS k (dN D 6)) = 0) : Ev 7 mX11_firstOf 0 [.ref 0, .int k] [] ((SH, nc, ns), I, J, F) (some (.int (-1))) ((SH, nc, ns), hp_u I 0 10 (ixS k (dN D 6)), J, F) := by
  have hD := hW.c
  have hH := hW.h
  have hT := hW.t
  have bt := hT.2
  obtain ⟨b0, b1, b2, b3, b4, b5, b6⟩ := hD.2
  refine e_aload_n (p := 1) dX11_firstOf_0 rfl rfl ?_
  refine e_iload_n (p := 2) dX11_firstOf_1 rfl rfl ?_
  refine e_aload_n (p := 3) dX11_firstOf_2 rfl rfl ?_
  refine e_getR (c := 10) (j := 2) (n := 13) (b := o) (p := 6) dX11_firstOf_3 rfl rfl (by decide) (by decide) rfl hoF rfl ?_
  refine e_getR (c := 4) (j := 2) (n := 18) (b := (o + 1)) (p := 9) dX11_firstOf_6 rfl (s_o ho) (l_o0 ho) (by decide) rfl (r_o2 hF ho) rfl ?_
  refine e_bipush (v := 6) (p := 11) dX11_firstOf_9 (by decide) rfl ?_
  refine f_iald (n := 7) (i := 6) (v := nI (dN D 6)) (p := 12) dX11_firstOf_11 (s_o1 ho) (l_o ho 1 (by decide)) (by decide) (by decide) (cN hC hD (by decide)) rfl ?_
  refine e_callS_int (p := 15) (k' := 0) (a := [.int k, .int (nI (dN D 6))]) (rr := [.ref 0]) dX11_firstOf_12 rfl rfl rfl rfl rfl (rc_st rfl) (Nat.le_of_ble_eq_true rfl) (Nat.le_of_ble_eq_true rfl) (by decide) (x_ofIndex (n := (dN D 6))) (Or.inl rfl) rfl ?_
  refine e_callV_int (p := 18) (k' := 0) (a := [.ref 0, .int (ixS k (dN D 6))]) (rr := []) dX11_firstOf_15 rfl rfl rfl rfl (rc_of rfl rfl (by decide) ⟨rfl, by decide⟩) (Nat.le_of_ble_eq_true rfl) (Nat.le_of_ble_eq_true rfl) (by decide) x_refused (Or.inl rfl) rfl ?_
  refine e_if_eq (t := 23) (p := 21) dX11_firstOf_18 (by decide) rfl rfl (fun hc18 => absurd hc18 (rf_ne ht)) (fun hc18 => ?_)
  refine e_iconst (v := -1) (p := 22) dX11_firstOf_21 (by decide) rfl ?_
  exact e_iretE dX11_firstOf_22 rfl rfl (by decide) ⟨rfl, rfl⟩
set_option maxRecDepth 10000 in
theorem c_could_ok {I : Nat → Nat → Int32} {J : Nat → Nat → Int64} {F : Nat → Nat → Option Nat} {nc ns : Nat} {o : Nat} {D : oD} {s : Nat → Int32} (ho : isO o) (hF : RFok F) (hoF : F 0 2 = some o) (hC : oC I o D) (hW : WF D) (hm : mo I 42 s) (hS : WFs D s) {k : Nat} (hk : k < dN D 6) : Ew 7 mX11_could 0 [.ref 0, .int (nI k)] [] ((SH, nc, ns), I, J, F) (Ret nc ns (some (.int (gN (posF (near0 D (I 87)).2.2 k) 0 8 0))) (fun I' J' F' => Fr 85 93 (hp_u I 0 10 0) I' ∧ J' = J ∧ F' = F)) := by
  have hD := hW.c
  have hH := hW.h
  have hT := hW.t
  have bt := hT.2
  obtain ⟨b0, b1, b2, b3, b4, b5, b6⟩ := hD.2
  refine we_aload_n (p := 1) dX11_could_0 rfl rfl ?_
  refine we_iload_n (p := 2) dX11_could_1 rfl rfl ?_
  refine we_aload_n (p := 3) dX11_could_2 rfl rfl ?_
  refine we_getR (c := 10) (j := 2) (n := 13) (b := o) (p := 6) dX11_could_3 rfl rfl (by decide) (by decide) rfl hoF rfl ?_
  refine we_getR (c := 4) (j := 2) (n := 18) (b := (o + 1)) (p := 9) dX11_could_6 rfl (s_o ho) (l_o0 ho) (by decide) rfl (r_o2 hF ho) rfl ?_
  refine we_bipush (v := 6) (p := 11) dX11_could_9 (by decide) rfl ?_
  refine wf_iald (n := 7) (i := 6) (v := nI (dN D 6)) (p := 12) dX11_could_11 (s_o1 ho) (l_o ho 1 (by decide)) (by decide) (by decide) (cN hC hD (by decide)) rfl ?_
  refine we_callS_int (p := 15) (k' := 0) (a := [.int (nI k), .int (nI (dN D 6))]) (rr := [.ref 0]) dX11_could_12 rfl rfl rfl rfl rfl (rc_st rfl) (Nat.le_of_ble_eq_true rfl) (Nat.le_of_ble_eq_true rfl) (by decide) (Ev.i (ix_ok (n := (dN D 6)) (w := k) (by omega) (by omega)) (x_ofIndex)) (Or.inl rfl) rfl ?_
  refine we_callV_int (p := 18) (k' := 0) (a := [.ref 0, .int 0]) (rr := []) dX11_could_15 rfl rfl rfl rfl (rc_of rfl rfl (by decide) ⟨rfl, by decide⟩) (Nat.le_of_ble_eq_true rfl) (Nat.le_of_ble_eq_true rfl) (by decide) (Ev.i (show rfS 0 = 0 by decide) (x_refused)) (Or.inl rfl) rfl ?_
  refine we_if_eq (t := 23) (p := 21) dX11_could_18 (by decide) rfl rfl (fun hc18 => ?_) (fun hc18 => absurd (by decide) hc18)
  refine we_aload_n (p := 24) dX11_could_23 rfl rfl ?_
  refine we_getR (c := 10) (j := 8) (n := 13) (b := 85) (p := 27) dX11_could_24 rfl rfl (by decide) (by decide) rfl (r_0_8 hF) rfl ?_
  refine we_aload_n (p := 28) dX11_could_27 rfl rfl ?_
  refine we_getR (c := 10) (j := 2) (n := 13) (b := o) (p := 31) dX11_could_28 rfl rfl (by decide) (by decide) rfl hoF rfl ?_
  obtain ⟨_, _, e1, rfl, I1, J1, F1, rfl, ⟨f1, rfl, rfl, hg⟩⟩ := x_seek (I := (hp_u I 0 10 0)) ho hF (oC_u hC ho (by decide)) hW (by omega) (f := I 87) (hu_ne (by decide))
  refine we_callV_v (p := 34) (k' := 6) (a := [.ref 85, .ref o]) (rr := []) dX11_could_31 rfl rfl rfl rfl (rc_of rfl rfl (by decide) ⟨rfl, by decide⟩) (Nat.le_of_ble_eq_true rfl) (Nat.le_of_ble_eq_true rfl) (by decide) e1 (Or.inl rfl) rfl ?_
  refine we_aload_n (p := 35) dX11_could_34 rfl rfl ?_
  refine we_getR (c := 10) (j := 8) (n := 13) (b := 85) (p := 38) dX11_could_35 rfl rfl (by decide) (by decide) rfl (r_0_8 hF) rfl ?_
  refine we_iload_n (p := 39) dX11_could_38 rfl rfl ?_
  refine we_callV_int (p := 42) (k' := 0) (a := [.ref 85, .int (nI k)]) (rr := []) dX11_could_39 rfl rfl rfl rfl (rc_of rfl rfl (by decide) ⟨rfl, by decide⟩) (Nat.le_of_ble_eq_true rfl) (Nat.le_of_ble_eq_true rfl) (by decide) (x_possible hF hg (i := k) (by omega)) (Or.inl rfl) rfl ?_
  exact wi_ret dX11_could_42 rfl rfl (by decide) (⟨rfl, _, _, _, rfl, f1, rfl, rfl⟩)
set_option maxRecDepth 10000 in
theorem c_surely_ok {I : Nat → Nat → Int32} {J : Nat → Nat → Int64} {F : Nat → Nat → Option Nat} {nc ns : Nat} {o : Nat} {D : oD} {s : Nat → Int32} (ho : isO o) (hF : RFok F) (hoF : F 0 2 = some o) (hC : oC I o D) (hW : WF D) (hm : mo I 42 s) (hS : WFs D s) {k : Nat} (hk : k < dN D 6) : Ew 7 mX11_surely 0 [.ref 0, .int (nI k)] [] ((SH, nc, ns), I, J, F) (Ret nc ns (some (.int (cerG (near0 D (I 87)).2.2 (near0 D (I 87)).1 k 0 8))) (fun I' J' F' => Fr 85 93 (hp_u I 0 10 0) I' ∧ J' = J ∧ F' = F)) := by
  have hD := hW.c
  have hH := hW.h
  have hT := hW.t
  have bt := hT.2
  obtain ⟨b0, b1, b2, b3, b4, b5, b6⟩ := hD.2
  refine we_aload_n (p := 1) dX11_surely_0 rfl rfl ?_
  refine we_iload_n (p := 2) dX11_surely_1 rfl rfl ?_
  refine we_aload_n (p := 3) dX11_surely_2 rfl rfl ?_
  refine we_getR (c := 10) (j := 2) (n := 13) (b := o) (p := 6) dX11_surely_3 rfl rfl (by decide) (by decide) rfl hoF rfl ?_
  refine we_getR (c := 4) (j := 2) (n := 18) (b := (o + 1)) (p := 9) dX11_surely_6 rfl (s_o ho) (l_o0 ho) (by decide) rfl (r_o2 hF ho) rfl ?_
  refine we_bipush (v := 6) (p := 11) dX11_surely_9 (by decide) rfl ?_
  refine wf_iald (n := 7) (i := 6) (v := nI (dN D 6)) (p := 12) dX11_surely_11 (s_o1 ho) (l_o ho 1 (by decide)) (by decide) (by decide) (cN hC hD (by decide)) rfl ?_
  refine we_callS_int (p := 15) (k' := 0) (a := [.int (nI k), .int (nI (dN D 6))]) (rr := [.ref 0]) dX11_surely_12 rfl rfl rfl rfl rfl (rc_st rfl) (Nat.le_of_ble_eq_true rfl) (Nat.le_of_ble_eq_true rfl) (by decide) (Ev.i (ix_ok (n := (dN D 6)) (w := k) (by omega) (by omega)) (x_ofIndex)) (Or.inl rfl) rfl ?_
  refine we_callV_int (p := 18) (k' := 0) (a := [.ref 0, .int 0]) (rr := []) dX11_surely_15 rfl rfl rfl rfl (rc_of rfl rfl (by decide) ⟨rfl, by decide⟩) (Nat.le_of_ble_eq_true rfl) (Nat.le_of_ble_eq_true rfl) (by decide) (Ev.i (show rfS 0 = 0 by decide) (x_refused)) (Or.inl rfl) rfl ?_
  refine we_if_eq (t := 23) (p := 21) dX11_surely_18 (by decide) rfl rfl (fun hc18 => ?_) (fun hc18 => absurd (by decide) hc18)
  refine we_aload_n (p := 24) dX11_surely_23 rfl rfl ?_
  refine we_getR (c := 10) (j := 8) (n := 13) (b := 85) (p := 27) dX11_surely_24 rfl rfl (by decide) (by decide) rfl (r_0_8 hF) rfl ?_
  refine we_aload_n (p := 28) dX11_surely_27 rfl rfl ?_
  refine we_getR (c := 10) (j := 2) (n := 13) (b := o) (p := 31) dX11_surely_28 rfl rfl (by decide) (by decide) rfl hoF rfl ?_
  obtain ⟨_, _, e1, rfl, I1, J1, F1, rfl, ⟨f1, rfl, rfl, hg⟩⟩ := x_seek (I := (hp_u I 0 10 0)) ho hF (oC_u hC ho (by decide)) hW (by omega) (f := I 87) (hu_ne (by decide))
  refine we_callV_v (p := 34) (k' := 6) (a := [.ref 85, .ref o]) (rr := []) dX11_surely_31 rfl rfl rfl rfl (rc_of rfl rfl (by decide) ⟨rfl, by decide⟩) (Nat.le_of_ble_eq_true rfl) (Nat.le_of_ble_eq_true rfl) (by decide) e1 (Or.inl rfl) rfl ?_
  refine we_aload_n (p := 35) dX11_surely_34 rfl rfl ?_
  refine we_getR (c := 10) (j := 8) (n := 13) (b := 85) (p := 38) dX11_surely_35 rfl rfl (by decide) (by decide) rfl (r_0_8 hF) rfl ?_
  refine we_iload_n (p := 39) dX11_surely_38 rfl rfl ?_
  refine we_callV_int (p := 42) (k' := 0) (a := [.ref 85, .int (nI k)]) (rr := []) dX11_surely_39 rfl rfl rfl rfl (rc_of rfl rfl (by decide) ⟨rfl, by decide⟩) (Nat.le_of_ble_eq_true rfl) (Nat.le_of_ble_eq_true rfl) (by decide) (x_certain hF hg (i := k) (by omega)) (Or.inl rfl) rfl ?_
  exact wi_ret dX11_surely_42 rfl rfl (by decide) (⟨rfl, _, _, _, rfl, f1, rfl, rfl⟩)
set_option maxRecDepth 10000 in
theorem c_firstOf_ok {I : Nat → Nat → Int32} {J : Nat → Nat → Int64} {F : Nat → Nat → Option Nat} {nc ns : Nat} {o : Nat} {D : oD} {s : Nat → Int32} (ho : isO o) (hF : RFok F) (hoF : F 0 2 = some o) (hC : oC I o D) (hW : WF D) (hm : mo I 42 s) (hS : WFs D s) {k : Nat} (hk : k < dN D 6) : Ew 7 mX11_firstOf 0 [.ref 0, .int (nI k)] [] ((SH, nc, ns), I, J, F) (Ret nc ns (some (.int (if (near0 D (I 87)).1 = 0 then -2 else (near0 D (I 87)).2.1 k))) (fun I' J' F' => Fr 85 93 (hp_u I 0 10 0) I' ∧ J' = J ∧ F' = F)) := by
  have hD := hW.c
  have hH := hW.h
  have hT := hW.t
  have bt := hT.2
  obtain ⟨b0, b1, b2, b3, b4, b5, b6⟩ := hD.2
  refine we_aload_n (p := 1) dX11_firstOf_0 rfl rfl ?_
  refine we_iload_n (p := 2) dX11_firstOf_1 rfl rfl ?_
  refine we_aload_n (p := 3) dX11_firstOf_2 rfl rfl ?_
  refine we_getR (c := 10) (j := 2) (n := 13) (b := o) (p := 6) dX11_firstOf_3 rfl rfl (by decide) (by decide) rfl hoF rfl ?_
  refine we_getR (c := 4) (j := 2) (n := 18) (b := (o + 1)) (p := 9) dX11_firstOf_6 rfl (s_o ho) (l_o0 ho) (by decide) rfl (r_o2 hF ho) rfl ?_
  refine we_bipush (v := 6) (p := 11) dX11_firstOf_9 (by decide) rfl ?_
  refine wf_iald (n := 7) (i := 6) (v := nI (dN D 6)) (p := 12) dX11_firstOf_11 (s_o1 ho) (l_o ho 1 (by decide)) (by decide) (by decide) (cN hC hD (by decide)) rfl ?_
  refine we_callS_int (p := 15) (k' := 0) (a := [.int (nI k), .int (nI (dN D 6))]) (rr := [.ref 0]) dX11_firstOf_12 rfl rfl rfl rfl rfl (rc_st rfl) (Nat.le_of_ble_eq_true rfl) (Nat.le_of_ble_eq_true rfl) (by decide) (Ev.i (ix_ok (n := (dN D 6)) (w := k) (by omega) (by omega)) (x_ofIndex)) (Or.inl rfl) rfl ?_
  refine we_callV_int (p := 18) (k' := 0) (a := [.ref 0, .int 0]) (rr := []) dX11_firstOf_15 rfl rfl rfl rfl (rc_of rfl rfl (by decide) ⟨rfl, by decide⟩) (Nat.le_of_ble_eq_true rfl) (Nat.le_of_ble_eq_true rfl) (by decide) (Ev.i (show rfS 0 = 0 by decide) (x_refused)) (Or.inl rfl) rfl ?_
  refine we_if_eq (t := 23) (p := 21) dX11_firstOf_18 (by decide) rfl rfl (fun hc18 => ?_) (fun hc18 => absurd (by decide) hc18)
  refine we_aload_n (p := 24) dX11_firstOf_23 rfl rfl ?_
  refine we_getR (c := 10) (j := 8) (n := 13) (b := 85) (p := 27) dX11_firstOf_24 rfl rfl (by decide) (by decide) rfl (r_0_8 hF) rfl ?_
  refine we_aload_n (p := 28) dX11_firstOf_27 rfl rfl ?_
  refine we_getR (c := 10) (j := 2) (n := 13) (b := o) (p := 31) dX11_firstOf_28 rfl rfl (by decide) (by decide) rfl hoF rfl ?_
  obtain ⟨_, _, e1, rfl, I1, J1, F1, rfl, ⟨f1, rfl, rfl, hg⟩⟩ := x_seek (I := (hp_u I 0 10 0)) ho hF (oC_u hC ho (by decide)) hW (by omega) (f := I 87) (hu_ne (by decide))
  refine we_callV_v (p := 34) (k' := 6) (a := [.ref 85, .ref o]) (rr := []) dX11_firstOf_31 rfl rfl rfl rfl (rc_of rfl rfl (by decide) ⟨rfl, by decide⟩) (Nat.le_of_ble_eq_true rfl) (Nat.le_of_ble_eq_true rfl) (by decide) e1 (Or.inl rfl) rfl ?_
  refine we_aload_n (p := 35) dX11_firstOf_34 rfl rfl ?_
  refine we_getR (c := 10) (j := 8) (n := 13) (b := 85) (p := 38) dX11_firstOf_35 rfl rfl (by decide) (by decide) rfl (r_0_8 hF) rfl ?_
  refine wf_getI (c := 1) (j := 3) (n := 5) (v := (near0 D (I 87)).1) (p := 41) dX11_firstOf_38 rfl rfl (by decide) (by decide) (Or.inl rfl) hg.1 rfl ?_
  refine we_if_ne (t := 49) (p := 44) dX11_firstOf_41 (by decide) rfl rfl (fun hc41 => ?_) (fun hc41 => ?_)
  · skip
    refine we_aload_n (p := 50) dX11_firstOf_49 rfl rfl ?_
    refine we_getR (c := 10) (j := 8) (n := 13) (b := 85) (p := 53) dX11_firstOf_50 rfl rfl (by decide) (by decide) rfl (r_0_8 hF) rfl ?_
    refine we_getR (c := 1) (j := 1) (n := 5) (b := 87) (p := 56) dX11_firstOf_53 rfl rfl (by decide) (by decide) rfl (r_85_1 hF) rfl ?_
    refine we_iload_n (p := 57) dX11_firstOf_56 rfl rfl ?_
    refine wf_iald (n := 4) (i := k) (v := (near0 D (I 87)).2.1 k) (p := 58) dX11_firstOf_57 rfl (by decide) (in_nJ (by omega) (by decide)) (nI_cl (by omega)) (hg.2.2.1 k (by omega)) rfl ?_
    exact wi_ret dX11_firstOf_58 rfl rfl (by decide) (⟨congrArg (fun z => some (Value.int z)) (by simp only [hc41, ↓reduceIte]), _, _, _, rfl, f1, rfl, rfl⟩)
  · skip
    refine we_bipush (v := -2) (p := 46) dX11_firstOf_44 (by decide) rfl ?_
    refine we_goto (p := 58) dX11_firstOf_46 (by decide) rfl ?_
    exact wi_ret dX11_firstOf_58 rfl rfl (by decide) (⟨congrArg (fun z => some (Value.int z)) (by simp only [hc41, ↓reduceIte]), _, _, _, rfl, f1, rfl, rfl⟩)
set_option maxRecDepth 10000 in
theorem c_ask_no {I : Nat → Nat → Int32} {J : Nat → Nat → Int64} {F : Nat → Nat → Option Nat} {nc ns : Nat} {o : Nat} {D : oD} {s : Nat → Int32} (ho : isO o) (hF : RFok F) (hoF : F 0 2 = some o) (hC : oC I o D) (hW : WF D) (hm : mo I 42 s) (hS : WFs D s) (ht : ¬ (eiS (toS D) (neS D)) = 0) : Ev 7 mX11_ask 0 [.ref 0] [] ((SH, nc, ns), I, J, F) (some (.int (-1))) ((SH, nc, ns), hp_u I 0 10 (eiS (toS D) (neS D)), J, F) := by
  have hD := hW.c
  have hH := hW.h
  have hT := hW.t
  have bt := hT.2
  obtain ⟨b0, b1, b2, b3, b4, b5, b6⟩ := hD.2
  refine e_aload_n (p := 1) dX11_ask_0 rfl rfl ?_
  refine e_aload_n (p := 2) dX11_ask_1 rfl rfl ?_
  refine e_callV_int (p := 5) (k' := 2) (a := [.ref 0]) (rr := [.ref 0]) dX11_ask_2 rfl rfl rfl rfl (rc_of rfl rfl (by decide) ⟨rfl, by decide⟩) (Nat.le_of_ble_eq_true rfl) (Nat.le_of_ble_eq_true rfl) (by decide) (x_ofNearly ho hF hoF hC hW hm hS) (Or.inl rfl) rfl ?_
  refine e_callV_int (p := 8) (k' := 0) (a := [.ref 0, .int (eiS (toS D) (neS D))]) (rr := []) dX11_ask_5 rfl rfl rfl rfl (rc_of rfl rfl (by decide) ⟨rfl, by decide⟩) (Nat.le_of_ble_eq_true rfl) (Nat.le_of_ble_eq_true rfl) (by decide) x_refused (Or.inl rfl) rfl ?_
  refine e_if_eq (t := 13) (p := 11) dX11_ask_8 (by decide) rfl rfl (fun hc8 => absurd hc8 (rf_ne ht)) (fun hc8 => ?_)
  refine e_iconst (v := -1) (p := 12) dX11_ask_11 (by decide) rfl ?_
  exact e_iretE dX11_ask_12 rfl rfl (by decide) ⟨rfl, rfl⟩
set_option maxRecDepth 10000 in
theorem c_askLeaves_no {I : Nat → Nat → Int32} {J : Nat → Nat → Int64} {F : Nat → Nat → Option Nat} {nc ns : Nat} {o : Nat} {D : oD} {s : Nat → Int32} (ho : isO o) (hF : RFok F) (hoF : F 0 2 = some o) (hC : oC I o D) (hW : WF D) (hm : mo I 42 s) (hS : WFs D s) (ht : ¬ (eiS (toS D) (neS D)) = 0) : Ev 7 mX11_askLeaves 0 [.ref 0] [] ((SH, nc, ns), I, J, F) (some (.int (-1))) ((SH, nc, ns), hp_u I 0 10 (eiS (toS D) (neS D)), J, F) := by
  have hD := hW.c
  have hH := hW.h
  have hT := hW.t
  have bt := hT.2
  obtain ⟨b0, b1, b2, b3, b4, b5, b6⟩ := hD.2
  refine e_aload_n (p := 1) dX11_askLeaves_0 rfl rfl ?_
  refine e_aload_n (p := 2) dX11_askLeaves_1 rfl rfl ?_
  refine e_callV_int (p := 5) (k' := 2) (a := [.ref 0]) (rr := [.ref 0]) dX11_askLeaves_2 rfl rfl rfl rfl (rc_of rfl rfl (by decide) ⟨rfl, by decide⟩) (Nat.le_of_ble_eq_true rfl) (Nat.le_of_ble_eq_true rfl) (by decide) (x_ofNearly ho hF hoF hC hW hm hS) (Or.inl rfl) rfl ?_
  refine e_callV_int (p := 8) (k' := 0) (a := [.ref 0, .int (eiS (toS D) (neS D))]) (rr := []) dX11_askLeaves_5 rfl rfl rfl rfl (rc_of rfl rfl (by decide) ⟨rfl, by decide⟩) (Nat.le_of_ble_eq_true rfl) (Nat.le_of_ble_eq_true rfl) (by decide) x_refused (Or.inl rfl) rfl ?_
  refine e_if_eq (t := 13) (p := 11) dX11_askLeaves_8 (by decide) rfl rfl (fun hc8 => absurd hc8 (rf_ne ht)) (fun hc8 => ?_)
  refine e_iconst (v := -1) (p := 12) dX11_askLeaves_11 (by decide) rfl ?_
  exact e_iretE dX11_askLeaves_12 rfl rfl (by decide) ⟨rfl, rfl⟩
set_option maxRecDepth 10000 in
theorem c_ask_ok {I : Nat → Nat → Int32} {J : Nat → Nat → Int64} {F : Nat → Nat → Option Nat} {nc ns : Nat} {o : Nat} {D : oD} {s : Nat → Int32} (ho : isO o) (hF : RFok F) (hoF : F 0 2 = some o) (hC : oC I o D) (hW : WF D) (hm : mo I 42 s) (hS : WFs D s) (ht1 : tol D = 1) (hn : 0 < dN D 6) : Ew 7 mX11_ask 0 [.ref 0] [] ((SH, nc, ns), I, J, F) (Ret nc ns (some (.int (if (near0 D (I 87)).1 = 0 then -2 else nI (bqS (near0 D (I 87)).2.2 8 (dN D 6))))) (fun I' J' F' => Fr 85 93 (hp_u I 0 10 0) I' ∧ J' = J ∧ F' = F)) := by
  have hD := hW.c
  have hH := hW.h
  have hT := hW.t
  have bt := hT.2
  obtain ⟨b0, b1, b2, b3, b4, b5, b6⟩ := hD.2
  refine we_aload_n (p := 1) dX11_ask_0 rfl rfl ?_
  refine we_aload_n (p := 2) dX11_ask_1 rfl rfl ?_
  refine we_callV_int (p := 5) (k' := 2) (a := [.ref 0]) (rr := [.ref 0]) dX11_ask_2 rfl rfl rfl rfl (rc_of rfl rfl (by decide) ⟨rfl, by decide⟩) (Nat.le_of_ble_eq_true rfl) (Nat.le_of_ble_eq_true rfl) (by decide) (x_ofNearly_ok ho hF hoF hC hW hm hS ht1 (by omega)) (Or.inl rfl) rfl ?_
  refine we_callV_int (p := 8) (k' := 0) (a := [.ref 0, .int 0]) (rr := []) dX11_ask_5 rfl rfl rfl rfl (rc_of rfl rfl (by decide) ⟨rfl, by decide⟩) (Nat.le_of_ble_eq_true rfl) (Nat.le_of_ble_eq_true rfl) (by decide) (Ev.i (show rfS 0 = 0 by decide) (x_refused)) (Or.inl rfl) rfl ?_
  refine we_if_eq (t := 13) (p := 11) dX11_ask_8 (by decide) rfl rfl (fun hc8 => ?_) (fun hc8 => absurd (by decide) hc8)
  refine we_aload_n (p := 14) dX11_ask_13 rfl rfl ?_
  refine we_getR (c := 10) (j := 8) (n := 13) (b := 85) (p := 17) dX11_ask_14 rfl rfl (by decide) (by decide) rfl (r_0_8 hF) rfl ?_
  refine we_aload_n (p := 18) dX11_ask_17 rfl rfl ?_
  refine we_getR (c := 10) (j := 2) (n := 13) (b := o) (p := 21) dX11_ask_18 rfl rfl (by decide) (by decide) rfl hoF rfl ?_
  obtain ⟨_, _, e1, rfl, I1, J1, F1, rfl, ⟨f1, rfl, rfl, hg⟩⟩ := x_seek (I := (hp_u I 0 10 0)) ho hF (oC_u hC ho (by decide)) hW (by omega) (f := I 87) (hu_ne (by decide))
  refine we_callV_v (p := 24) (k' := 6) (a := [.ref 85, .ref o]) (rr := []) dX11_ask_21 rfl rfl rfl rfl (rc_of rfl rfl (by decide) ⟨rfl, by decide⟩) (Nat.le_of_ble_eq_true rfl) (Nat.le_of_ble_eq_true rfl) (by decide) e1 (Or.inl rfl) rfl ?_
  refine we_aload_n (p := 25) dX11_ask_24 rfl rfl ?_
  refine we_getR (c := 10) (j := 8) (n := 13) (b := 85) (p := 28) dX11_ask_25 rfl rfl (by decide) (by decide) rfl (r_0_8 hF) rfl ?_
  refine wf_getI (c := 1) (j := 3) (n := 5) (v := (near0 D (I 87)).1) (p := 31) dX11_ask_28 rfl rfl (by decide) (by decide) (Or.inl rfl) hg.1 rfl ?_
  refine we_if_ne (t := 39) (p := 34) dX11_ask_31 (by decide) rfl rfl (fun hc31 => ?_) (fun hc31 => ?_)
  · skip
    refine we_aload_n (p := 40) dX11_ask_39 rfl rfl ?_
    refine we_getR (c := 10) (j := 8) (n := 13) (b := 85) (p := 43) dX11_ask_40 rfl rfl (by decide) (by decide) rfl (r_0_8 hF) rfl ?_
    refine we_callV_int (p := 46) (k' := 1) (a := [.ref 85]) (rr := []) dX11_ask_43 rfl rfl rfl rfl (rc_of rfl rfl (by decide) ⟨rfl, by decide⟩) (Nat.le_of_ble_eq_true rfl) (Nat.le_of_ble_eq_true rfl) (by decide) (x_bestQuestion hF hg b6 (by omega)) (Or.inl rfl) rfl ?_
    exact wi_ret dX11_ask_46 rfl rfl (by decide) (⟨congrArg (fun z => some (Value.int z)) (by simp only [hc31, ↓reduceIte]), _, _, _, rfl, f1, rfl, rfl⟩)
  · skip
    refine we_bipush (v := -2) (p := 36) dX11_ask_34 (by decide) rfl ?_
    refine we_goto (p := 46) dX11_ask_36 (by decide) rfl ?_
    exact wi_ret dX11_ask_46 rfl rfl (by decide) (⟨congrArg (fun z => some (Value.int z)) (by simp only [hc31, ↓reduceIte]), _, _, _, rfl, f1, rfl, rfl⟩)
set_option maxRecDepth 10000 in
theorem c_askLeaves_ok {I : Nat → Nat → Int32} {J : Nat → Nat → Int64} {F : Nat → Nat → Option Nat} {nc ns : Nat} {o : Nat} {D : oD} {s : Nat → Int32} (ho : isO o) (hF : RFok F) (hoF : F 0 2 = some o) (hC : oC I o D) (hW : WF D) (hm : mo I 42 s) (hS : WFs D s) (ht1 : tol D = 1) (hn : 0 < dN D 6) : Ew 7 mX11_askLeaves 0 [.ref 0] [] ((SH, nc, ns), I, J, F) (Ret nc ns (some (.int (if (near0 D (I 87)).1 = 0 then -2 else lefS (near0 D (I 87)).2.2 8 (bqS (near0 D (I 87)).2.2 8 (dN D 6))))) (fun I' J' F' => Fr 85 93 (hp_u I 0 10 0) I' ∧ J' = J ∧ F' = F)) := by
  have hD := hW.c
  have hH := hW.h
  have hT := hW.t
  have bt := hT.2
  obtain ⟨b0, b1, b2, b3, b4, b5, b6⟩ := hD.2
  refine we_aload_n (p := 1) dX11_askLeaves_0 rfl rfl ?_
  refine we_aload_n (p := 2) dX11_askLeaves_1 rfl rfl ?_
  refine we_callV_int (p := 5) (k' := 2) (a := [.ref 0]) (rr := [.ref 0]) dX11_askLeaves_2 rfl rfl rfl rfl (rc_of rfl rfl (by decide) ⟨rfl, by decide⟩) (Nat.le_of_ble_eq_true rfl) (Nat.le_of_ble_eq_true rfl) (by decide) (x_ofNearly_ok ho hF hoF hC hW hm hS ht1 (by omega)) (Or.inl rfl) rfl ?_
  refine we_callV_int (p := 8) (k' := 0) (a := [.ref 0, .int 0]) (rr := []) dX11_askLeaves_5 rfl rfl rfl rfl (rc_of rfl rfl (by decide) ⟨rfl, by decide⟩) (Nat.le_of_ble_eq_true rfl) (Nat.le_of_ble_eq_true rfl) (by decide) (Ev.i (show rfS 0 = 0 by decide) (x_refused)) (Or.inl rfl) rfl ?_
  refine we_if_eq (t := 13) (p := 11) dX11_askLeaves_8 (by decide) rfl rfl (fun hc8 => ?_) (fun hc8 => absurd (by decide) hc8)
  refine we_aload_n (p := 14) dX11_askLeaves_13 rfl rfl ?_
  refine we_getR (c := 10) (j := 8) (n := 13) (b := 85) (p := 17) dX11_askLeaves_14 rfl rfl (by decide) (by decide) rfl (r_0_8 hF) rfl ?_
  refine we_aload_n (p := 18) dX11_askLeaves_17 rfl rfl ?_
  refine we_getR (c := 10) (j := 2) (n := 13) (b := o) (p := 21) dX11_askLeaves_18 rfl rfl (by decide) (by decide) rfl hoF rfl ?_
  obtain ⟨_, _, e1, rfl, I1, J1, F1, rfl, ⟨f1, rfl, rfl, hg⟩⟩ := x_seek (I := (hp_u I 0 10 0)) ho hF (oC_u hC ho (by decide)) hW (by omega) (f := I 87) (hu_ne (by decide))
  refine we_callV_v (p := 24) (k' := 6) (a := [.ref 85, .ref o]) (rr := []) dX11_askLeaves_21 rfl rfl rfl rfl (rc_of rfl rfl (by decide) ⟨rfl, by decide⟩) (Nat.le_of_ble_eq_true rfl) (Nat.le_of_ble_eq_true rfl) (by decide) e1 (Or.inl rfl) rfl ?_
  refine we_aload_n (p := 25) dX11_askLeaves_24 rfl rfl ?_
  refine we_getR (c := 10) (j := 8) (n := 13) (b := 85) (p := 28) dX11_askLeaves_25 rfl rfl (by decide) (by decide) rfl (r_0_8 hF) rfl ?_
  refine wf_getI (c := 1) (j := 3) (n := 5) (v := (near0 D (I 87)).1) (p := 31) dX11_askLeaves_28 rfl rfl (by decide) (by decide) (Or.inl rfl) hg.1 rfl ?_
  refine we_if_ne (t := 39) (p := 34) dX11_askLeaves_31 (by decide) rfl rfl (fun hc31 => ?_) (fun hc31 => ?_)
  · skip
    refine we_aload_n (p := 40) dX11_askLeaves_39 rfl rfl ?_
    refine we_getR (c := 10) (j := 8) (n := 13) (b := 85) (p := 43) dX11_askLeaves_40 rfl rfl (by decide) (by decide) rfl (r_0_8 hF) rfl ?_
    refine we_aload_n (p := 44) dX11_askLeaves_43 rfl rfl ?_
    refine we_getR (c := 10) (j := 8) (n := 13) (b := 85) (p := 47) dX11_askLeaves_44 rfl rfl (by decide) (by decide) rfl (r_0_8 hF) rfl ?_
    refine we_callV_int (p := 50) (k' := 1) (a := [.ref 85]) (rr := [.ref 85]) dX11_askLeaves_47 rfl rfl rfl rfl (rc_of rfl rfl (by decide) ⟨rfl, by decide⟩) (Nat.le_of_ble_eq_true rfl) (Nat.le_of_ble_eq_true rfl) (by decide) (x_bestQuestion hF hg b6 (by omega)) (Or.inl rfl) rfl ?_
    refine we_callV_int (p := 53) (k' := 0) (a := [.ref 85, .int (nI (bqS (near0 D (I 87)).2.2 8 (dN D 6)))]) (rr := []) dX11_askLeaves_50 rfl rfl rfl rfl (rc_of rfl rfl (by decide) ⟨rfl, by decide⟩) (Nat.le_of_ble_eq_true rfl) (Nat.le_of_ble_eq_true rfl) (by decide) (x_leftAtMost hF hg (i := (bqS (near0 D (I 87)).2.2 8 (dN D 6))) (by have := bq_lt (t := (near0 D (I 87)).2.2) (W := 8) (show 0 < dN D 6 by omega); omega)) (Or.inl rfl) rfl ?_
    exact wi_ret dX11_askLeaves_53 rfl rfl (by decide) (⟨congrArg (fun z => some (Value.int z)) (by simp only [hc31, ↓reduceIte]), _, _, _, rfl, f1, rfl, rfl⟩)
  · skip
    refine we_bipush (v := -2) (p := 36) dX11_askLeaves_34 (by decide) rfl ?_
    refine we_goto (p := 53) dX11_askLeaves_36 (by decide) rfl ?_
    exact wi_ret dX11_askLeaves_53 rfl rfl (by decide) (⟨congrArg (fun z => some (Value.int z)) (by simp only [hc31, ↓reduceIte]), _, _, _, rfl, f1, rfl, rfl⟩)
