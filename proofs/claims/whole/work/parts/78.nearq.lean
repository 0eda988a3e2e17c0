/-! The reference: what is asked of the rows. -/
set_option maxRecDepth 10000 in
theorem y_seek0 {J : Nat → Nat → Int64} {F : Nat → Nat → Option Nat} {nc ns : Nat} {I0 : Nat → Nat → Int32} (hF : RFok F)  {Q : Option Value → hp_H → Prop} : ∀ (m j : Nat) (I : Nat → Nat → Int32), j + m = 32 → (Fr 110 111 I0 I ∧ ∀ i, i < j → I 110 i = 0) → (∀ (I : Nat → Nat → Int32), (Fr 110 111 I0 I ∧ ∀ i, i < 32 → I 110 i = 0) → Ew 8 mX12_seekNear 26 [.ref 95, .int (nI 32)] [] ((SH, nc, ns), I, J, F) Q) → Ew 8 mX12_seekNear 7 [.ref 95, .int (nI j)] [] ((SH, nc, ns), I, J, F) Q
  | 0, j, I, hj, hI, hq => by
    obtain rfl : j = 32 := by omega
    refine we_iload_n (p := 8) dX12_seekNear_7 rfl rfl ?_
    refine we_bipush (v := 32) (p := 10) dX12_seekNear_8 (by decide) rfl ?_
    refine we_icmp_ge (t := 26) (p := 13) dX12_seekNear_10 (by decide) rfl rfl (fun hc10 => ?_) (fun hc10 => absurd (nI_le (a := 32) (b := 32) (by omega) (by omega)) hc10)
    exact hq _  hI
  | m + 1, j, I, hj, hI, hq => by
    refine we_iload_n (p := 8) dX12_seekNear_7 rfl rfl ?_
    refine we_bipush (v := 32) (p := 10) dX12_seekNear_8 (by decide) rfl ?_
    refine we_icmp_ge (t := 26) (p := 13) dX12_seekNear_10 (by decide) rfl rfl (fun hc10 => absurd hc10 (nI_ge (a := j) (b := 32) (by omega) (by omega))) (fun hc10 => ?_)
    refine we_aload_n (p := 14) dX12_seekNear_13 rfl rfl ?_
    refine we_getR (c := 11) (j := 33) (n := 37) (b := 110) (p := 17) dX12_seekNear_14 rfl rfl (by decide) (by decide) rfl (r_95_33 hF) rfl ?_
    refine we_iload_n (p := 18) dX12_seekNear_17 rfl rfl ?_
    refine we_iconst (v := 0) (p := 19) dX12_seekNear_18 (by decide) rfl ?_
    refine wf_iast (n := 32) (i := j) (p := 20) dX12_seekNear_19 rfl (by decide) (in_nJ (by omega) (by decide)) (nI_cl (by omega)) rfl ?_
    refine we_iinc (ls1 := [.ref 95, .int ((nI j) + 1)]) (p := 23) dX12_seekNear_20 rfl rfl rfl ?_
    refine we_goto (p := 7) dX12_seekNear_23 (by decide) rfl ?_
    rw [nI_1]
    exact y_seek0 hF m (j + 1) _  (by omega) (⟨hI.1.u (by decide) (by decide), fun i hi => by rw [hu_if]; split; rfl; exact hI.2 i (by omega)⟩) hq
set_option maxRecDepth 10000 in
theorem y_seekNear {I : Nat → Nat → Int32} {J : Nat → Nat → Int64} {F : Nat → Nat → Option Nat} {nc ns : Nat} {D : oD} (hF : RFok F) (hM : oM I 98 D) (hW : WF D) {f : Nat → Int32} (hf : I 109 = f) : Ew 8 mX12_seekNear 0 [.ref 95, .null] [] ((SH, nc, ns), I, J, F) (Ret nc ns none (fun I' J' F' => Fm 108 111 34 35 I I' ∧ J' = J ∧ F' = F ∧ gM (dN D 6) I' (near0 D f))) := by
  have hD := hW.c
  have hH := hW.h
  have hT := hW.t
  have bt := hT.2
  obtain ⟨b0, b1, b2, b3, b4, b5, b6⟩ := hD.2
  refine we_aload_n (p := 1) dX12_seekNear_0 rfl rfl ?_
  refine we_iconst (v := 0) (p := 2) dX12_seekNear_1 (by decide) rfl ?_
  refine we_putI (c := 11) (j := 34) (n := 37)  (p := 5) dX12_seekNear_2 rfl rfl (by decide) (by decide) rfl rfl rfl ?_
  refine we_iconst (v := 0) (p := 6) dX12_seekNear_5 (by decide) rfl ?_
  refine we_istore_n (ls1 := [.ref 95, .int 0]) (p := 7) dX12_seekNear_6 rfl rfl ?_
  refine y_seek0 hF 32 0 (hp_u I 95 34 0) (by omega) ⟨Fr.rf, fun i hi => absurd hi (by omega)⟩ (fun I1 hI1 => ?_)
  have qf : Fm 108 111 34 35 I I1 := (Fm.rf.f (v := 0) (by omega) (by omega)).tr ⟨fun p h1 h2 => hI1.1 p (by omega), fun j h1 => congrFun (hI1.1 95 (by omega)) j⟩
  have hg1 : gM (dN D 6) I1 (0, f, fun _ _ => 0) := ⟨(congrFun (hI1.1 95 (by omega)) 34).trans hu_eq, fun i hi => (congrFun ((hI1.1 109 (by omega)).trans (hu_ne (by omega))) i).trans (congrFun hf i), fun i hi w hw => hI1.2 _ (by omega)⟩
  refine we_aload_n (p := 27) dX12_seekNear_26 rfl rfl ?_
  refine we_iconst (v := 0) (p := 28) dX12_seekNear_27 (by decide) rfl ?_
  refine we_iconst (v := 0) (p := 29) dX12_seekNear_28 (by decide) rfl ?_
  obtain ⟨_, _, e2, rfl, I2, J2, F2, rfl, ⟨f2, rfl, rfl, g2, r2⟩⟩ := y_tryNear hF hW (dN D 6) 0 0 0 (fun _ => 0) (0, f, fun _ _ => 0) I1 rfl (by omega) (oM_fr hM (qf.1 98 (by omega) (by omega))) hg1 (fun i hi => absurd hi (by omega)) (fun i hi => absurd hi (by omega))
  refine we_callV_v (p := 32) (k' := (dN D 6 + 3)) (a := [.ref 95, .int 0, .int 0]) (rr := []) dX12_seekNear_29 rfl rfl rfl rfl (rc_of rfl rfl (by decide) ⟨rfl, by decide⟩) (Nat.le_of_ble_eq_true rfl) (Nat.le_of_ble_eq_true rfl) (by omega) e2 (Or.inl rfl) rfl ?_
  exact wv_ret dX12_seekNear_32 rfl (⟨rfl, _, _, _, rfl, qf.tr f2, rfl, rfl, g2⟩)
def lefM (t : Nat → Nat → Int32) (i w : Nat) (a : Int32) : Int32 := if t i w ≤ a then a else t i w
theorem lefM_eq {t : Nat → Nat → Int32} {i w : Nat} {a : Int32} : lefM t i w a = lefF t i w a := by
  unfold lefM lefF
  by_cases c : a < t i w
  · rw [if_pos c, if_neg (Int32.not_le.mpr c)]
  · rw [if_neg c, if_pos (Int32.not_lt.mp c)]
set_option maxRecDepth 10000 in
theorem y_leavesBy_L {I : Nat → Nat → Int32} {J : Nat → Nat → Int64} {F : Nat → Nat → Option Nat} {nc ns : Nat} {D : oD} {a : gA} {i : Nat} (hF : RFok F) (hM : oM I 98 D) (hW : WF D) (hg : gM (dN D 6) I a) (hi : i < 4)  : ∀ (m j : Nat) (acc : Int32), j + m = dN D 2 → Ev 0 mX12_leavesBy 4 [.ref 95, .int (nI i), .int acc, .int (nI j)] [] ((SH, nc, ns), I, J, F) (some (.int (gN (lefM a.2.2 i) j m acc))) ((SH, nc, ns), I, J, F)
  | 0, j, acc, hj => by
    have hD := hW.c
    have hH := hW.h
    have hT := hW.t
    have bt := hT.2
    obtain ⟨b0, b1, b2, b3, b4, b5, b6⟩ := hD.2
    refine e_iload_n (p := 5) dX12_leavesBy_4 rfl rfl ?_
    refine e_aload_n (p := 6) dX12_leavesBy_5 rfl rfl ?_
    refine e_getR (c := 11) (j := 15) (n := 37) (b := 98) (p := 9) dX12_leavesBy_6 rfl rfl (by decide) (by decide) rfl (r_95_15 hF) rfl ?_
    refine e_iconst (v := 4) (p := 10) dX12_leavesBy_9 (by decide) rfl ?_
    refine f_iald (n := 276) (i := 4) (v := nI (dN D 2)) (p := 11) dX12_leavesBy_10 rfl (by decide) (by decide) (by decide) (mNn (i := 2) hM hD (by decide)) rfl ?_
    refine e_icmp_ge (t := 51) (p := 14) dX12_leavesBy_11 (by decide) rfl rfl (fun hc11 => ?_) (fun hc11 => absurd (nle (by omega) (by omega)) hc11)
    refine e_iload_n (p := 52) dX12_leavesBy_51 rfl rfl ?_
    exact e_iretE dX12_leavesBy_52 rfl rfl (by decide) ⟨rfl, rfl⟩
  | m + 1, j, acc, hj => by
    have hD := hW.c
    have hH := hW.h
    have hT := hW.t
    have bt := hT.2
    obtain ⟨b0, b1, b2, b3, b4, b5, b6⟩ := hD.2
    refine e_iload_n (p := 5) dX12_leavesBy_4 rfl rfl ?_
    refine e_aload_n (p := 6) dX12_leavesBy_5 rfl rfl ?_
    refine e_getR (c := 11) (j := 15) (n := 37) (b := 98) (p := 9) dX12_leavesBy_6 rfl rfl (by decide) (by decide) rfl (r_95_15 hF) rfl ?_
    refine e_iconst (v := 4) (p := 10) dX12_leavesBy_9 (by decide) rfl ?_
    refine f_iald (n := 276) (i := 4) (v := nI (dN D 2)) (p := 11) dX12_leavesBy_10 rfl (by decide) (by decide) (by decide) (mNn (i := 2) hM hD (by decide)) rfl ?_
    refine e_icmp_ge (t := 51) (p := 14) dX12_leavesBy_11 (by decide) rfl rfl (fun hc11 => absurd hc11 (nge (by omega) (by omega))) (fun hc11 => ?_)
    refine e_aload_n (p := 15) dX12_leavesBy_14 rfl rfl ?_
    refine e_getR (c := 11) (j := 33) (n := 37) (b := 110) (p := 18) dX12_leavesBy_15 rfl rfl (by decide) (by decide) rfl (r_95_33 hF) rfl ?_
    refine e_bipush (v := 8) (p := 20) dX12_leavesBy_18 (by decide) rfl ?_
    refine e_iload_n (p := 21) dX12_leavesBy_20 rfl rfl ?_
    refine e_imul (p := 22) dX12_leavesBy_21 rfl ?_
    refine e_iload_n (p := 23) dX12_leavesBy_22 rfl rfl ?_
    refine e_iadd (p := 24) dX12_leavesBy_23 rfl ?_
    refine f_iald (n := 32) (i := (8 * i + j)) (v := a.2.2 i j) (p := 25) dX12_leavesBy_24 rfl (by decide) (in_ix (ix8 i j) (by omega) (by decide)) (cl_ix (ix8 i j) (by omega)) (hg.2.2 i (by omega) j (by omega)) rfl ?_
    refine e_iload_n (p := 26) dX12_leavesBy_25 rfl rfl ?_
    refine e_icmp_le (t := 43) (p := 29) dX12_leavesBy_26 (by decide) rfl rfl (fun hc26 => ?_) (fun hc26 => ?_)
    · skip
      refine e_iload_n (p := 44) dX12_leavesBy_43 rfl rfl ?_
      refine e_istore_n (ls1 := [.ref 95, .int (nI i), .int acc, .int (nI j)]) (p := 45) dX12_leavesBy_44 rfl rfl ?_
      refine e_iinc (ls1 := [.ref 95, .int (nI i), .int acc, .int ((nI j) + 1)]) (p := 48) dX12_leavesBy_45 rfl rfl rfl ?_
      refine e_goto (p := 4) dX12_leavesBy_48 (by decide) rfl ?_
      rw [nI_1]
      exact Ev.res (by simp only [gN_s, lefM, hc26, (Int32.not_lt.mpr hc26), bit, Int32.or_zero, Int32.add_zero, ↓reduceIte]) (y_leavesBy_L hF hM hW hg hi m (j + 1) acc  (by omega))
    · skip
      refine e_aload_n (p := 30) dX12_leavesBy_29 rfl rfl ?_
      refine e_getR (c := 11) (j := 33) (n := 37) (b := 110) (p := 33) dX12_leavesBy_30 rfl rfl (by decide) (by decide) rfl (r_95_33 hF) rfl ?_
      refine e_bipush (v := 8) (p := 35) dX12_leavesBy_33 (by decide) rfl ?_
      refine e_iload_n (p := 36) dX12_leavesBy_35 rfl rfl ?_
      refine e_imul (p := 37) dX12_leavesBy_36 rfl ?_
      refine e_iload_n (p := 38) dX12_leavesBy_37 rfl rfl ?_
      refine e_iadd (p := 39) dX12_leavesBy_38 rfl ?_
      refine f_iald (n := 32) (i := (8 * i + j)) (v := a.2.2 i j) (p := 40) dX12_leavesBy_39 rfl (by decide) (in_ix (ix8 i j) (by omega) (by decide)) (cl_ix (ix8 i j) (by omega)) (hg.2.2 i (by omega) j (by omega)) rfl ?_
      refine e_goto (p := 44) dX12_leavesBy_40 (by decide) rfl ?_
      refine e_istore_n (ls1 := [.ref 95, .int (nI i), .int (a.2.2 i j), .int (nI j)]) (p := 45) dX12_leavesBy_44 rfl rfl ?_
      refine e_iinc (ls1 := [.ref 95, .int (nI i), .int (a.2.2 i j), .int ((nI j) + 1)]) (p := 48) dX12_leavesBy_45 rfl rfl rfl ?_
      refine e_goto (p := 4) dX12_leavesBy_48 (by decide) rfl ?_
      rw [nI_1]
      exact Ev.res (by simp only [gN_s, lefM, hc26, (Int32.not_le.mp hc26), bit, Int32.or_zero, Int32.add_zero, ↓reduceIte]) (y_leavesBy_L hF hM hW hg hi m (j + 1) (a.2.2 i j)  (by omega))
set_option maxRecDepth 10000 in
theorem y_leavesBy {I : Nat → Nat → Int32} {J : Nat → Nat → Int64} {F : Nat → Nat → Option Nat} {nc ns : Nat} {D : oD} {a : gA} {i : Nat} (hF : RFok F) (hM : oM I 98 D) (hW : WF D) (hg : gM (dN D 6) I a) (hi : i < 4)  : Ev 0 mX12_leavesBy 0 [.ref 95, .int (nI i), .null, .null] [] ((SH, nc, ns), I, J, F) (some (.int (lefS a.2.2 (dN D 2) i))) ((SH, nc, ns), I, J, F) := by
  have hD := hW.c
  have hH := hW.h
  have hT := hW.t
  have bt := hT.2
  obtain ⟨b0, b1, b2, b3, b4, b5, b6⟩ := hD.2
  refine e_iconst (v := 0) (p := 1) dX12_leavesBy_0 (by decide) rfl ?_
  refine e_istore_n (ls1 := [.ref 95, .int (nI i), .int 0, .null]) (p := 2) dX12_leavesBy_1 rfl rfl ?_
  refine e_iconst (v := 0) (p := 3) dX12_leavesBy_2 (by decide) rfl ?_
  refine e_istore_n (ls1 := [.ref 95, .int (nI i), .int 0, .int 0]) (p := 4) dX12_leavesBy_3 rfl rfl ?_
  exact Ev.i (gN_c (fun _ _ _ _ => lefM_eq)) (y_leavesBy_L hF hM hW hg hi (dN D 2) 0 _ (by omega))
set_option maxRecDepth 10000 in
theorem y_could_L {I : Nat → Nat → Int32} {J : Nat → Nat → Int64} {F : Nat → Nat → Option Nat} {nc ns : Nat} {D : oD} {a : gA} {i : Nat} (hF : RFok F) (hM : oM I 98 D) (hW : WF D) (hg : gM (dN D 6) I a) (hi : i < 4)  : ∀ (m j : Nat) (acc : Int32), j + m = dN D 2 → Ev 9 mX12_could 26 [.ref 95, .int (nI i), .int acc, .int (nI j)] [] ((SH, nc, ns), I, J, F) (some (.int (gN (posF a.2.2 i) j m acc))) ((SH, nc, ns), I, J, F)
  | 0, j, acc, hj => by
    have hD := hW.c
    have hH := hW.h
    have hT := hW.t
    have bt := hT.2
    obtain ⟨b0, b1, b2, b3, b4, b5, b6⟩ := hD.2
    refine e_iload_n (p := 27) dX12_could_26 rfl rfl ?_
    refine e_aload_n (p := 28) dX12_could_27 rfl rfl ?_
    refine e_getR (c := 11) (j := 15) (n := 37) (b := 98) (p := 31) dX12_could_28 rfl rfl (by decide) (by decide) rfl (r_95_15 hF) rfl ?_
    refine e_iconst (v := 4) (p := 32) dX12_could_31 (by decide) rfl ?_
    refine f_iald (n := 276) (i := 4) (v := nI (dN D 2)) (p := 33) dX12_could_32 rfl (by decide) (by decide) (by decide) (mNn (i := 2) hM hD (by decide)) rfl ?_
    refine e_icmp_ge (t := 66) (p := 36) dX12_could_33 (by decide) rfl rfl (fun hc33 => ?_) (fun hc33 => absurd (nle (by omega) (by omega)) hc33)
    refine e_iload_n (p := 67) dX12_could_66 rfl rfl ?_
    exact e_iretE dX12_could_67 rfl rfl (by decide) ⟨rfl, rfl⟩
  | m + 1, j, acc, hj => by
    have hD := hW.c
    have hH := hW.h
    have hT := hW.t
    have bt := hT.2
    obtain ⟨b0, b1, b2, b3, b4, b5, b6⟩ := hD.2
    refine e_iload_n (p := 27) dX12_could_26 rfl rfl ?_
    refine e_aload_n (p := 28) dX12_could_27 rfl rfl ?_
    refine e_getR (c := 11) (j := 15) (n := 37) (b := 98) (p := 31) dX12_could_28 rfl rfl (by decide) (by decide) rfl (r_95_15 hF) rfl ?_
    refine e_iconst (v := 4) (p := 32) dX12_could_31 (by decide) rfl ?_
    refine f_iald (n := 276) (i := 4) (v := nI (dN D 2)) (p := 33) dX12_could_32 rfl (by decide) (by decide) (by decide) (mNn (i := 2) hM hD (by decide)) rfl ?_
    refine e_icmp_ge (t := 66) (p := 36) dX12_could_33 (by decide) rfl rfl (fun hc33 => absurd hc33 (nge (by omega) (by omega))) (fun hc33 => ?_)
    refine e_iload_n (p := 37) dX12_could_36 rfl rfl ?_
    refine e_aload_n (p := 38) dX12_could_37 rfl rfl ?_
    refine e_getR (c := 11) (j := 33) (n := 37) (b := 110) (p := 41) dX12_could_38 rfl rfl (by decide) (by decide) rfl (r_95_33 hF) rfl ?_
    refine e_bipush (v := 8) (p := 43) dX12_could_41 (by decide) rfl ?_
    refine e_iload_n (p := 44) dX12_could_43 rfl rfl ?_
    refine e_imul (p := 45) dX12_could_44 rfl ?_
    refine e_iload_n (p := 46) dX12_could_45 rfl rfl ?_
    refine e_iadd (p := 47) dX12_could_46 rfl ?_
    refine f_iald (n := 32) (i := (8 * i + j)) (v := a.2.2 i j) (p := 48) dX12_could_47 rfl (by decide) (in_ix (ix8 i j) (by omega) (by decide)) (cl_ix (ix8 i j) (by omega)) (hg.2.2 i (by omega) j (by omega)) rfl ?_
    refine e_if_le (t := 57) (p := 51) dX12_could_48 (by decide) rfl rfl (fun hc48 => ?_) (fun hc48 => ?_)
    · skip
      refine e_iconst (v := 0) (p := 58) dX12_could_57 (by decide) rfl ?_
      refine e_ior (p := 59) dX12_could_58 rfl ?_
      refine e_istore_n (ls1 := [.ref 95, .int (nI i), .int (acc ||| 0), .int (nI j)]) (p := 60) dX12_could_59 rfl rfl ?_
      refine e_iinc (ls1 := [.ref 95, .int (nI i), .int (acc ||| 0), .int ((nI j) + 1)]) (p := 63) dX12_could_60 rfl rfl rfl ?_
      refine e_goto (p := 26) dX12_could_63 (by decide) rfl ?_
      rw [nI_1]
      exact Ev.res (by simp only [gN_s, posF, hc48, (Int32.not_lt.mpr hc48), bit, Int32.or_zero, Int32.add_zero, ↓reduceIte]) (y_could_L hF hM hW hg hi m (j + 1) (acc ||| 0)  (by omega))
    · skip
      refine e_iconst (v := 1) (p := 52) dX12_could_51 (by decide) rfl ?_
      refine e_iload_n (p := 53) dX12_could_52 rfl rfl ?_
      refine e_ishl (p := 54) dX12_could_53 rfl ?_
      refine e_goto (p := 58) dX12_could_54 (by decide) rfl ?_
      refine e_ior (p := 59) dX12_could_58 rfl ?_
      refine e_istore_n (ls1 := [.ref 95, .int (nI i), .int (acc ||| (1 <<< ((nI j) &&& 31))), .int (nI j)]) (p := 60) dX12_could_59 rfl rfl ?_
      refine e_iinc (ls1 := [.ref 95, .int (nI i), .int (acc ||| (1 <<< ((nI j) &&& 31))), .int ((nI j) + 1)]) (p := 63) dX12_could_60 rfl rfl rfl ?_
      refine e_goto (p := 26) dX12_could_63 (by decide) rfl ?_
      rw [nI_1]
      exact Ev.res (by simp only [gN_s, posF, hc48, (Int32.not_le.mp hc48), bit, Int32.or_zero, Int32.add_zero, ↓reduceIte]) (y_could_L hF hM hW hg hi m (j + 1) (acc ||| (1 <<< ((nI j) &&& 31)))  (by omega))
set_option maxRecDepth 10000 in
theorem y_surely_L {I : Nat → Nat → Int32} {J : Nat → Nat → Int64} {F : Nat → Nat → Option Nat} {nc ns : Nat} {D : oD} {a : gA} {i : Nat} (hF : RFok F) (hM : oM I 98 D) (hW : WF D) (hg : gM (dN D 6) I a) (hi : i < 4)  : ∀ (m j : Nat) , j + m = dN D 2 → Ev 9 mX12_surely 24 [.ref 95, .int (nI i), .int (nI j)] [] ((SH, nc, ns), I, J, F) (some (.int (cerG a.2.2 a.1 i j m))) ((SH, nc, ns), I, J, F)
  | 0, j, hj => by
    have hD := hW.c
    have hH := hW.h
    have hT := hW.t
    have bt := hT.2
    obtain ⟨b0, b1, b2, b3, b4, b5, b6⟩ := hD.2
    refine e_iload_n (p := 25) dX12_surely_24 rfl rfl ?_
    refine e_aload_n (p := 26) dX12_surely_25 rfl rfl ?_
    refine e_getR (c := 11) (j := 15) (n := 37) (b := 98) (p := 29) dX12_surely_26 rfl rfl (by decide) (by decide) rfl (r_95_15 hF) rfl ?_
    refine e_iconst (v := 4) (p := 30) dX12_surely_29 (by decide) rfl ?_
    refine f_iald (n := 276) (i := 4) (v := nI (dN D 2)) (p := 31) dX12_surely_30 rfl (by decide) (by decide) (by decide) (mNn (i := 2) hM hD (by decide)) rfl ?_
    refine e_icmp_ge (t := 67) (p := 34) dX12_surely_31 (by decide) rfl rfl (fun hc31 => ?_) (fun hc31 => absurd (nle (by omega) (by omega)) hc31)
    refine e_bipush (v := -2) (p := 69) dX12_surely_67 (by decide) rfl ?_
    exact e_iretE dX12_surely_69 rfl rfl (by decide) ⟨rfl, rfl⟩
  | m + 1, j, hj => by
    have hD := hW.c
    have hH := hW.h
    have hT := hW.t
    have bt := hT.2
    obtain ⟨b0, b1, b2, b3, b4, b5, b6⟩ := hD.2
    refine e_iload_n (p := 25) dX12_surely_24 rfl rfl ?_
    refine e_aload_n (p := 26) dX12_surely_25 rfl rfl ?_
    refine e_getR (c := 11) (j := 15) (n := 37) (b := 98) (p := 29) dX12_surely_26 rfl rfl (by decide) (by decide) rfl (r_95_15 hF) rfl ?_
    refine e_iconst (v := 4) (p := 30) dX12_surely_29 (by decide) rfl ?_
    refine f_iald (n := 276) (i := 4) (v := nI (dN D 2)) (p := 31) dX12_surely_30 rfl (by decide) (by decide) (by decide) (mNn (i := 2) hM hD (by decide)) rfl ?_
    refine e_icmp_ge (t := 67) (p := 34) dX12_surely_31 (by decide) rfl rfl (fun hc31 => absurd hc31 (nge (by omega) (by omega))) (fun hc31 => ?_)
    refine e_aload_n (p := 35) dX12_surely_34 rfl rfl ?_
    refine f_getI (c := 11) (j := 34) (n := 37) (v := a.1) (p := 38) dX12_surely_35 rfl rfl (by decide) (by decide) (Or.inl rfl) hg.1 rfl ?_
    refine e_if_le (t := 61) (p := 41) dX12_surely_38 (by decide) rfl rfl (fun hc38 => ?_) (fun hc38 => ?_)
    · skip
      refine e_iinc (ls1 := [.ref 95, .int (nI i), .int ((nI j) + 1)]) (p := 64) dX12_surely_61 rfl rfl rfl ?_
      refine e_goto (p := 24) dX12_surely_64 (by decide) rfl ?_
      rw [nI_1]
      exact Ev.res (by simp only [cerG, hc38, ↓reduceIte]) (y_surely_L hF hM hW hg hi m (j + 1) (by omega))
    · skip
      refine e_aload_n (p := 42) dX12_surely_41 rfl rfl ?_
      refine e_getR (c := 11) (j := 33) (n := 37) (b := 110) (p := 45) dX12_surely_42 rfl rfl (by decide) (by decide) rfl (r_95_33 hF) rfl ?_
      refine e_bipush (v := 8) (p := 47) dX12_surely_45 (by decide) rfl ?_
      refine e_iload_n (p := 48) dX12_surely_47 rfl rfl ?_
      refine e_imul (p := 49) dX12_surely_48 rfl ?_
      refine e_iload_n (p := 50) dX12_surely_49 rfl rfl ?_
      refine e_iadd (p := 51) dX12_surely_50 rfl ?_
      refine f_iald (n := 32) (i := (8 * i + j)) (v := a.2.2 i j) (p := 52) dX12_surely_51 rfl (by decide) (in_ix (ix8 i j) (by omega) (by decide)) (cl_ix (ix8 i j) (by omega)) (hg.2.2 i (by omega) j (by omega)) rfl ?_
      refine e_aload_n (p := 53) dX12_surely_52 rfl rfl ?_
      refine f_getI (c := 11) (j := 34) (n := 37) (v := a.1) (p := 56) dX12_surely_53 rfl rfl (by decide) (by decide) (Or.inl rfl) hg.1 rfl ?_
      refine e_icmp_ne (t := 61) (p := 59) dX12_surely_56 (by decide) rfl rfl (fun hc56 => ?_) (fun hc56 => ?_)
      · skip
        refine e_iinc (ls1 := [.ref 95, .int (nI i), .int ((nI j) + 1)]) (p := 64) dX12_surely_61 rfl rfl rfl ?_
        refine e_goto (p := 24) dX12_surely_64 (by decide) rfl ?_
        rw [nI_1]
        exact Ev.res (by simp only [cerG, hc38, hc56, ↓reduceIte]) (y_surely_L hF hM hW hg hi m (j + 1) (by omega))
      · skip
        refine e_iload_n (p := 60) dX12_surely_59 rfl rfl ?_
        exact e_iretE dX12_surely_60 rfl rfl (by decide) ⟨by simp only [cerG, hc38, hc56, ↓reduceIte], rfl⟩
set_option maxRecDepth 10000 in
theorem y_askOf_L {I : Nat → Nat → Int32} {J : Nat → Nat → Int64} {F : Nat → Nat → Option Nat} {nc ns : Nat} {D : oD} {a : gA} (hF : RFok F) (hM : oM I 98 D) (hW : WF D) (hg : gM (dN D 6) I a) : ∀ (m j b : Nat), j + m = dN D 6 → b < dN D 6 → Ev 9 mX12_askOf 18 [.ref 95, .int (nI b), .int (nI j)] [] ((SH, nc, ns), I, J, F) (some (.int (nI (gN (bqF a.2.2 (dN D 2)) j m b)))) ((SH, nc, ns), I, J, F)
  | 0, j, b, hj, hb => by
    have hD := hW.c
    have hH := hW.h
    have hT := hW.t
    have bt := hT.2
    obtain ⟨b0, b1, b2, b3, b4, b5, b6⟩ := hD.2
    refine e_iload_n (p := 19) dX12_askOf_18 rfl rfl ?_
    refine e_aload_n (p := 20) dX12_askOf_19 rfl rfl ?_
    refine e_getR (c := 11) (j := 15) (n := 37) (b := 98) (p := 23) dX12_askOf_20 rfl rfl (by decide) (by decide) rfl (r_95_15 hF) rfl ?_
    refine e_bipush (v := 8) (p := 25) dX12_askOf_23 (by decide) rfl ?_
    refine f_iald (n := 276) (i := 8) (v := nI (dN D 6)) (p := 26) dX12_askOf_25 rfl (by decide) (by decide) (by decide) (mNn (i := 6) hM hD (by decide)) rfl ?_
    refine e_icmp_ge (t := 54) (p := 29) dX12_askOf_26 (by decide) rfl rfl (fun hc26 => ?_) (fun hc26 => absurd (nle (by omega) (by omega)) hc26)
    refine e_iload_n (p := 55) dX12_askOf_54 rfl rfl ?_
    exact e_iretE dX12_askOf_55 rfl rfl (by decide) ⟨rfl, rfl⟩
  | m + 1, j, b, hj, hb => by
    have hD := hW.c
    have hH := hW.h
    have hT := hW.t
    have bt := hT.2
    obtain ⟨b0, b1, b2, b3, b4, b5, b6⟩ := hD.2
    refine e_iload_n (p := 19) dX12_askOf_18 rfl rfl ?_
    refine e_aload_n (p := 20) dX12_askOf_19 rfl rfl ?_
    refine e_getR (c := 11) (j := 15) (n := 37) (b := 98) (p := 23) dX12_askOf_20 rfl rfl (by decide) (by decide) rfl (r_95_15 hF) rfl ?_
    refine e_bipush (v := 8) (p := 25) dX12_askOf_23 (by decide) rfl ?_
    refine f_iald (n := 276) (i := 8) (v := nI (dN D 6)) (p := 26) dX12_askOf_25 rfl (by decide) (by decide) (by decide) (mNn (i := 6) hM hD (by decide)) rfl ?_
    refine e_icmp_ge (t := 54) (p := 29) dX12_askOf_26 (by decide) rfl rfl (fun hc26 => absurd hc26 (nge (by omega) (by omega))) (fun hc26 => ?_)
    refine e_aload_n (p := 30) dX12_askOf_29 rfl rfl ?_
    refine e_iload_n (p := 31) dX12_askOf_30 rfl rfl ?_
    refine e_callV_int (p := 34) (k' := 0) (a := [.ref 95, .int (nI j)]) (rr := []) dX12_askOf_31 rfl rfl rfl rfl (rc_of rfl rfl (by decide) ⟨rfl, by decide⟩) (Nat.le_of_ble_eq_true rfl) (Nat.le_of_ble_eq_true rfl) (by decide) (y_leavesBy hF hM hW hg (i := j) (by omega)) (Or.inl rfl) rfl ?_
    refine e_aload_n (p := 35) dX12_askOf_34 rfl rfl ?_
    refine e_iload_n (p := 36) dX12_askOf_35 rfl rfl ?_
    refine e_callV_int (p := 39) (k' := 0) (a := [.ref 95, .int (nI b)]) (rr := [.int (lefS a.2.2 (dN D 2) j)]) dX12_askOf_36 rfl rfl rfl rfl (rc_of rfl rfl (by decide) ⟨rfl, by decide⟩) (Nat.le_of_ble_eq_true rfl) (Nat.le_of_ble_eq_true rfl) (by decide) (y_leavesBy hF hM hW hg (i := b) (by omega)) (Or.inl rfl) rfl ?_
    refine e_icmp_ge (t := 46) (p := 42) dX12_askOf_39 (by decide) rfl rfl (fun hc39 => ?_) (fun hc39 => ?_)
    · skip
      refine e_iload_n (p := 47) dX12_askOf_46 rfl rfl ?_
      refine e_istore_n (ls1 := [.ref 95, .int (nI b), .int (nI j)]) (p := 48) dX12_askOf_47 rfl rfl ?_
      refine e_iinc (ls1 := [.ref 95, .int (nI b), .int ((nI j) + 1)]) (p := 51) dX12_askOf_48 rfl rfl rfl ?_
      refine e_goto (p := 18) dX12_askOf_51 (by decide) rfl ?_
      rw [nI_1]
      exact Ev.res (by simp only [gN_s, bqF, hc39, (Int32.not_lt.mpr hc39), ↓reduceIte]) (y_askOf_L hF hM hW hg m (j + 1) b (by omega) (by omega))
    · skip
      refine e_iload_n (p := 43) dX12_askOf_42 rfl rfl ?_
      refine e_goto (p := 47) dX12_askOf_43 (by decide) rfl ?_
      refine e_istore_n (ls1 := [.ref 95, .int (nI j), .int (nI j)]) (p := 48) dX12_askOf_47 rfl rfl ?_
      refine e_iinc (ls1 := [.ref 95, .int (nI j), .int ((nI j) + 1)]) (p := 51) dX12_askOf_48 rfl rfl rfl ?_
      refine e_goto (p := 18) dX12_askOf_51 (by decide) rfl ?_
      rw [nI_1]
      exact Ev.res (by simp only [gN_s, bqF, hc39, (Int32.not_le.mp hc39), ↓reduceIte]) (y_askOf_L hF hM hW hg m (j + 1) j (by omega) (by omega))
set_option maxRecDepth 10000 in
theorem y_askOf {I : Nat → Nat → Int32} {J : Nat → Nat → Int64} {F : Nat → Nat → Option Nat} {nc ns : Nat} {D : oD} (hF : RFok F) (hM : oM I 98 D) (hW : WF D) {f : Nat → Int32} (hf : I 109 = f) (hn : 0 < dN D 6) : Ew 9 mX12_askOf 0 [.ref 95, .null, .null] [] ((SH, nc, ns), I, J, F) (Ret nc ns (some (.int (if (near0 D f).1 = 0 then -2 else nI (bqS (near0 D f).2.2 (dN D 2) (dN D 6))))) (fun I' J' F' => Fm 108 111 34 35 I I' ∧ J' = J ∧ F' = F ∧ gM (dN D 6) I' (near0 D f))) := by
  have hD := hW.c
  have hH := hW.h
  have hT := hW.t
  have bt := hT.2
  obtain ⟨b0, b1, b2, b3, b4, b5, b6⟩ := hD.2
  refine we_aload_n (p := 1) dX12_askOf_0 rfl rfl ?_
  obtain ⟨_, _, e1, rfl, I1, J1, F1, rfl, ⟨f1, rfl, rfl, hg⟩⟩ := y_seekNear (I := I) hF hM hW (f := f) hf
  refine we_callV_v (p := 4) (k' := 8) (a := [.ref 95]) (rr := []) dX12_askOf_1 rfl rfl rfl rfl (rc_of rfl rfl (by decide) ⟨rfl, by decide⟩) (Nat.le_of_ble_eq_true rfl) (Nat.le_of_ble_eq_true rfl) (by decide) e1 (Or.inl rfl) rfl ?_
  refine we_aload_n (p := 5) dX12_askOf_4 rfl rfl ?_
  refine wf_getI (c := 11) (j := 34) (n := 37) (v := (near0 D f).1) (p := 8) dX12_askOf_5 rfl rfl (by decide) (by decide) (Or.inl rfl) hg.1 rfl ?_
  refine we_if_ne (t := 14) (p := 11) dX12_askOf_8 (by decide) rfl rfl (fun hc8 => ?_) (fun hc8 => ?_)
  · skip
    refine we_iconst (v := 0) (p := 15) dX12_askOf_14 (by decide) rfl ?_
    refine we_istore_n (ls1 := [.ref 95, .int 0, .null]) (p := 16) dX12_askOf_15 rfl rfl ?_
    refine we_iconst (v := 1) (p := 17) dX12_askOf_16 (by decide) rfl ?_
    refine we_istore_n (ls1 := [.ref 95, .int 0, .int 1]) (p := 18) dX12_askOf_17 rfl rfl ?_
    exact (y_askOf_L hF (oM_fr hM (f1.1 98 (by omega) (by omega))) hW hg (dN D 6 - 1) 1 0 (by omega) hn).w ⟨congrArg (fun z => some (Value.int z)) (by simp only [hc8, ↓reduceIte]; rfl), _, _, _, rfl, f1, rfl, rfl, hg⟩
  · skip
    refine we_bipush (v := -2) (p := 13) dX12_askOf_11 (by decide) rfl ?_
    exact wi_ret dX12_askOf_13 rfl rfl (by decide) (⟨congrArg (fun z => some (Value.int z)) (by simp only [hc8, ↓reduceIte]), _, _, _, rfl, f1, rfl, rfl, hg⟩)
def nwS (t : Int32) (n : Nat) : Int32 := if t = 0 then 1 else if nI n = 0 then 6 else 0
set_option maxRecDepth 10000 in
theorem y_nearWhy {I : Nat → Nat → Int32} {J : Nat → Nat → Int64} {F : Nat → Nat → Option Nat} {nc ns : Nat} {D : oD} (hF : RFok F) (hM : oM I 98 D) (hW : WF D) (hO : I 95 14 = tol D)  : Ev 0 mX12_nearWhy 0 [.ref 95] [] ((SH, nc, ns), I, J, F) (some (.int (nwS (tol D) (dN D 6)))) ((SH, nc, ns), I, J, F) := by
  have hD := hW.c
  have hH := hW.h
  have hT := hW.t
  have bt := hT.2
  obtain ⟨b0, b1, b2, b3, b4, b5, b6⟩ := hD.2
  refine e_aload_n (p := 1) dX12_nearWhy_0 rfl rfl ?_
  refine f_getI (c := 11) (j := 14) (n := 37) (v := tol D) (p := 4) dX12_nearWhy_1 rfl rfl (by decide) (by decide) (Or.inr rfl) hO rfl ?_
  refine e_if_ne (t := 11) (p := 7) dX12_nearWhy_4 (by decide) rfl rfl (fun hc4 => ?_) (fun hc4 => ?_)
  · skip
    refine e_aload_n (p := 12) dX12_nearWhy_11 rfl rfl ?_
    refine e_getR (c := 11) (j := 15) (n := 37) (b := 98) (p := 15) dX12_nearWhy_12 rfl rfl (by decide) (by decide) rfl (r_95_15 hF) rfl ?_
    refine e_bipush (v := 8) (p := 17) dX12_nearWhy_15 (by decide) rfl ?_
    refine f_iald (n := 276) (i := 8) (v := nI (dN D 6)) (p := 18) dX12_nearWhy_17 rfl (by decide) (by decide) (by decide) (mNn (i := 6) hM hD (by decide)) rfl ?_
    refine e_if_ne (t := 26) (p := 21) dX12_nearWhy_18 (by decide) rfl rfl (fun hc18 => ?_) (fun hc18 => ?_)
    · skip
      refine e_iconst (v := 0) (p := 27) dX12_nearWhy_26 (by decide) rfl ?_
      exact e_iretE dX12_nearWhy_27 rfl rfl (by decide) ⟨by simp only [nwS, hc4, hc18, ↓reduceIte], rfl⟩
    · skip
      refine e_bipush (v := 6) (p := 23) dX12_nearWhy_21 (by decide) rfl ?_
      refine e_goto (p := 27) dX12_nearWhy_23 (by decide) rfl ?_
      exact e_iretE dX12_nearWhy_27 rfl rfl (by decide) ⟨by simp only [nwS, hc4, hc18, ↓reduceIte], rfl⟩
  · skip
    refine e_iconst (v := 1) (p := 8) dX12_nearWhy_7 (by decide) rfl ?_
    refine e_goto (p := 27) dX12_nearWhy_8 (by decide) rfl ?_
    exact e_iretE dX12_nearWhy_27 rfl rfl (by decide) ⟨by simp only [nwS, hc4, ↓reduceIte], rfl⟩
theorem nwy_ok {t : Int32} {n : Nat} (ht : t = 1) (h : 0 < n) (hn : n < 1000) : nwS t n = 0 := by
  unfold nwS
  rw [ht, if_neg (by decide), if_neg (nI_ne0 h (by omega))]
set_option maxRecDepth 10000 in
theorem q_rows_no {I : Nat → Nat → Int32} {J : Nat → Nat → Int64} {F : Nat → Nat → Option Nat} {nc ns : Nat} {D : oD} (hF : RFok F) (hM : oM I 98 D) (hW : WF D) (hO : I 95 14 = tol D) (ht : ¬ (if tol D = 0 then 1 else if nI (dN D 6) = 0 then 6 else 0) = 0) : Ev 9 mX12_rows 0 [.ref 95] [] ((SH, nc, ns), I, J, F) (some (.int (-1))) ((SH, nc, ns), hp_u (hp_u I 95 0 0) 95 11 (if tol D = 0 then 1 else if nI (dN D 6) = 0 then 6 else 0), J, F) := by
  have hD := hW.c
  have hH := hW.h
  have hT := hW.t
  have bt := hT.2
  obtain ⟨b0, b1, b2, b3, b4, b5, b6⟩ := hD.2
  refine e_aload_n (p := 1) dX12_rows_0 rfl rfl ?_
  refine e_callV_v (p := 4) (k' := 0) (a := [.ref 95]) (rr := []) dX12_rows_1 rfl rfl rfl rfl (rc_of rfl rfl (by decide) ⟨rfl, by decide⟩) (Nat.le_of_ble_eq_true rfl) (Nat.le_of_ble_eq_true rfl) (by decide) y_good (Or.inl rfl) rfl ?_
  refine e_aload_n (p := 5) dX12_rows_4 rfl rfl ?_
  refine f_getI (c := 11) (j := 14) (n := 37) (v := tol D) (p := 8) dX12_rows_5 rfl rfl (by decide) (by decide) (Or.inr rfl) (I_u (I_u hO (by decide)) (by decide)) rfl ?_
  refine e_if_ne (t := 17) (p := 11) dX12_rows_8 (by decide) rfl rfl (fun hc8 => ?_) (fun hc8 => ?_)
  · skip
    refine e_aload_n (p := 18) dX12_rows_17 rfl rfl ?_
    refine e_getR (c := 11) (j := 15) (n := 37) (b := 98) (p := 21) dX12_rows_18 rfl rfl (by decide) (by decide) rfl (r_95_15 hF) rfl ?_
    refine e_bipush (v := 8) (p := 23) dX12_rows_21 (by decide) rfl ?_
    refine f_iald (n := 276) (i := 8) (v := nI (dN D 6)) (p := 24) dX12_rows_23 rfl (by decide) (by decide) (by decide) (mNn (i := 6) (oM_u (oM_u hM (by decide)) (by decide)) hD (by decide)) rfl ?_
    refine e_if_ne (t := 34) (p := 27) dX12_rows_24 (by decide) rfl rfl (fun hc24 => ?_) (fun hc24 => ?_)
    · skip
      first | (refine absurd ?_ ht; simp only [hc8, hc24, ↓reduceIte]; done) | (exfalso; simp_all; done)
    · skip
      refine e_aload_n (p := 28) dX12_rows_27 rfl rfl ?_
      refine e_bipush (v := 6) (p := 30) dX12_rows_28 (by decide) rfl ?_
      refine e_callV_int (p := 33) (k' := 0) (a := [.ref 95, .int 6]) (rr := []) dX12_rows_30 rfl rfl rfl rfl (rc_of rfl rfl (by decide) ⟨rfl, by decide⟩) (Nat.le_of_ble_eq_true rfl) (Nat.le_of_ble_eq_true rfl) (by decide) y_no (Or.inl rfl) rfl ?_
      exact e_iretE dX12_rows_33 rfl rfl (by decide) ⟨rfl, hpq (by first | (simp only [hc8, hc24, ↓reduceIte]; done) | (exfalso; simp_all; done))⟩
  · skip
    refine e_aload_n (p := 12) dX12_rows_11 rfl rfl ?_
    refine e_iconst (v := 1) (p := 13) dX12_rows_12 (by decide) rfl ?_
    refine e_callV_int (p := 16) (k' := 0) (a := [.ref 95, .int 1]) (rr := []) dX12_rows_13 rfl rfl rfl rfl (rc_of rfl rfl (by decide) ⟨rfl, by decide⟩) (Nat.le_of_ble_eq_true rfl) (Nat.le_of_ble_eq_true rfl) (by decide) y_no (Or.inl rfl) rfl ?_
    exact e_iretE dX12_rows_16 rfl rfl (by decide) ⟨rfl, hpq (by first | (simp only [hc8, ↓reduceIte]; done) | (exfalso; simp_all; done))⟩
set_option maxRecDepth 10000 in
theorem q_rows_ok {I : Nat → Nat → Int32} {J : Nat → Nat → Int64} {F : Nat → Nat → Option Nat} {nc ns : Nat} {D : oD} (hF : RFok F) (hM : oM I 98 D) (hW : WF D) (hO : I 95 14 = tol D) (ht1 : tol D = 1) (hn : 0 < dN D 6) {f : Nat → Int32} (hf : I 109 = f) : Ew 9 mX12_rows 0 [.ref 95] [] ((SH, nc, ns), I, J, F) (Ret nc ns (some (.int ((near0 D f).1))) (fun I' J' F' => Fm 108 111 34 35 (hp_u (hp_u I 95 0 0) 95 11 0) I' ∧ J' = J ∧ F' = F)) := by
  have hD := hW.c
  have hH := hW.h
  have hT := hW.t
  have bt := hT.2
  obtain ⟨b0, b1, b2, b3, b4, b5, b6⟩ := hD.2
  refine we_aload_n (p := 1) dX12_rows_0 rfl rfl ?_
  refine we_callV_v (p := 4) (k' := 0) (a := [.ref 95]) (rr := []) dX12_rows_1 rfl rfl rfl rfl (rc_of rfl rfl (by decide) ⟨rfl, by decide⟩) (Nat.le_of_ble_eq_true rfl) (Nat.le_of_ble_eq_true rfl) (by decide) y_good (Or.inl rfl) rfl ?_
  refine we_aload_n (p := 5) dX12_rows_4 rfl rfl ?_
  refine wf_getI (c := 11) (j := 14) (n := 37) (v := 1) (p := 8) dX12_rows_5 rfl rfl (by decide) (by decide) (Or.inr rfl) ((I_u (I_u hO (by decide)) (by decide)).trans ht1) rfl ?_
  refine we_if_ne (t := 17) (p := 11) dX12_rows_8 (by decide) rfl rfl (fun hc8 => ?_) (fun hc8 => absurd hc8 (by decide))
  refine we_aload_n (p := 18) dX12_rows_17 rfl rfl ?_
  refine we_getR (c := 11) (j := 15) (n := 37) (b := 98) (p := 21) dX12_rows_18 rfl rfl (by decide) (by decide) rfl (r_95_15 hF) rfl ?_
  refine we_bipush (v := 8) (p := 23) dX12_rows_21 (by decide) rfl ?_
  refine wf_iald (n := 276) (i := 8) (v := nI (dN D 6)) (p := 24) dX12_rows_23 rfl (by decide) (by decide) (by decide) (mNn (i := 6) (oM_u (oM_u hM (by decide)) (by decide)) hD (by decide)) rfl ?_
  refine we_if_ne (t := 34) (p := 27) dX12_rows_24 (by decide) rfl rfl (fun hc24 => ?_) (fun hc24 => absurd hc24 (nI_ne0 hn (by omega)))
  refine we_aload_n (p := 35) dX12_rows_34 rfl rfl ?_
  obtain ⟨_, _, e1, rfl, I1, J1, F1, rfl, ⟨f1, rfl, rfl, hg⟩⟩ := y_seekNear (I := (hp_u (hp_u I 95 0 0) 95 11 0)) hF (oM_u (oM_u hM (by decide)) (by decide)) hW (f := f) ((hu_ne (by decide)).trans ((hu_ne (by decide)).trans hf))
  refine we_callV_v (p := 38) (k' := 8) (a := [.ref 95]) (rr := []) dX12_rows_35 rfl rfl rfl rfl (rc_of rfl rfl (by decide) ⟨rfl, by decide⟩) (Nat.le_of_ble_eq_true rfl) (Nat.le_of_ble_eq_true rfl) (by decide) e1 (Or.inl rfl) rfl ?_
  refine we_aload_n (p := 39) dX12_rows_38 rfl rfl ?_
  refine wf_getI (c := 11) (j := 34) (n := 37) (v := (near0 D f).1) (p := 42) dX12_rows_39 rfl rfl (by decide) (by decide) (Or.inl rfl) hg.1 rfl ?_
  exact wi_ret dX12_rows_42 rfl rfl (by decide) (⟨rfl, _, _, _, rfl, f1, rfl, rfl⟩)
set_option maxRecDepth 10000 in
theorem q_could_no {I : Nat → Nat → Int32} {J : Nat → Nat → Int64} {F : Nat → Nat → Option Nat} {nc ns : Nat} {D : oD} (hF : RFok F) (hM : oM I 98 D) (hW : WF D) (hO : I 95 14 = tol D) {k : Int32} (ht : ¬ (if ixB k (dN D 6) = 0 then 1 else 0) = 0) : Ev 9 mX12_could 0 [.ref 95, .int k, .null, .null] [] ((SH, nc, ns), I, J, F) (some (.int (-1))) ((SH, nc, ns), hp_u (hp_u I 95 0 0) 95 11 (if ixB k (dN D 6) = 0 then 1 else 0), J, F) := by
  have hD := hW.c
  have hH := hW.h
  have hT := hW.t
  have bt := hT.2
  obtain ⟨b0, b1, b2, b3, b4, b5, b6⟩ := hD.2
  refine e_aload_n (p := 1) dX12_could_0 rfl rfl ?_
  refine e_callV_v (p := 4) (k' := 0) (a := [.ref 95]) (rr := []) dX12_could_1 rfl rfl rfl rfl (rc_of rfl rfl (by decide) ⟨rfl, by decide⟩) (Nat.le_of_ble_eq_true rfl) (Nat.le_of_ble_eq_true rfl) (by decide) y_good (Or.inl rfl) rfl ?_
  refine e_aload_n (p := 5) dX12_could_4 rfl rfl ?_
  refine e_iload_n (p := 6) dX12_could_5 rfl rfl ?_
  refine e_callV_int (p := 9) (k' := 1) (a := [.ref 95, .int k]) (rr := []) dX12_could_6 rfl rfl rfl rfl (rc_of rfl rfl (by decide) ⟨rfl, by decide⟩) (Nat.le_of_ble_eq_true rfl) (Nat.le_of_ble_eq_true rfl) (by decide) (y_isNear hF (oM_u (oM_u hM (by decide)) (by decide)) hW (I_u (I_u hO (by decide)) (by decide)) ) (Or.inl rfl) rfl ?_
  refine e_if_ne (t := 18) (p := 12) dX12_could_9 (by decide) rfl rfl (fun hc9 => ?_) (fun hc9 => ?_)
  · skip
    first | (refine absurd ?_ ht; simp only [hc9, ↓reduceIte]; done) | (exfalso; simp_all; done)
  · skip
    refine e_aload_n (p := 13) dX12_could_12 rfl rfl ?_
    refine e_iconst (v := 1) (p := 14) dX12_could_13 (by decide) rfl ?_
    refine e_callV_int (p := 17) (k' := 0) (a := [.ref 95, .int 1]) (rr := []) dX12_could_14 rfl rfl rfl rfl (rc_of rfl rfl (by decide) ⟨rfl, by decide⟩) (Nat.le_of_ble_eq_true rfl) (Nat.le_of_ble_eq_true rfl) (by decide) y_no (Or.inl rfl) rfl ?_
    exact e_iretE dX12_could_17 rfl rfl (by decide) ⟨rfl, hpq (by first | (simp only [hc9, ↓reduceIte]; done) | (exfalso; simp_all; done))⟩
set_option maxRecDepth 10000 in
theorem q_surely_no {I : Nat → Nat → Int32} {J : Nat → Nat → Int64} {F : Nat → Nat → Option Nat} {nc ns : Nat} {D : oD} (hF : RFok F) (hM : oM I 98 D) (hW : WF D) (hO : I 95 14 = tol D) {k : Int32} (ht : ¬ (if ixB k (dN D 6) = 0 then 1 else 0) = 0) : Ev 9 mX12_surely 0 [.ref 95, .int k, .null] [] ((SH, nc, ns), I, J, F) (some (.int (-1))) ((SH, nc, ns), hp_u (hp_u I 95 0 0) 95 11 (if ixB k (dN D 6) = 0 then 1 else 0), J, F) := by
  have hD := hW.c
  have hH := hW.h
  have hT := hW.t
  have bt := hT.2
  obtain ⟨b0, b1, b2, b3, b4, b5, b6⟩ := hD.2
  refine e_aload_n (p := 1) dX12_surely_0 rfl rfl ?_
  refine e_callV_v (p := 4) (k' := 0) (a := [.ref 95]) (rr := []) dX12_surely_1 rfl rfl rfl rfl (rc_of rfl rfl (by decide) ⟨rfl, by decide⟩) (Nat.le_of_ble_eq_true rfl) (Nat.le_of_ble_eq_true rfl) (by decide) y_good (Or.inl rfl) rfl ?_
  refine e_aload_n (p := 5) dX12_surely_4 rfl rfl ?_
  refine e_iload_n (p := 6) dX12_surely_5 rfl rfl ?_
  refine e_callV_int (p := 9) (k' := 1) (a := [.ref 95, .int k]) (rr := []) dX12_surely_6 rfl rfl rfl rfl (rc_of rfl rfl (by decide) ⟨rfl, by decide⟩) (Nat.le_of_ble_eq_true rfl) (Nat.le_of_ble_eq_true rfl) (by decide) (y_isNear hF (oM_u (oM_u hM (by decide)) (by decide)) hW (I_u (I_u hO (by decide)) (by decide)) ) (Or.inl rfl) rfl ?_
  refine e_if_ne (t := 18) (p := 12) dX12_surely_9 (by decide) rfl rfl (fun hc9 => ?_) (fun hc9 => ?_)
  · skip
    first | (refine absurd ?_ ht; simp only [hc9, ↓reduceIte]; done) | (exfalso; simp_all; done)
  · skip
    refine e_aload_n (p := 13) dX12_surely_12 rfl rfl ?_
    refine e_iconst (v := 1) (p := 14) dX12_surely_13 (by decide) rfl ?_
    refine e_callV_int (p := 17) (k' := 0) (a := [.ref 95, .int 1]) (rr := []) dX12_surely_14 rfl rfl rfl rfl (rc_of rfl rfl (by decide) ⟨rfl, by decide⟩) (Nat.le_of_ble_eq_true rfl) (Nat.le_of_ble_eq_true rfl) (by decide) y_no (Or.inl rfl) rfl ?_
    exact e_iretE dX12_surely_17 rfl rfl (by decide) ⟨rfl, hpq (by first | (simp only [hc9, ↓reduceIte]; done) | (exfalso; simp_all; done))⟩
set_option maxRecDepth 10000 in
theorem q_firstOf_no {I : Nat → Nat → Int32} {J : Nat → Nat → Int64} {F : Nat → Nat → Option Nat} {nc ns : Nat} {D : oD} (hF : RFok F) (hM : oM I 98 D) (hW : WF D) (hO : I 95 14 = tol D) {k : Int32} (ht : ¬ (if ixB k (dN D 6) = 0 then 1 else 0) = 0) : Ev 9 mX12_firstOf 0 [.ref 95, .int k] [] ((SH, nc, ns), I, J, F) (some (.int (-1))) ((SH, nc, ns), hp_u (hp_u I 95 0 0) 95 11 (if ixB k (dN D 6) = 0 then 1 else 0), J, F) := by
  have hD := hW.c
  have hH := hW.h
  have hT := hW.t
  have bt := hT.2
  obtain ⟨b0, b1, b2, b3, b4, b5, b6⟩ := hD.2
  refine e_aload_n (p := 1) dX12_firstOf_0 rfl rfl ?_
  refine e_callV_v (p := 4) (k' := 0) (a := [.ref 95]) (rr := []) dX12_firstOf_1 rfl rfl rfl rfl (rc_of rfl rfl (by decide) ⟨rfl, by decide⟩) (Nat.le_of_ble_eq_true rfl) (Nat.le_of_ble_eq_true rfl) (by decide) y_good (Or.inl rfl) rfl ?_
  refine e_aload_n (p := 5) dX12_firstOf_4 rfl rfl ?_
  refine e_iload_n (p := 6) dX12_firstOf_5 rfl rfl ?_
  refine e_callV_int (p := 9) (k' := 1) (a := [.ref 95, .int k]) (rr := []) dX12_firstOf_6 rfl rfl rfl rfl (rc_of rfl rfl (by decide) ⟨rfl, by decide⟩) (Nat.le_of_ble_eq_true rfl) (Nat.le_of_ble_eq_true rfl) (by decide) (y_isNear hF (oM_u (oM_u hM (by decide)) (by decide)) hW (I_u (I_u hO (by decide)) (by decide)) ) (Or.inl rfl) rfl ?_
  refine e_if_ne (t := 18) (p := 12) dX12_firstOf_9 (by decide) rfl rfl (fun hc9 => ?_) (fun hc9 => ?_)
  · skip
    first | (refine absurd ?_ ht; simp only [hc9, ↓reduceIte]; done) | (exfalso; simp_all; done)
  · skip
    refine e_aload_n (p := 13) dX12_firstOf_12 rfl rfl ?_
    refine e_iconst (v := 1) (p := 14) dX12_firstOf_13 (by decide) rfl ?_
    refine e_callV_int (p := 17) (k' := 0) (a := [.ref 95, .int 1]) (rr := []) dX12_firstOf_14 rfl rfl rfl rfl (rc_of rfl rfl (by decide) ⟨rfl, by decide⟩) (Nat.le_of_ble_eq_true rfl) (Nat.le_of_ble_eq_true rfl) (by decide) y_no (Or.inl rfl) rfl ?_
    exact e_iretE dX12_firstOf_17 rfl rfl (by decide) ⟨rfl, hpq (by first | (simp only [hc9, ↓reduceIte]; done) | (exfalso; simp_all; done))⟩
set_option maxRecDepth 10000 in
theorem q_could_ok {I : Nat → Nat → Int32} {J : Nat → Nat → Int64} {F : Nat → Nat → Option Nat} {nc ns : Nat} {D : oD} (hF : RFok F) (hM : oM I 98 D) (hW : WF D) (hO : I 95 14 = tol D) {k : Nat} (hk : k < dN D 6) {f : Nat → Int32} (hf : I 109 = f) : Ew 9 mX12_could 0 [.ref 95, .int (nI k), .null, .null] [] ((SH, nc, ns), I, J, F) (Ret nc ns (some (.int (gN (posF (near0 D f).2.2 k) 0 (dN D 2) 0))) (fun I' J' F' => Fm 108 111 34 35 (hp_u (hp_u I 95 0 0) 95 11 0) I' ∧ J' = J ∧ F' = F)) := by
  have hD := hW.c
  have hH := hW.h
  have hT := hW.t
  have bt := hT.2
  obtain ⟨b0, b1, b2, b3, b4, b5, b6⟩ := hD.2
  refine we_aload_n (p := 1) dX12_could_0 rfl rfl ?_
  refine we_callV_v (p := 4) (k' := 0) (a := [.ref 95]) (rr := []) dX12_could_1 rfl rfl rfl rfl (rc_of rfl rfl (by decide) ⟨rfl, by decide⟩) (Nat.le_of_ble_eq_true rfl) (Nat.le_of_ble_eq_true rfl) (by decide) y_good (Or.inl rfl) rfl ?_
  refine we_aload_n (p := 5) dX12_could_4 rfl rfl ?_
  refine we_iload_n (p := 6) dX12_could_5 rfl rfl ?_
  refine we_callV_int (p := 9) (k' := 1) (a := [.ref 95, .int (nI k)]) (rr := []) dX12_could_6 rfl rfl rfl rfl (rc_of rfl rfl (by decide) ⟨rfl, by decide⟩) (Nat.le_of_ble_eq_true rfl) (Nat.le_of_ble_eq_true rfl) (by decide) (Ev.i (ixB_ok (by omega) (by omega)) (y_isNear hF (oM_u (oM_u hM (by decide)) (by decide)) hW (I_u (I_u hO (by decide)) (by decide)) )) (Or.inl rfl) rfl ?_
  refine we_if_ne (t := 18) (p := 12) dX12_could_9 (by decide) rfl rfl (fun hc9 => ?_) (fun hc9 => absurd hc9 (by decide))
  refine we_aload_n (p := 19) dX12_could_18 rfl rfl ?_
  obtain ⟨_, _, e1, rfl, I1, J1, F1, rfl, ⟨f1, rfl, rfl, hg⟩⟩ := y_seekNear (I := (hp_u (hp_u I 95 0 0) 95 11 0)) hF (oM_u (oM_u hM (by decide)) (by decide)) hW (f := f) ((hu_ne (by decide)).trans ((hu_ne (by decide)).trans hf))
  refine we_callV_v (p := 22) (k' := 8) (a := [.ref 95]) (rr := []) dX12_could_19 rfl rfl rfl rfl (rc_of rfl rfl (by decide) ⟨rfl, by decide⟩) (Nat.le_of_ble_eq_true rfl) (Nat.le_of_ble_eq_true rfl) (by decide) e1 (Or.inl rfl) rfl ?_
  refine we_iconst (v := 0) (p := 23) dX12_could_22 (by decide) rfl ?_
  refine we_istore_n (ls1 := [.ref 95, .int (nI k), .int 0, .null]) (p := 24) dX12_could_23 rfl rfl ?_
  refine we_iconst (v := 0) (p := 25) dX12_could_24 (by decide) rfl ?_
  refine we_istore_n (ls1 := [.ref 95, .int (nI k), .int 0, .int 0]) (p := 26) dX12_could_25 rfl rfl ?_
  exact (y_could_L hF (oM_fr (oM_u (oM_u hM (by decide)) (by decide)) (f1.1 98 (by omega) (by omega))) hW hg (by omega) (dN D 2) 0 _ (by omega)).w ⟨rfl, _, _, _, rfl, f1, rfl, rfl⟩
set_option maxRecDepth 10000 in
theorem q_surely_ok {I : Nat → Nat → Int32} {J : Nat → Nat → Int64} {F : Nat → Nat → Option Nat} {nc ns : Nat} {D : oD} (hF : RFok F) (hM : oM I 98 D) (hW : WF D) (hO : I 95 14 = tol D) {k : Nat} (hk : k < dN D 6) {f : Nat → Int32} (hf : I 109 = f) : Ew 9 mX12_surely 0 [.ref 95, .int (nI k), .null] [] ((SH, nc, ns), I, J, F) (Ret nc ns (some (.int (cerG (near0 D f).2.2 (near0 D f).1 k 0 (dN D 2)))) (fun I' J' F' => Fm 108 111 34 35 (hp_u (hp_u I 95 0 0) 95 11 0) I' ∧ J' = J ∧ F' = F)) := by
  have hD := hW.c
  have hH := hW.h
  have hT := hW.t
  have bt := hT.2
  obtain ⟨b0, b1, b2, b3, b4, b5, b6⟩ := hD.2
  refine we_aload_n (p := 1) dX12_surely_0 rfl rfl ?_
  refine we_callV_v (p := 4) (k' := 0) (a := [.ref 95]) (rr := []) dX12_surely_1 rfl rfl rfl rfl (rc_of rfl rfl (by decide) ⟨rfl, by decide⟩) (Nat.le_of_ble_eq_true rfl) (Nat.le_of_ble_eq_true rfl) (by decide) y_good (Or.inl rfl) rfl ?_
  refine we_aload_n (p := 5) dX12_surely_4 rfl rfl ?_
  refine we_iload_n (p := 6) dX12_surely_5 rfl rfl ?_
  refine we_callV_int (p := 9) (k' := 1) (a := [.ref 95, .int (nI k)]) (rr := []) dX12_surely_6 rfl rfl rfl rfl (rc_of rfl rfl (by decide) ⟨rfl, by decide⟩) (Nat.le_of_ble_eq_true rfl) (Nat.le_of_ble_eq_true rfl) (by decide) (Ev.i (ixB_ok (by omega) (by omega)) (y_isNear hF (oM_u (oM_u hM (by decide)) (by decide)) hW (I_u (I_u hO (by decide)) (by decide)) )) (Or.inl rfl) rfl ?_
  refine we_if_ne (t := 18) (p := 12) dX12_surely_9 (by decide) rfl rfl (fun hc9 => ?_) (fun hc9 => absurd hc9 (by decide))
  refine we_aload_n (p := 19) dX12_surely_18 rfl rfl ?_
  obtain ⟨_, _, e1, rfl, I1, J1, F1, rfl, ⟨f1, rfl, rfl, hg⟩⟩ := y_seekNear (I := (hp_u (hp_u I 95 0 0) 95 11 0)) hF (oM_u (oM_u hM (by decide)) (by decide)) hW (f := f) ((hu_ne (by decide)).trans ((hu_ne (by decide)).trans hf))
  refine we_callV_v (p := 22) (k' := 8) (a := [.ref 95]) (rr := []) dX12_surely_19 rfl rfl rfl rfl (rc_of rfl rfl (by decide) ⟨rfl, by decide⟩) (Nat.le_of_ble_eq_true rfl) (Nat.le_of_ble_eq_true rfl) (by decide) e1 (Or.inl rfl) rfl ?_
  refine we_iconst (v := 0) (p := 23) dX12_surely_22 (by decide) rfl ?_
  refine we_istore_n (ls1 := [.ref 95, .int (nI k), .int 0]) (p := 24) dX12_surely_23 rfl rfl ?_
  exact (y_surely_L hF (oM_fr (oM_u (oM_u hM (by decide)) (by decide)) (f1.1 98 (by omega) (by omega))) hW hg (by omega) (dN D 2) 0 (by omega)).w ⟨rfl, _, _, _, rfl, f1, rfl, rfl⟩
set_option maxRecDepth 10000 in
theorem q_firstOf_ok {I : Nat → Nat → Int32} {J : Nat → Nat → Int64} {F : Nat → Nat → Option Nat} {nc ns : Nat} {D : oD} (hF : RFok F) (hM : oM I 98 D) (hW : WF D) (hO : I 95 14 = tol D) {k : Nat} (hk : k < dN D 6) {f : Nat → Int32} (hf : I 109 = f) : Ew 9 mX12_firstOf 0 [.ref 95, .int (nI k)] [] ((SH, nc, ns), I, J, F) (Ret nc ns (some (.int (if (near0 D f).1 = 0 then -2 else (near0 D f).2.1 k))) (fun I' J' F' => Fm 108 111 34 35 (hp_u (hp_u I 95 0 0) 95 11 0) I' ∧ J' = J ∧ F' = F)) := by
  have hD := hW.c
  have hH := hW.h
  have hT := hW.t
  have bt := hT.2
  obtain ⟨b0, b1, b2, b3, b4, b5, b6⟩ := hD.2
  refine we_aload_n (p := 1) dX12_firstOf_0 rfl rfl ?_
  refine we_callV_v (p := 4) (k' := 0) (a := [.ref 95]) (rr := []) dX12_firstOf_1 rfl rfl rfl rfl (rc_of rfl rfl (by decide) ⟨rfl, by decide⟩) (Nat.le_of_ble_eq_true rfl) (Nat.le_of_ble_eq_true rfl) (by decide) y_good (Or.inl rfl) rfl ?_
  refine we_aload_n (p := 5) dX12_firstOf_4 rfl rfl ?_
  refine we_iload_n (p := 6) dX12_firstOf_5 rfl rfl ?_
  refine we_callV_int (p := 9) (k' := 1) (a := [.ref 95, .int (nI k)]) (rr := []) dX12_firstOf_6 rfl rfl rfl rfl (rc_of rfl rfl (by decide) ⟨rfl, by decide⟩) (Nat.le_of_ble_eq_true rfl) (Nat.le_of_ble_eq_true rfl) (by decide) (Ev.i (ixB_ok (by omega) (by omega)) (y_isNear hF (oM_u (oM_u hM (by decide)) (by decide)) hW (I_u (I_u hO (by decide)) (by decide)) )) (Or.inl rfl) rfl ?_
  refine we_if_ne (t := 18) (p := 12) dX12_firstOf_9 (by decide) rfl rfl (fun hc9 => ?_) (fun hc9 => absurd hc9 (by decide))
  refine we_aload_n (p := 19) dX12_firstOf_18 rfl rfl ?_
  obtain ⟨_, _, e1, rfl, I1, J1, F1, rfl, ⟨f1, rfl, rfl, hg⟩⟩ := y_seekNear (I := (hp_u (hp_u I 95 0 0) 95 11 0)) hF (oM_u (oM_u hM (by decide)) (by decide)) hW (f := f) ((hu_ne (by decide)).trans ((hu_ne (by decide)).trans hf))
  refine we_callV_v (p := 22) (k' := 8) (a := [.ref 95]) (rr := []) dX12_firstOf_19 rfl rfl rfl rfl (rc_of rfl rfl (by decide) ⟨rfl, by decide⟩) (Nat.le_of_ble_eq_true rfl) (Nat.le_of_ble_eq_true rfl) (by decide) e1 (Or.inl rfl) rfl ?_
  refine we_aload_n (p := 23) dX12_firstOf_22 rfl rfl ?_
  refine wf_getI (c := 11) (j := 34) (n := 37) (v := (near0 D f).1) (p := 26) dX12_firstOf_23 rfl rfl (by decide) (by decide) (Or.inl rfl) hg.1 rfl ?_
  refine we_if_ne (t := 34) (p := 29) dX12_firstOf_26 (by decide) rfl rfl (fun hc26 => ?_) (fun hc26 => ?_)
  · skip
    refine we_aload_n (p := 35) dX12_firstOf_34 rfl rfl ?_
    refine we_getR (c := 11) (j := 32) (n := 37) (b := 109) (p := 38) dX12_firstOf_35 rfl rfl (by decide) (by decide) rfl (r_95_32 hF) rfl ?_
    refine we_iload_n (p := 39) dX12_firstOf_38 rfl rfl ?_
    refine wf_iald (n := 4) (i := k) (v := (near0 D f).2.1 k) (p := 40) dX12_firstOf_39 rfl (by decide) (in_nJ (by omega) (by decide)) (nI_cl (by omega)) (hg.2.1 k (by omega)) rfl ?_
    exact wi_ret dX12_firstOf_40 rfl rfl (by decide) (⟨congrArg (fun z => some (Value.int z)) (by simp only [hc26, ↓reduceIte]), _, _, _, rfl, f1, rfl, rfl⟩)
  · skip
    refine we_bipush (v := -2) (p := 31) dX12_firstOf_29 (by decide) rfl ?_
    refine we_goto (p := 40) dX12_firstOf_31 (by decide) rfl ?_
    exact wi_ret dX12_firstOf_40 rfl rfl (by decide) (⟨congrArg (fun z => some (Value.int z)) (by simp only [hc26, ↓reduceIte]), _, _, _, rfl, f1, rfl, rfl⟩)
set_option maxRecDepth 10000 in
theorem q_ask_no {I : Nat → Nat → Int32} {J : Nat → Nat → Int64} {F : Nat → Nat → Option Nat} {nc ns : Nat} {D : oD} (hF : RFok F) (hM : oM I 98 D) (hW : WF D) (hO : I 95 14 = tol D) (ht : ¬ (nwS (tol D) (dN D 6)) = 0) : Ev 10 mX12_ask 0 [.ref 95] [] ((SH, nc, ns), I, J, F) (some (.int (-1))) ((SH, nc, ns), hp_u (hp_u I 95 0 0) 95 11 (nwS (tol D) (dN D 6)), J, F) := by
  have hD := hW.c
  have hH := hW.h
  have hT := hW.t
  have bt := hT.2
  obtain ⟨b0, b1, b2, b3, b4, b5, b6⟩ := hD.2
  refine e_aload_n (p := 1) dX12_ask_0 rfl rfl ?_
  refine e_callV_v (p := 4) (k' := 0) (a := [.ref 95]) (rr := []) dX12_ask_1 rfl rfl rfl rfl (rc_of rfl rfl (by decide) ⟨rfl, by decide⟩) (Nat.le_of_ble_eq_true rfl) (Nat.le_of_ble_eq_true rfl) (by decide) y_good (Or.inl rfl) rfl ?_
  refine e_aload_n (p := 5) dX12_ask_4 rfl rfl ?_
  refine e_callV_int (p := 8) (k' := 0) (a := [.ref 95]) (rr := []) dX12_ask_5 rfl rfl rfl rfl (rc_of rfl rfl (by decide) ⟨rfl, by decide⟩) (Nat.le_of_ble_eq_true rfl) (Nat.le_of_ble_eq_true rfl) (by decide) (y_nearWhy hF (oM_u (oM_u hM (by decide)) (by decide)) hW (I_u (I_u hO (by decide)) (by decide)) ) (Or.inl rfl) rfl ?_
  refine e_if_eq (t := 22) (p := 11) dX12_ask_8 (by decide) rfl rfl (fun hc8 => absurd hc8 ht) (fun hc8 => ?_)
  refine e_aload_n (p := 12) dX12_ask_11 rfl rfl ?_
  refine e_aload_n (p := 13) dX12_ask_12 rfl rfl ?_
  refine e_callV_int (p := 16) (k' := 0) (a := [.ref 95]) (rr := [.ref 95]) dX12_ask_13 rfl rfl rfl rfl (rc_of rfl rfl (by decide) ⟨rfl, by decide⟩) (Nat.le_of_ble_eq_true rfl) (Nat.le_of_ble_eq_true rfl) (by decide) (y_nearWhy hF (oM_u (oM_u hM (by decide)) (by decide)) hW (I_u (I_u hO (by decide)) (by decide)) ) (Or.inl rfl) rfl ?_
  refine e_callV_int (p := 19) (k' := 0) (a := [.ref 95, .int (nwS (tol D) (dN D 6))]) (rr := []) dX12_ask_16 rfl rfl rfl rfl (rc_of rfl rfl (by decide) ⟨rfl, by decide⟩) (Nat.le_of_ble_eq_true rfl) (Nat.le_of_ble_eq_true rfl) (by decide) y_no (Or.inl rfl) rfl ?_
  refine e_goto (p := 26) dX12_ask_19 (by decide) rfl ?_
  exact e_iretE dX12_ask_26 rfl rfl (by decide) ⟨rfl, hpq rfl⟩
set_option maxRecDepth 10000 in
theorem q_askLeaves_no {I : Nat → Nat → Int32} {J : Nat → Nat → Int64} {F : Nat → Nat → Option Nat} {nc ns : Nat} {D : oD} (hF : RFok F) (hM : oM I 98 D) (hW : WF D) (hO : I 95 14 = tol D) (ht : ¬ (nwS (tol D) (dN D 6)) = 0) : Ev 10 mX12_askLeaves 0 [.ref 95, .null] [] ((SH, nc, ns), I, J, F) (some (.int (-1))) ((SH, nc, ns), hp_u (hp_u I 95 0 0) 95 11 (nwS (tol D) (dN D 6)), J, F) := by
  have hD := hW.c
  have hH := hW.h
  have hT := hW.t
  have bt := hT.2
  obtain ⟨b0, b1, b2, b3, b4, b5, b6⟩ := hD.2
  refine e_aload_n (p := 1) dX12_askLeaves_0 rfl rfl ?_
  refine e_callV_v (p := 4) (k' := 0) (a := [.ref 95]) (rr := []) dX12_askLeaves_1 rfl rfl rfl rfl (rc_of rfl rfl (by decide) ⟨rfl, by decide⟩) (Nat.le_of_ble_eq_true rfl) (Nat.le_of_ble_eq_true rfl) (by decide) y_good (Or.inl rfl) rfl ?_
  refine e_aload_n (p := 5) dX12_askLeaves_4 rfl rfl ?_
  refine e_callV_int (p := 8) (k' := 0) (a := [.ref 95]) (rr := []) dX12_askLeaves_5 rfl rfl rfl rfl (rc_of rfl rfl (by decide) ⟨rfl, by decide⟩) (Nat.le_of_ble_eq_true rfl) (Nat.le_of_ble_eq_true rfl) (by decide) (y_nearWhy hF (oM_u (oM_u hM (by decide)) (by decide)) hW (I_u (I_u hO (by decide)) (by decide)) ) (Or.inl rfl) rfl ?_
  refine e_if_eq (t := 20) (p := 11) dX12_askLeaves_8 (by decide) rfl rfl (fun hc8 => absurd hc8 ht) (fun hc8 => ?_)
  refine e_aload_n (p := 12) dX12_askLeaves_11 rfl rfl ?_
  refine e_aload_n (p := 13) dX12_askLeaves_12 rfl rfl ?_
  refine e_callV_int (p := 16) (k' := 0) (a := [.ref 95]) (rr := [.ref 95]) dX12_askLeaves_13 rfl rfl rfl rfl (rc_of rfl rfl (by decide) ⟨rfl, by decide⟩) (Nat.le_of_ble_eq_true rfl) (Nat.le_of_ble_eq_true rfl) (by decide) (y_nearWhy hF (oM_u (oM_u hM (by decide)) (by decide)) hW (I_u (I_u hO (by decide)) (by decide)) ) (Or.inl rfl) rfl ?_
  refine e_callV_int (p := 19) (k' := 0) (a := [.ref 95, .int (nwS (tol D) (dN D 6))]) (rr := []) dX12_askLeaves_16 rfl rfl rfl rfl (rc_of rfl rfl (by decide) ⟨rfl, by decide⟩) (Nat.le_of_ble_eq_true rfl) (Nat.le_of_ble_eq_true rfl) (by decide) y_no (Or.inl rfl) rfl ?_
  exact e_iretE dX12_askLeaves_19 rfl rfl (by decide) ⟨rfl, hpq rfl⟩
set_option maxRecDepth 10000 in
theorem q_ask_ok {I : Nat → Nat → Int32} {J : Nat → Nat → Int64} {F : Nat → Nat → Option Nat} {nc ns : Nat} {D : oD} (hF : RFok F) (hM : oM I 98 D) (hW : WF D) (hO : I 95 14 = tol D) (ht1 : tol D = 1) (hn : 0 < dN D 6) {f : Nat → Int32} (hf : I 109 = f) : Ew 10 mX12_ask 0 [.ref 95] [] ((SH, nc, ns), I, J, F) (Ret nc ns (some (.int (if (near0 D f).1 = 0 then -2 else nI (bqS (near0 D f).2.2 (dN D 2) (dN D 6))))) (fun I' J' F' => Fm 108 111 34 35 (hp_u (hp_u I 95 0 0) 95 11 0) I' ∧ J' = J ∧ F' = F)) := by
  have hD := hW.c
  have hH := hW.h
  have hT := hW.t
  have bt := hT.2
  obtain ⟨b0, b1, b2, b3, b4, b5, b6⟩ := hD.2
  refine we_aload_n (p := 1) dX12_ask_0 rfl rfl ?_
  refine we_callV_v (p := 4) (k' := 0) (a := [.ref 95]) (rr := []) dX12_ask_1 rfl rfl rfl rfl (rc_of rfl rfl (by decide) ⟨rfl, by decide⟩) (Nat.le_of_ble_eq_true rfl) (Nat.le_of_ble_eq_true rfl) (by decide) y_good (Or.inl rfl) rfl ?_
  refine we_aload_n (p := 5) dX12_ask_4 rfl rfl ?_
  refine we_callV_int (p := 8) (k' := 0) (a := [.ref 95]) (rr := []) dX12_ask_5 rfl rfl rfl rfl (rc_of rfl rfl (by decide) ⟨rfl, by decide⟩) (Nat.le_of_ble_eq_true rfl) (Nat.le_of_ble_eq_true rfl) (by decide) (Ev.i (nwy_ok ht1 (by omega) (by omega)) (y_nearWhy hF (oM_u (oM_u hM (by decide)) (by decide)) hW (I_u (I_u hO (by decide)) (by decide)) )) (Or.inl rfl) rfl ?_
  refine we_if_eq (t := 22) (p := 11) dX12_ask_8 (by decide) rfl rfl (fun hc8 => ?_) (fun hc8 => absurd (by decide) hc8)
  refine we_aload_n (p := 23) dX12_ask_22 rfl rfl ?_
  obtain ⟨_, _, e1, rfl, I1, J1, F1, rfl, ⟨f1, rfl, rfl, hg⟩⟩ := y_askOf (I := (hp_u (hp_u I 95 0 0) 95 11 0)) hF (oM_u (oM_u hM (by decide)) (by decide)) hW (f := f) ((hu_ne (by decide)).trans ((hu_ne (by decide)).trans hf)) hn
  refine we_callV_int (p := 26) (k' := 9) (a := [.ref 95]) (rr := []) dX12_ask_23 rfl rfl rfl rfl (rc_of rfl rfl (by decide) ⟨rfl, by decide⟩) (Nat.le_of_ble_eq_true rfl) (Nat.le_of_ble_eq_true rfl) (by decide) e1 (Or.inl rfl) rfl ?_
  exact wi_ret dX12_ask_26 rfl rfl (by decide) (⟨rfl, _, _, _, rfl, f1, rfl, rfl⟩)
set_option maxRecDepth 10000 in
theorem q_askLeaves_ok0 {I : Nat → Nat → Int32} {J : Nat → Nat → Int64} {F : Nat → Nat → Option Nat} {nc ns : Nat} {D : oD} (hF : RFok F) (hM : oM I 98 D) (hW : WF D) (hO : I 95 14 = tol D) (ht1 : tol D = 1) (hn : 0 < dN D 6) {f : Nat → Int32} (hf : I 109 = f) (hz : (near0 D f).1 = 0) : Ew 10 mX12_askLeaves 0 [.ref 95, .null] [] ((SH, nc, ns), I, J, F) (Ret nc ns (some (.int (-2))) (fun I' J' F' => Fm 108 111 34 35 (hp_u (hp_u I 95 0 0) 95 11 0) I' ∧ J' = J ∧ F' = F)) := by
  have hD := hW.c
  have hH := hW.h
  have hT := hW.t
  have bt := hT.2
  obtain ⟨b0, b1, b2, b3, b4, b5, b6⟩ := hD.2
  refine we_aload_n (p := 1) dX12_askLeaves_0 rfl rfl ?_
  refine we_callV_v (p := 4) (k' := 0) (a := [.ref 95]) (rr := []) dX12_askLeaves_1 rfl rfl rfl rfl (rc_of rfl rfl (by decide) ⟨rfl, by decide⟩) (Nat.le_of_ble_eq_true rfl) (Nat.le_of_ble_eq_true rfl) (by decide) y_good (Or.inl rfl) rfl ?_
  refine we_aload_n (p := 5) dX12_askLeaves_4 rfl rfl ?_
  refine we_callV_int (p := 8) (k' := 0) (a := [.ref 95]) (rr := []) dX12_askLeaves_5 rfl rfl rfl rfl (rc_of rfl rfl (by decide) ⟨rfl, by decide⟩) (Nat.le_of_ble_eq_true rfl) (Nat.le_of_ble_eq_true rfl) (by decide) (Ev.i (nwy_ok ht1 (by omega) (by omega)) (y_nearWhy hF (oM_u (oM_u hM (by decide)) (by decide)) hW (I_u (I_u hO (by decide)) (by decide)) )) (Or.inl rfl) rfl ?_
  refine we_if_eq (t := 20) (p := 11) dX12_askLeaves_8 (by decide) rfl rfl (fun hc8 => ?_) (fun hc8 => absurd (by decide) hc8)
  refine we_aload_n (p := 21) dX12_askLeaves_20 rfl rfl ?_
  obtain ⟨_, _, e1, rfl, I1, J1, F1, rfl, ⟨f1, rfl, rfl, hg⟩⟩ := y_askOf (I := (hp_u (hp_u I 95 0 0) 95 11 0)) hF (oM_u (oM_u hM (by decide)) (by decide)) hW (f := f) ((hu_ne (by decide)).trans ((hu_ne (by decide)).trans hf)) hn
  refine we_callV_int (p := 24) (k' := 9) (a := [.ref 95]) (rr := []) dX12_askLeaves_21 rfl rfl rfl rfl (rc_of rfl rfl (by decide) ⟨rfl, by decide⟩) (Nat.le_of_ble_eq_true rfl) (Nat.le_of_ble_eq_true rfl) (by decide) e1 (Or.inl rfl) rfl ?_
  rw [if_pos hz]
  refine we_istore_n (ls1 := [.ref 95, .int (-2)]) (p := 25) dX12_askLeaves_24 rfl rfl ?_
  refine we_iload_n (p := 26) dX12_askLeaves_25 rfl rfl ?_
  refine we_if_ge (t := 34) (p := 29) dX12_askLeaves_26 (by decide) rfl rfl (fun hc26 => absurd hc26 (by decide)) (fun hc26 => ?_)
  refine we_bipush (v := -2) (p := 31) dX12_askLeaves_29 (by decide) rfl ?_
  refine we_goto (p := 39) dX12_askLeaves_31 (by decide) rfl ?_
  exact wi_ret dX12_askLeaves_39 rfl rfl (by decide) (⟨rfl, _, _, _, rfl, f1, rfl, rfl⟩)
set_option maxRecDepth 10000 in
theorem q_askLeaves_ok1 {I : Nat → Nat → Int32} {J : Nat → Nat → Int64} {F : Nat → Nat → Option Nat} {nc ns : Nat} {D : oD} (hF : RFok F) (hM : oM I 98 D) (hW : WF D) (hO : I 95 14 = tol D) (ht1 : tol D = 1) (hn : 0 < dN D 6) {f : Nat → Int32} (hf : I 109 = f) (hz : ¬ (near0 D f).1 = 0) : Ew 10 mX12_askLeaves 0 [.ref 95, .null] [] ((SH, nc, ns), I, J, F) (Ret nc ns (some (.int (lefS (near0 D f).2.2 (dN D 2) (bqS (near0 D f).2.2 (dN D 2) (dN D 6))))) (fun I' J' F' => Fm 108 111 34 35 (hp_u (hp_u I 95 0 0) 95 11 0) I' ∧ J' = J ∧ F' = F)) := by
  have hD := hW.c
  have hH := hW.h
  have hT := hW.t
  have bt := hT.2
  obtain ⟨b0, b1, b2, b3, b4, b5, b6⟩ := hD.2
  refine we_aload_n (p := 1) dX12_askLeaves_0 rfl rfl ?_
  refine we_callV_v (p := 4) (k' := 0) (a := [.ref 95]) (rr := []) dX12_askLeaves_1 rfl rfl rfl rfl (rc_of rfl rfl (by decide) ⟨rfl, by decide⟩) (Nat.le_of_ble_eq_true rfl) (Nat.le_of_ble_eq_true rfl) (by decide) y_good (Or.inl rfl) rfl ?_
  refine we_aload_n (p := 5) dX12_askLeaves_4 rfl rfl ?_
  refine we_callV_int (p := 8) (k' := 0) (a := [.ref 95]) (rr := []) dX12_askLeaves_5 rfl rfl rfl rfl (rc_of rfl rfl (by decide) ⟨rfl, by decide⟩) (Nat.le_of_ble_eq_true rfl) (Nat.le_of_ble_eq_true rfl) (by decide) (Ev.i (nwy_ok ht1 (by omega) (by omega)) (y_nearWhy hF (oM_u (oM_u hM (by decide)) (by decide)) hW (I_u (I_u hO (by decide)) (by decide)) )) (Or.inl rfl) rfl ?_
  refine we_if_eq (t := 20) (p := 11) dX12_askLeaves_8 (by decide) rfl rfl (fun hc8 => ?_) (fun hc8 => absurd (by decide) hc8)
  refine we_aload_n (p := 21) dX12_askLeaves_20 rfl rfl ?_
  obtain ⟨_, _, e1, rfl, I1, J1, F1, rfl, ⟨f1, rfl, rfl, hg⟩⟩ := y_askOf (I := (hp_u (hp_u I 95 0 0) 95 11 0)) hF (oM_u (oM_u hM (by decide)) (by decide)) hW (f := f) ((hu_ne (by decide)).trans ((hu_ne (by decide)).trans hf)) hn
  refine we_callV_int (p := 24) (k' := 9) (a := [.ref 95]) (rr := []) dX12_askLeaves_21 rfl rfl rfl rfl (rc_of rfl rfl (by decide) ⟨rfl, by decide⟩) (Nat.le_of_ble_eq_true rfl) (Nat.le_of_ble_eq_true rfl) (by decide) e1 (Or.inl rfl) rfl ?_
  rw [if_neg hz]
  refine we_istore_n (ls1 := [.ref 95, .int (nI (bqS (near0 D f).2.2 (dN D 2) (dN D 6)))]) (p := 25) dX12_askLeaves_24 rfl rfl ?_
  refine we_iload_n (p := 26) dX12_askLeaves_25 rfl rfl ?_
  refine we_if_ge (t := 34) (p := 29) dX12_askLeaves_26 (by decide) rfl rfl (fun hc26 => ?_) (fun hc26 => absurd (nI_pos' (by have := bq_lt (t := (near0 D f).2.2) (W := dN D 2) hn; omega)) hc26)
  refine we_aload_n (p := 35) dX12_askLeaves_34 rfl rfl ?_
  refine we_iload_n (p := 36) dX12_askLeaves_35 rfl rfl ?_
  refine we_callV_int (p := 39) (k' := 0) (a := [.ref 95, .int (nI (bqS (near0 D f).2.2 (dN D 2) (dN D 6)))]) (rr := []) dX12_askLeaves_36 rfl rfl rfl rfl (rc_of rfl rfl (by decide) ⟨rfl, by decide⟩) (Nat.le_of_ble_eq_true rfl) (Nat.le_of_ble_eq_true rfl) (by decide) (y_leavesBy hF (oM_fr (oM_u (oM_u hM (by decide)) (by decide)) (f1.1 98 (by omega) (by omega))) hW hg (i := bqS (near0 D f).2.2 (dN D 2) (dN D 6)) (by have := bq_lt (t := (near0 D f).2.2) (W := dN D 2) hn; omega)) (Or.inl rfl) rfl ?_
  exact wi_ret dX12_askLeaves_39 rfl rfl (by decide) (⟨rfl, _, _, _, rfl, f1, rfl, rfl⟩)

def gQ (W N : Nat) (a b : gA) : Prop := a.1 = b.1 ∧ a.2.2 = b.2.2 ∧ (a.1 = 0 ∨ ∀ i, i < N → a.2.1 i = b.2.1 i) ∧ ∀ i w, W ≤ w → a.2.2 i w = 0
theorem set_Q {W N : Nat} {a b : gA} {row : Nat → Nat} (h : gQ W N a b) (hr : ∀ i, i < N → row i < W) : gQ W N (setS N row a) (setS N row b) := by
  obtain ⟨h1, h2, h3, h4⟩ := h
  refine ⟨by simp only [setS, h1], ?_, Or.inr ?_, ?_⟩
  · simp only [setS, h2]
  · intro i hi
    simp only [setS]
    rw [← h1]
    by_cases c : a.1 = 0
    · simp [c, hi]
    · simp only [c, false_and, ↓reduceIte]
      exact h3.resolve_left c i hi
  · intro i w hw
    simp only [setS]
    rw [if_neg]
    · exact h4 i w hw
    · rintro ⟨hi, e⟩
      have := hr i hi
      omega
theorem nr_Q {D : oD} {N : Nat} : ∀ d k u (row : Nat → Nat) (a b : gA), k + d = N → (∀ i, i < k → row i < dN D 2) → gQ (dN D 2) N a b → gQ (dN D 2) N (nrS D N d k u row a) (nrS D N d k u row b)
  | 0, k, u, row, a, b, hk, hr, h => set_Q h (fun i hi => hr i (by omega))
  | d + 1, k, u, row, a, b, hk, hr, h => by
    rw [nrS, nrS]
    have : ∀ m j a b, j + m ≤ dN D 2 → gQ (dN D 2) N a b → gQ (dN D 2) N (gN (fun w a => if hbS u (nI w) = 0 then (if wasS D k w = 0 then a else nrS D N d (k + 1) (u ||| bit w) (upN row k w) a) else a) j m a) (gN (fun w a => if hbS u (nI w) = 0 then (if wasS D k w = 0 then a else nrS D N d (k + 1) (u ||| bit w) (upN row k w) a) else a) j m b) := by
      intro m
      induction m with
      | zero => intro j a b _ h; exact h
      | succ m ih =>
        intro j a b hj h
        rw [gN, gN]
        refine ih (j + 1) _ _ (by omega) ?_
        split
        · split
          · exact h
          · refine nr_Q d (k + 1) _ _ _ _ (by omega) ?_ h
            intro i hi
            unfold upN
            split
            · omega
            · exact hr i (by omega)
        · exact h
    exact this _ 0 _ _ (by omega) h
theorem near_Q {D : oD} (f g : Nat → Int32) : gQ (dN D 2) (dN D 6) (near0 D f) (near0 D g) := nr_Q _ 0 _ _ _ _ (by omega) (fun i hi => absurd hi (by omega)) ⟨rfl, rfl, Or.inl rfl, fun _ _ _ => rfl⟩
theorem pos_W {t : Nat → Nat → Int32} {W k : Nat} (hW : W ≤ 8) (h : ∀ i w, W ≤ w → t i w = 0) : gN (posF t k) 0 8 0 = gN (posF t k) 0 W 0 := by
  obtain ⟨n, e8⟩ : ∃ n, 8 = W + n := ⟨8 - W, by omega⟩
  rw [e8, gN_add]
  generalize gN (posF t k) 0 W 0 = x
  have : ∀ m j x, W ≤ j → gN (posF t k) j m x = x := by
    intro m
    induction m with
    | zero => intro j x _; rfl
    | succ m ih =>
      intro j x hj
      rw [gN, ih (j + 1) _ (by omega)]
      unfold posF
      rw [h k j hj]
      rfl
  exact this n (0 + W) x (by omega)
theorem lef_W {t : Nat → Nat → Int32} {W k : Nat} (hW : W ≤ 8) (h : ∀ i w, W ≤ w → t i w = 0) : lefS t 8 k = lefS t W k := by
  unfold lefS
  obtain ⟨n, e8⟩ : ∃ n, 8 = W + n := ⟨8 - W, by omega⟩
  rw [e8, gN_add]
  have h0 : 0 ≤ gN (lefF t k) 0 W 0 := by
    refine gN_inv (fun x => 0 ≤ x) _ _ _ (by decide) ?_
    intro j a _ _ ha
    unfold lefF
    split
    · rename_i c
      exact le_tr ha (Int32.le_of_lt c)
    · exact ha
  generalize gN (lefF t k) 0 W 0 = x at h0 ⊢
  have : ∀ m j, W ≤ j → gN (lefF t k) j m x = x := by
    intro m
    induction m with
    | zero => intro j _; rfl
    | succ m ih =>
      intro j hj
      rw [gN]
      unfold lefF
      rw [h k j hj, if_neg (Int32.not_lt.mpr h0)]
      exact ih (j + 1) (by omega)
  exact this n (0 + W) (by omega)
theorem cer_W {t : Nat → Nat → Int32} {n : Int32} {W k : Nat} (h : ∀ i w, W ≤ w → t i w = 0) : ∀ m j d, j + m = W → cerG t n k j (m + d) = cerG t n k j m
  | 0, j, d, hj => by
    rw [Nat.zero_add]
    have : ∀ m j, W ≤ j → cerG t n k j m = -2 := by
      intro m
      induction m with
      | zero => intro j _; rfl
      | succ m ih =>
        intro j hj
        rw [cerG, ih (j + 1) (by omega), h k j hj]
        by_cases c : n ≤ 0
        · rw [if_pos c]
        · rw [if_neg c, if_neg]
          intro e
          rw [← e] at c
          exact c (by decide)
    rw [this d j (by omega)]
    rfl
  | m + 1, j, d, hj => by
    rw [show m + 1 + d = (m + d) + 1 by omega, cerG, cerG, cer_W h m (j + 1) d (by omega)]
theorem bq_W {t : Nat → Nat → Int32} {W N : Nat} (hW : W ≤ 8) (h : ∀ i w, W ≤ w → t i w = 0) : bqS t 8 N = bqS t W N := by
  unfold bqS
  refine gN_c (fun k a _ _ => ?_)
  unfold bqF
  rw [lef_W hW h, lef_W hW h]

