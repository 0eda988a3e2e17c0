/-! part, bestHand. -/
theorem yl_R {D : oD} (hW : WF D) {l : Nat} (hl : l ≤ 30) : inR (nI l * D 0 0) 0 270 := by
  have h : inR (D 0 0) 0 9 := by
    rcases hW.u with ⟨e, -⟩ | ⟨⟨y, h1, h2, e⟩, -⟩
    · rw [e]
      exact hR (n := 0) (by omega) (by omega)
    · rw [e]
      exact hR (by omega) h2
  obtain ⟨y, -, h2, e⟩ := h
  rw [e, pk_mul]
  have : l * y ≤ 30 * 9 := Nat.mul_le_mul hl h2
  exact hR (by omega) (by omega)
def bhC (q : Nat → Int32) (k : Nat) (a : Int32 × Int32) : Int32 × Int32 := if q k ≤ a.2 then a else (nI k, q k)
def bhM (q : Nat → Int32) (k : Nat) (b : Int32) : Int32 := if q k ≤ (if b < 0 then 0 else q b.toNatClampNeg) then b else nI k
theorem bh_eq {q : Nat → Int32} : ∀ m j b, j + m < 1000 → gN (bhC q) j m (b, if b < 0 then 0 else q b.toNatClampNeg) = (gN (bhM q) j m b, if gN (bhM q) j m b < 0 then 0 else q (gN (bhM q) j m b).toNatClampNeg)
  | 0, _, _, _ => rfl
  | m + 1, j, b, h => by
    rw [gN, gN]
    unfold bhC bhM
    by_cases c : q j ≤ (if b < 0 then 0 else q b.toNatClampNeg)
    · simp only [c, ↓reduceIte]
      exact bh_eq m (j + 1) b (by omega)
    · simp only [c, ↓reduceIte]
      have := bh_eq (q := q) m (j + 1) (nI j) (by omega)
      rw [if_neg (nI_pos (by omega)), nI_cl (by omega)] at this
      exact this
def bhS (q : Nat → Int32) (n : Nat) : Int32 := (gN (bhC q) 0 n (-2, 0)).1
theorem bhM_eq {q : Nat → Int32} {n : Nat} (h : n < 1000) : gN (bhM q) 0 n (-2) = bhS q n := by
  have := bh_eq (q := q) n 0 (-2) (by omega)
  unfold bhS
  rw [show (if (-2 : Int32) < 0 then (0 : Int32) else q (-2 : Int32).toNatClampNeg) = 0 from if_pos (by decide)] at this
  rw [this]
set_option maxRecDepth 10000 in
theorem c_part_no {I : Nat → Nat → Int32} {J : Nat → Nat → Int64} {F : Nat → Nat → Option Nat} {nc ns : Nat} {o : Nat} {D : oD} {s : Nat → Int32} (ho : isO o) (hF : RFok F) (hoF : F 0 2 = some o) (hC : oC I o D) (hW : WF D) (hm : mo I 42 s) (hS : WFs D s) {k v l : Int32} (ht : ¬ (eiS (ixS k (dN D 5)) (eiS (nuS v 0 999) (nuS l 0 30))) = 0) : Ev 2 mX11_part 0 [.ref 0, .int k, .int v, .int l] [] ((SH, nc, ns), I, J, F) (some (.int (-1))) ((SH, nc, ns), hp_u I 0 10 (eiS (ixS k (dN D 5)) (eiS (nuS v 0 999) (nuS l 0 30))), J, F) := by
  have hD := hW.c
  have hH := hW.h
  have hT := hW.t
  have bt := hT.2
  obtain ⟨b0, b1, b2, b3, b4, b5, b6⟩ := hD.2
  refine e_aload_n (p := 1) dX11_part_0 rfl rfl ?_
  refine e_aload_n (p := 2) dX11_part_1 rfl rfl ?_
  refine e_iload_n (p := 3) dX11_part_2 rfl rfl ?_
  refine e_callV_int (p := 6) (k' := 1) (a := [.ref 0, .int k]) (rr := [.ref 0]) dX11_part_3 rfl rfl rfl rfl (rc_of rfl rfl (by decide) ⟨rfl, by decide⟩) (Nat.le_of_ble_eq_true rfl) (Nat.le_of_ble_eq_true rfl) (by decide) (x_ofHand ho hF hoF hC hW hm hS) (Or.inl rfl) rfl ?_
  refine e_iload_n (p := 7) dX11_part_6 rfl rfl ?_
  refine e_iconst (v := 0) (p := 8) dX11_part_7 (by decide) rfl ?_
  refine e_sipush (v := 999) (p := 11) dX11_part_8 (by decide) rfl ?_
  refine e_callS_int (p := 14) (k' := 0) (a := [.int v, .int 0, .int 999]) (rr := [.int (ixS k (dN D 5)), .ref 0]) dX11_part_11 rfl rfl rfl rfl rfl (rc_st rfl) (Nat.le_of_ble_eq_true rfl) (Nat.le_of_ble_eq_true rfl) (by decide) x_ofNumber (Or.inl rfl) rfl ?_
  refine e_aload_n (p := 15) dX11_part_14 rfl rfl ?_
  refine e_iload_n (p := 16) dX11_part_15 rfl rfl ?_
  refine e_callV_int (p := 19) (k' := 1) (a := [.ref 0, .int l]) (rr := [.int (nuS v 0 999), .int (ixS k (dN D 5)), .ref 0]) dX11_part_16 rfl rfl rfl rfl (rc_of rfl rfl (by decide) ⟨rfl, by decide⟩) (Nat.le_of_ble_eq_true rfl) (Nat.le_of_ble_eq_true rfl) (by decide) x_ofLanding (Or.inl rfl) rfl ?_
  refine e_callS_int (p := 22) (k' := 0) (a := [.int (nuS v 0 999), .int (nuS l 0 30)]) (rr := [.int (ixS k (dN D 5)), .ref 0]) dX11_part_19 rfl rfl rfl rfl rfl (rc_st rfl) (Nat.le_of_ble_eq_true rfl) (Nat.le_of_ble_eq_true rfl) (by decide) x_either (Or.inl rfl) rfl ?_
  refine e_callS_int (p := 25) (k' := 0) (a := [.int (ixS k (dN D 5)), .int (eiS (nuS v 0 999) (nuS l 0 30))]) (rr := [.ref 0]) dX11_part_22 rfl rfl rfl rfl rfl (rc_st rfl) (Nat.le_of_ble_eq_true rfl) (Nat.le_of_ble_eq_true rfl) (by decide) x_either (Or.inl rfl) rfl ?_
  refine e_callV_int (p := 28) (k' := 0) (a := [.ref 0, .int (eiS (ixS k (dN D 5)) (eiS (nuS v 0 999) (nuS l 0 30)))]) (rr := []) dX11_part_25 rfl rfl rfl rfl (rc_of rfl rfl (by decide) ⟨rfl, by decide⟩) (Nat.le_of_ble_eq_true rfl) (Nat.le_of_ble_eq_true rfl) (by decide) x_refused (Or.inl rfl) rfl ?_
  refine e_if_eq (t := 33) (p := 31) dX11_part_28 (by decide) rfl rfl (fun hc28 => absurd hc28 (rf_ne ht)) (fun hc28 => ?_)
  refine e_iconst (v := -1) (p := 32) dX11_part_31 (by decide) rfl ?_
  exact e_iretE dX11_part_32 rfl rfl (by decide) ⟨rfl, rfl⟩
set_option maxRecDepth 10000 in
theorem c_part_ok {I : Nat → Nat → Int32} {J : Nat → Nat → Int64} {F : Nat → Nat → Option Nat} {nc ns : Nat} {o : Nat} {D : oD} {s : Nat → Int32} (ho : isO o) (hF : RFok F) (hoF : F 0 2 = some o) (hC : oC I o D) (hW : WF D) (hm : mo I 42 s) (hS : WFs D s) {k : Nat} (hk : k < dN D 5) {v : Nat} (hv : v ≤ 999) {l : Nat} (hl : l ≤ 30) : Ew 2 mX11_part 0 [.ref 0, .int (nI k), .int (nI v), .int (nI l)] [] ((SH, nc, ns), I, J, F) (Ret nc ns (some (.int (partS D v (nI l * D 0 0) k))) (fun I' J' F' => Fr 82 85 (hp_u I 0 10 0) I' ∧ J' = J ∧ F' = F)) := by
  have hD := hW.c
  have hH := hW.h
  have hT := hW.t
  have bt := hT.2
  obtain ⟨b0, b1, b2, b3, b4, b5, b6⟩ := hD.2
  refine we_aload_n (p := 1) dX11_part_0 rfl rfl ?_
  refine we_aload_n (p := 2) dX11_part_1 rfl rfl ?_
  refine we_iload_n (p := 3) dX11_part_2 rfl rfl ?_
  refine we_callV_int (p := 6) (k' := 1) (a := [.ref 0, .int (nI k)]) (rr := [.ref 0]) dX11_part_3 rfl rfl rfl rfl (rc_of rfl rfl (by decide) ⟨rfl, by decide⟩) (Nat.le_of_ble_eq_true rfl) (Nat.le_of_ble_eq_true rfl) (by decide) (Ev.i (ix_ok (n := dN D 5) (by omega) (by omega)) (x_ofHand ho hF hoF hC hW hm hS)) (Or.inl rfl) rfl ?_
  refine we_iload_n (p := 7) dX11_part_6 rfl rfl ?_
  refine we_iconst (v := 0) (p := 8) dX11_part_7 (by decide) rfl ?_
  refine we_sipush (v := 999) (p := 11) dX11_part_8 (by decide) rfl ?_
  refine we_callS_int (p := 14) (k' := 0) (a := [.int (nI v), .int 0, .int 999]) (rr := [.int 0, .ref 0]) dX11_part_11 rfl rfl rfl rfl rfl (rc_st rfl) (Nat.le_of_ble_eq_true rfl) (Nat.le_of_ble_eq_true rfl) (by decide) (Ev.i (nu_ok (a := 0) (b := 999) (n := v) (by omega) (by omega) (by omega)) (x_ofNumber)) (Or.inl rfl) rfl ?_
  refine we_aload_n (p := 15) dX11_part_14 rfl rfl ?_
  refine we_iload_n (p := 16) dX11_part_15 rfl rfl ?_
  refine we_callV_int (p := 19) (k' := 1) (a := [.ref 0, .int (nI l)]) (rr := [.int 0, .int 0, .ref 0]) dX11_part_16 rfl rfl rfl rfl (rc_of rfl rfl (by decide) ⟨rfl, by decide⟩) (Nat.le_of_ble_eq_true rfl) (Nat.le_of_ble_eq_true rfl) (by decide) (Ev.i (nu_ok (a := 0) (b := 30) (n := l) (by omega) (by omega) (by omega)) (x_ofLanding)) (Or.inl rfl) rfl ?_
  refine we_callS_int (p := 22) (k' := 0) (a := [.int 0, .int 0]) (rr := [.int 0, .ref 0]) dX11_part_19 rfl rfl rfl rfl rfl (rc_st rfl) (Nat.le_of_ble_eq_true rfl) (Nat.le_of_ble_eq_true rfl) (by decide) (Ev.i (show eiS 0 0 = 0 by decide) (x_either)) (Or.inl rfl) rfl ?_
  refine we_callS_int (p := 25) (k' := 0) (a := [.int 0, .int 0]) (rr := [.ref 0]) dX11_part_22 rfl rfl rfl rfl rfl (rc_st rfl) (Nat.le_of_ble_eq_true rfl) (Nat.le_of_ble_eq_true rfl) (by decide) (Ev.i (show eiS 0 0 = 0 by decide) (x_either)) (Or.inl rfl) rfl ?_
  refine we_callV_int (p := 28) (k' := 0) (a := [.ref 0, .int 0]) (rr := []) dX11_part_25 rfl rfl rfl rfl (rc_of rfl rfl (by decide) ⟨rfl, by decide⟩) (Nat.le_of_ble_eq_true rfl) (Nat.le_of_ble_eq_true rfl) (by decide) (Ev.i (show rfS 0 = 0 by decide) (x_refused)) (Or.inl rfl) rfl ?_
  refine we_if_eq (t := 33) (p := 31) dX11_part_28 (by decide) rfl rfl (fun hc28 => ?_) (fun hc28 => absurd (by decide) hc28)
  refine we_aload_n (p := 34) dX11_part_33 rfl rfl ?_
  refine we_getR (c := 10) (j := 7) (n := 13) (b := 82) (p := 37) dX11_part_34 rfl rfl (by decide) (by decide) rfl (r_0_7 hF) rfl ?_
  refine we_aload_n (p := 38) dX11_part_37 rfl rfl ?_
  refine we_getR (c := 10) (j := 2) (n := 13) (b := o) (p := 41) dX11_part_38 rfl rfl (by decide) (by decide) rfl hoF rfl ?_
  refine we_iload_n (p := 42) dX11_part_41 rfl rfl ?_
  refine we_iload_n (p := 43) dX11_part_42 rfl rfl ?_
  refine we_aload_n (p := 44) dX11_part_43 rfl rfl ?_
  refine we_getR (c := 10) (j := 2) (n := 13) (b := o) (p := 47) dX11_part_44 rfl rfl (by decide) (by decide) rfl hoF rfl ?_
  refine wf_getI (c := 4) (j := 0) (n := 18) (v := D 0 0) (p := 50) dX11_part_47 rfl (s_o ho) (l_o0 ho) (by decide) (Or.inl rfl) (oC_u hC ho (by decide)).1 rfl ?_
  refine we_imul (p := 51) dX11_part_50 rfl ?_
  obtain ⟨_, _, e1, rfl, I1, J1, F1, rfl, ⟨f1, rfl, rfl, p1⟩⟩ := x_divide (I0 := (hp_u I 0 10 0)) ho hF (oC_u hC ho (by decide)) hW (v := v) (y := nI l * D 0 0) hv (yl_R hW hl)
  refine we_callV_v (p := 54) (k' := 1) (a := [.ref 82, .ref o, .int (nI v), .int ((nI l) * (D 0 0))]) (rr := []) dX11_part_51 rfl rfl rfl rfl (rc_of rfl rfl (by decide) ⟨rfl, by decide⟩) (Nat.le_of_ble_eq_true rfl) (Nat.le_of_ble_eq_true rfl) (by decide) e1 (Or.inl rfl) rfl ?_
  refine we_aload_n (p := 55) dX11_part_54 rfl rfl ?_
  refine we_getR (c := 10) (j := 7) (n := 13) (b := 82) (p := 58) dX11_part_55 rfl rfl (by decide) (by decide) rfl (r_0_7 hF) rfl ?_
  refine we_getR (c := 0) (j := 0) (n := 2) (b := 83) (p := 61) dX11_part_58 rfl rfl (by decide) (by decide) rfl (r_82_0 hF) rfl ?_
  refine we_iload_n (p := 62) dX11_part_61 rfl rfl ?_
  refine wf_iald (n := 5) (i := k) (v := partS D v (nI l * D 0 0) k) (p := 63) dX11_part_62 rfl (by decide) (in_nJ (by omega) (by decide)) (nI_cl (by omega)) (p1 k (by omega)) rfl ?_
  exact wi_ret dX11_part_63 rfl rfl (by decide) (⟨rfl, _, _, _, rfl, f1, rfl, rfl⟩)
set_option maxRecDepth 10000 in
theorem x_bestHand_L {I : Nat → Nat → Int32} {J : Nat → Nat → Int64} {F : Nat → Nat → Option Nat} {nc ns : Nat} {o : Nat} {D : oD} {s : Nat → Int32} (ho : isO o) (hF : RFok F) (hoF : F 0 2 = some o) (hC : oC I o D) (hW : WF D) (hm : mo I 42 s) (hS : WFs D s) {q : Nat → Int32} {v l : Int32} (hg : ∀ i, i < dN D 5 → I 83 i = q i)  : ∀ (m j : Nat) (best : Int32) (most : Int32), j + m = dN D 5 → Ev 2 mX11_bestHand 62 [.ref 0, .int v, .int l, .int best, .int most, .int (nI j)] [] ((SH, nc, ns), I, J, F) (some (.int (gN (bhC q) j m (best, most)).1)) ((SH, nc, ns), I, J, F)
  | 0, j, best, most, hj => by
    have hD := hW.c
    have hH := hW.h
    have hT := hW.t
    have bt := hT.2
    obtain ⟨b0, b1, b2, b3, b4, b5, b6⟩ := hD.2
    refine e_iload (p := 64) dX11_bestHand_62 rfl rfl ?_
    refine e_aload_n (p := 65) dX11_bestHand_64 rfl rfl ?_
    refine e_getR (c := 10) (j := 2) (n := 13) (b := o) (p := 68) dX11_bestHand_65 rfl rfl (by decide) (by decide) rfl hoF rfl ?_
    refine e_getR (c := 4) (j := 2) (n := 18) (b := (o + 1)) (p := 71) dX11_bestHand_68 rfl (s_o ho) (l_o0 ho) (by decide) rfl (r_o2 hF ho) rfl ?_
    refine e_iconst (v := 5) (p := 72) dX11_bestHand_71 (by decide) rfl ?_
    refine f_iald (n := 7) (i := 5) (v := nI (dN D 5)) (p := 73) dX11_bestHand_72 (s_o1 ho) (l_o ho 1 (by decide)) (by decide) (by decide) (cN hC hD (by decide)) rfl ?_
    refine e_icmp_ge (t := 112) (p := 76) dX11_bestHand_73 (by decide) rfl rfl (fun hc73 => ?_) (fun hc73 => absurd (nle (by omega) (by omega)) hc73)
    refine e_iload_n (p := 113) dX11_bestHand_112 rfl rfl ?_
    exact e_iretE dX11_bestHand_113 rfl rfl (by decide) ⟨rfl, rfl⟩
  | m + 1, j, best, most, hj => by
    have hD := hW.c
    have hH := hW.h
    have hT := hW.t
    have bt := hT.2
    obtain ⟨b0, b1, b2, b3, b4, b5, b6⟩ := hD.2
    refine e_iload (p := 64) dX11_bestHand_62 rfl rfl ?_
    refine e_aload_n (p := 65) dX11_bestHand_64 rfl rfl ?_
    refine e_getR (c := 10) (j := 2) (n := 13) (b := o) (p := 68) dX11_bestHand_65 rfl rfl (by decide) (by decide) rfl hoF rfl ?_
    refine e_getR (c := 4) (j := 2) (n := 18) (b := (o + 1)) (p := 71) dX11_bestHand_68 rfl (s_o ho) (l_o0 ho) (by decide) rfl (r_o2 hF ho) rfl ?_
    refine e_iconst (v := 5) (p := 72) dX11_bestHand_71 (by decide) rfl ?_
    refine f_iald (n := 7) (i := 5) (v := nI (dN D 5)) (p := 73) dX11_bestHand_72 (s_o1 ho) (l_o ho 1 (by decide)) (by decide) (by decide) (cN hC hD (by decide)) rfl ?_
    refine e_icmp_ge (t := 112) (p := 76) dX11_bestHand_73 (by decide) rfl rfl (fun hc73 => absurd hc73 (nge (by omega) (by omega))) (fun hc73 => ?_)
    refine e_aload_n (p := 77) dX11_bestHand_76 rfl rfl ?_
    refine e_getR (c := 10) (j := 7) (n := 13) (b := 82) (p := 80) dX11_bestHand_77 rfl rfl (by decide) (by decide) rfl (r_0_7 hF) rfl ?_
    refine e_getR (c := 0) (j := 0) (n := 2) (b := 83) (p := 83) dX11_bestHand_80 rfl rfl (by decide) (by decide) rfl (r_82_0 hF) rfl ?_
    refine e_iload (p := 85) dX11_bestHand_83 rfl rfl ?_
    refine f_iald (n := 5) (i := j) (v := q j) (p := 86) dX11_bestHand_85 rfl (by decide) (in_nJ (by omega) (by decide)) (nI_cl (by omega)) (hg j (by omega)) rfl ?_
    refine e_iload (p := 88) dX11_bestHand_86 rfl rfl ?_
    refine e_icmp_le (t := 106) (p := 91) dX11_bestHand_88 (by decide) rfl rfl (fun hc88 => ?_) (fun hc88 => ?_)
    · skip
      refine e_iinc (ls1 := [.ref 0, .int v, .int l, .int best, .int most, .int ((nI j) + 1)]) (p := 109) dX11_bestHand_106 rfl rfl rfl ?_
      refine e_goto (p := 62) dX11_bestHand_109 (by decide) rfl ?_
      rw [nI_1]
      exact Ev.res (by simp only [gN_s, bhC, hc88, (Int32.not_lt.mpr hc88), bit, Int32.or_zero, Int32.add_zero, ↓reduceIte]) (x_bestHand_L ho hF hoF hC hW hm hS hg m (j + 1) best most  (by omega))
    · skip
      refine e_aload_n (p := 92) dX11_bestHand_91 rfl rfl ?_
      refine e_getR (c := 10) (j := 7) (n := 13) (b := 82) (p := 95) dX11_bestHand_92 rfl rfl (by decide) (by decide) rfl (r_0_7 hF) rfl ?_
      refine e_getR (c := 0) (j := 0) (n := 2) (b := 83) (p := 98) dX11_bestHand_95 rfl rfl (by decide) (by decide) rfl (r_82_0 hF) rfl ?_
      refine e_iload (p := 100) dX11_bestHand_98 rfl rfl ?_
      refine f_iald (n := 5) (i := j) (v := q j) (p := 101) dX11_bestHand_100 rfl (by decide) (in_nJ (by omega) (by decide)) (nI_cl (by omega)) (hg j (by omega)) rfl ?_
      refine e_istore (ls1 := [.ref 0, .int v, .int l, .int best, .int (q j), .int (nI j)]) (p := 103) dX11_bestHand_101 rfl rfl ?_
      refine e_iload (p := 105) dX11_bestHand_103 rfl rfl ?_
      refine e_istore_n (ls1 := [.ref 0, .int v, .int l, .int (nI j), .int (q j), .int (nI j)]) (p := 106) dX11_bestHand_105 rfl rfl ?_
      refine e_iinc (ls1 := [.ref 0, .int v, .int l, .int (nI j), .int (q j), .int ((nI j) + 1)]) (p := 109) dX11_bestHand_106 rfl rfl rfl ?_
      refine e_goto (p := 62) dX11_bestHand_109 (by decide) rfl ?_
      rw [nI_1]
      exact Ev.res (by simp only [gN_s, bhC, hc88, (Int32.not_le.mp hc88), bit, Int32.or_zero, Int32.add_zero, ↓reduceIte]) (x_bestHand_L ho hF hoF hC hW hm hS hg m (j + 1) (nI j) (q j)  (by omega))
set_option maxRecDepth 10000 in
theorem c_bestHand_no {I : Nat → Nat → Int32} {J : Nat → Nat → Int64} {F : Nat → Nat → Option Nat} {nc ns : Nat} {o : Nat} {D : oD} {s : Nat → Int32} (ho : isO o) (hF : RFok F) (hoF : F 0 2 = some o) (hC : oC I o D) (hW : WF D) (hm : mo I 42 s) (hS : WFs D s) {v l : Int32} (ht : ¬ (eiS (toS D) (eiS (nuS v 0 999) (nuS l 0 30))) = 0) : Ev 2 mX11_bestHand 0 [.ref 0, .int v, .int l, .null, .null, .null] [] ((SH, nc, ns), I, J, F) (some (.int (-1))) ((SH, nc, ns), hp_u I 0 10 (eiS (toS D) (eiS (nuS v 0 999) (nuS l 0 30))), J, F) := by
  have hD := hW.c
  have hH := hW.h
  have hT := hW.t
  have bt := hT.2
  obtain ⟨b0, b1, b2, b3, b4, b5, b6⟩ := hD.2
  refine e_aload_n (p := 1) dX11_bestHand_0 rfl rfl ?_
  refine e_aload_n (p := 2) dX11_bestHand_1 rfl rfl ?_
  refine e_callV_int (p := 5) (k' := 1) (a := [.ref 0]) (rr := [.ref 0]) dX11_bestHand_2 rfl rfl rfl rfl (rc_of rfl rfl (by decide) ⟨rfl, by decide⟩) (Nat.le_of_ble_eq_true rfl) (Nat.le_of_ble_eq_true rfl) (by decide) (x_ofOath ho hF hoF hC hW hm hS) (Or.inl rfl) rfl ?_
  refine e_iload_n (p := 6) dX11_bestHand_5 rfl rfl ?_
  refine e_iconst (v := 0) (p := 7) dX11_bestHand_6 (by decide) rfl ?_
  refine e_sipush (v := 999) (p := 10) dX11_bestHand_7 (by decide) rfl ?_
  refine e_callS_int (p := 13) (k' := 0) (a := [.int v, .int 0, .int 999]) (rr := [.int (toS D), .ref 0]) dX11_bestHand_10 rfl rfl rfl rfl rfl (rc_st rfl) (Nat.le_of_ble_eq_true rfl) (Nat.le_of_ble_eq_true rfl) (by decide) x_ofNumber (Or.inl rfl) rfl ?_
  refine e_aload_n (p := 14) dX11_bestHand_13 rfl rfl ?_
  refine e_iload_n (p := 15) dX11_bestHand_14 rfl rfl ?_
  refine e_callV_int (p := 18) (k' := 1) (a := [.ref 0, .int l]) (rr := [.int (nuS v 0 999), .int (toS D), .ref 0]) dX11_bestHand_15 rfl rfl rfl rfl (rc_of rfl rfl (by decide) ⟨rfl, by decide⟩) (Nat.le_of_ble_eq_true rfl) (Nat.le_of_ble_eq_true rfl) (by decide) x_ofLanding (Or.inl rfl) rfl ?_
  refine e_callS_int (p := 21) (k' := 0) (a := [.int (nuS v 0 999), .int (nuS l 0 30)]) (rr := [.int (toS D), .ref 0]) dX11_bestHand_18 rfl rfl rfl rfl rfl (rc_st rfl) (Nat.le_of_ble_eq_true rfl) (Nat.le_of_ble_eq_true rfl) (by decide) x_either (Or.inl rfl) rfl ?_
  refine e_callS_int (p := 24) (k' := 0) (a := [.int (toS D), .int (eiS (nuS v 0 999) (nuS l 0 30))]) (rr := [.ref 0]) dX11_bestHand_21 rfl rfl rfl rfl rfl (rc_st rfl) (Nat.le_of_ble_eq_true rfl) (Nat.le_of_ble_eq_true rfl) (by decide) x_either (Or.inl rfl) rfl ?_
  refine e_callV_int (p := 27) (k' := 0) (a := [.ref 0, .int (eiS (toS D) (eiS (nuS v 0 999) (nuS l 0 30)))]) (rr := []) dX11_bestHand_24 rfl rfl rfl rfl (rc_of rfl rfl (by decide) ⟨rfl, by decide⟩) (Nat.le_of_ble_eq_true rfl) (Nat.le_of_ble_eq_true rfl) (by decide) x_refused (Or.inl rfl) rfl ?_
  refine e_if_eq (t := 32) (p := 30) dX11_bestHand_27 (by decide) rfl rfl (fun hc27 => absurd hc27 (rf_ne ht)) (fun hc27 => ?_)
  refine e_iconst (v := -1) (p := 31) dX11_bestHand_30 (by decide) rfl ?_
  exact e_iretE dX11_bestHand_31 rfl rfl (by decide) ⟨rfl, rfl⟩
set_option maxRecDepth 10000 in
theorem c_bestHand_ok {I : Nat → Nat → Int32} {J : Nat → Nat → Int64} {F : Nat → Nat → Option Nat} {nc ns : Nat} {o : Nat} {D : oD} {s : Nat → Int32} (ho : isO o) (hF : RFok F) (hoF : F 0 2 = some o) (hC : oC I o D) (hW : WF D) (hm : mo I 42 s) (hS : WFs D s) (ht1 : tol D = 1) {v : Nat} (hv : v ≤ 999) {l : Nat} (hl : l ≤ 30) : Ew 2 mX11_bestHand 0 [.ref 0, .int (nI v), .int (nI l), .null, .null, .null] [] ((SH, nc, ns), I, J, F) (Ret nc ns (some (.int (bhS (partS D v (nI l * D 0 0)) (dN D 5)))) (fun I' J' F' => Fr 82 85 (hp_u I 0 10 0) I' ∧ J' = J ∧ F' = F)) := by
  have hD := hW.c
  have hH := hW.h
  have hT := hW.t
  have bt := hT.2
  obtain ⟨b0, b1, b2, b3, b4, b5, b6⟩ := hD.2
  refine we_aload_n (p := 1) dX11_bestHand_0 rfl rfl ?_
  refine we_aload_n (p := 2) dX11_bestHand_1 rfl rfl ?_
  refine we_callV_int (p := 5) (k' := 1) (a := [.ref 0]) (rr := [.ref 0]) dX11_bestHand_2 rfl rfl rfl rfl (rc_of rfl rfl (by decide) ⟨rfl, by decide⟩) (Nat.le_of_ble_eq_true rfl) (Nat.le_of_ble_eq_true rfl) (by decide) (Ev.i (to_1 ht1) (x_ofOath ho hF hoF hC hW hm hS)) (Or.inl rfl) rfl ?_
  refine we_iload_n (p := 6) dX11_bestHand_5 rfl rfl ?_
  refine we_iconst (v := 0) (p := 7) dX11_bestHand_6 (by decide) rfl ?_
  refine we_sipush (v := 999) (p := 10) dX11_bestHand_7 (by decide) rfl ?_
  refine we_callS_int (p := 13) (k' := 0) (a := [.int (nI v), .int 0, .int 999]) (rr := [.int 0, .ref 0]) dX11_bestHand_10 rfl rfl rfl rfl rfl (rc_st rfl) (Nat.le_of_ble_eq_true rfl) (Nat.le_of_ble_eq_true rfl) (by decide) (Ev.i (nu_ok (a := 0) (b := 999) (n := v) (by omega) (by omega) (by omega)) (x_ofNumber)) (Or.inl rfl) rfl ?_
  refine we_aload_n (p := 14) dX11_bestHand_13 rfl rfl ?_
  refine we_iload_n (p := 15) dX11_bestHand_14 rfl rfl ?_
  refine we_callV_int (p := 18) (k' := 1) (a := [.ref 0, .int (nI l)]) (rr := [.int 0, .int 0, .ref 0]) dX11_bestHand_15 rfl rfl rfl rfl (rc_of rfl rfl (by decide) ⟨rfl, by decide⟩) (Nat.le_of_ble_eq_true rfl) (Nat.le_of_ble_eq_true rfl) (by decide) (Ev.i (nu_ok (a := 0) (b := 30) (n := l) (by omega) (by omega) (by omega)) (x_ofLanding)) (Or.inl rfl) rfl ?_
  refine we_callS_int (p := 21) (k' := 0) (a := [.int 0, .int 0]) (rr := [.int 0, .ref 0]) dX11_bestHand_18 rfl rfl rfl rfl rfl (rc_st rfl) (Nat.le_of_ble_eq_true rfl) (Nat.le_of_ble_eq_true rfl) (by decide) (Ev.i (show eiS 0 0 = 0 by decide) (x_either)) (Or.inl rfl) rfl ?_
  refine we_callS_int (p := 24) (k' := 0) (a := [.int 0, .int 0]) (rr := [.ref 0]) dX11_bestHand_21 rfl rfl rfl rfl rfl (rc_st rfl) (Nat.le_of_ble_eq_true rfl) (Nat.le_of_ble_eq_true rfl) (by decide) (Ev.i (show eiS 0 0 = 0 by decide) (x_either)) (Or.inl rfl) rfl ?_
  refine we_callV_int (p := 27) (k' := 0) (a := [.ref 0, .int 0]) (rr := []) dX11_bestHand_24 rfl rfl rfl rfl (rc_of rfl rfl (by decide) ⟨rfl, by decide⟩) (Nat.le_of_ble_eq_true rfl) (Nat.le_of_ble_eq_true rfl) (by decide) (Ev.i (show rfS 0 = 0 by decide) (x_refused)) (Or.inl rfl) rfl ?_
  refine we_if_eq (t := 32) (p := 30) dX11_bestHand_27 (by decide) rfl rfl (fun hc27 => ?_) (fun hc27 => absurd (by decide) hc27)
  refine we_aload_n (p := 33) dX11_bestHand_32 rfl rfl ?_
  refine we_getR (c := 10) (j := 7) (n := 13) (b := 82) (p := 36) dX11_bestHand_33 rfl rfl (by decide) (by decide) rfl (r_0_7 hF) rfl ?_
  refine we_aload_n (p := 37) dX11_bestHand_36 rfl rfl ?_
  refine we_getR (c := 10) (j := 2) (n := 13) (b := o) (p := 40) dX11_bestHand_37 rfl rfl (by decide) (by decide) rfl hoF rfl ?_
  refine we_iload_n (p := 41) dX11_bestHand_40 rfl rfl ?_
  refine we_iload_n (p := 42) dX11_bestHand_41 rfl rfl ?_
  refine we_aload_n (p := 43) dX11_bestHand_42 rfl rfl ?_
  refine we_getR (c := 10) (j := 2) (n := 13) (b := o) (p := 46) dX11_bestHand_43 rfl rfl (by decide) (by decide) rfl hoF rfl ?_
  refine wf_getI (c := 4) (j := 0) (n := 18) (v := D 0 0) (p := 49) dX11_bestHand_46 rfl (s_o ho) (l_o0 ho) (by decide) (Or.inl rfl) (oC_u hC ho (by decide)).1 rfl ?_
  refine we_imul (p := 50) dX11_bestHand_49 rfl ?_
  obtain ⟨_, _, e1, rfl, I1, J1, F1, rfl, ⟨f1, rfl, rfl, p1⟩⟩ := x_divide (I0 := (hp_u I 0 10 0)) ho hF (oC_u hC ho (by decide)) hW (v := v) (y := nI l * D 0 0) hv (yl_R hW hl)
  refine we_callV_v (p := 53) (k' := 1) (a := [.ref 82, .ref o, .int (nI v), .int ((nI l) * (D 0 0))]) (rr := []) dX11_bestHand_50 rfl rfl rfl rfl (rc_of rfl rfl (by decide) ⟨rfl, by decide⟩) (Nat.le_of_ble_eq_true rfl) (Nat.le_of_ble_eq_true rfl) (by decide) e1 (Or.inl rfl) rfl ?_
  refine we_bipush (v := -2) (p := 55) dX11_bestHand_53 (by decide) rfl ?_
  refine we_istore_n (ls1 := [.ref 0, .int (nI v), .int (nI l), .int (-2), .null, .null]) (p := 56) dX11_bestHand_55 rfl rfl ?_
  refine we_iconst (v := 0) (p := 57) dX11_bestHand_56 (by decide) rfl ?_
  refine we_istore (ls1 := [.ref 0, .int (nI v), .int (nI l), .int (-2), .int 0, .null]) (p := 59) dX11_bestHand_57 rfl rfl ?_
  refine we_iconst (v := 0) (p := 60) dX11_bestHand_59 (by decide) rfl ?_
  refine we_istore (ls1 := [.ref 0, .int (nI v), .int (nI l), .int (-2), .int 0, .int 0]) (p := 62) dX11_bestHand_60 rfl rfl ?_
  exact (x_bestHand_L ho hF hoF (oC_fr (oC_u hC ho (by decide)) ho (fun k h1 h2 => f1 k (by omega))) hW (mo_fr (mo_u hm (by decide)) (f1 42 (by omega))) hS p1 (dN D 5) 0 _ _ (by omega)).w ⟨rfl, _, _, _, rfl, f1, rfl, rfl⟩
def pwS (t v l : Int32) : Int32 := if t = 0 then 1 else if inS v 0 999 = 0 then 2 else if inS l 0 30 = 0 then 2 else 0
set_option maxRecDepth 10000 in
theorem y_partWhy {I : Nat → Nat → Int32} {J : Nat → Nat → Int64} {F : Nat → Nat → Option Nat} {nc ns : Nat} {t v l : Int32} : Ev 2 mX12_partWhy 0 [.ref 95, .int t, .int v, .int l] [] ((SH, nc, ns), I, J, F) (some (.int (pwS t v l))) ((SH, nc, ns), I, J, F) := by
  refine e_iload_n (p := 1) dX12_partWhy_0 rfl rfl ?_
  refine e_if_ne (t := 8) (p := 4) dX12_partWhy_1 (by decide) rfl rfl (fun hc1 => ?_) (fun hc1 => ?_)
  · skip
    refine e_iload_n (p := 9) dX12_partWhy_8 rfl rfl ?_
    refine e_iconst (v := 0) (p := 10) dX12_partWhy_9 (by decide) rfl ?_
    refine e_sipush (v := 999) (p := 13) dX12_partWhy_10 (by decide) rfl ?_
    refine e_callS_int (p := 16) (k' := 0) (a := [.int v, .int 0, .int 999]) (rr := []) dX12_partWhy_13 rfl rfl rfl rfl rfl (rc_st rfl) (Nat.le_of_ble_eq_true rfl) (Nat.le_of_ble_eq_true rfl) (by decide) (y_in  ) (Or.inl rfl) rfl ?_
    refine e_if_eq (t := 30) (p := 19) dX12_partWhy_16 (by decide) rfl rfl (fun hc16 => ?_) (fun hc16 => ?_)
    · skip
      refine e_iconst (v := 2) (p := 31) dX12_partWhy_30 (by decide) rfl ?_
      exact e_iretE dX12_partWhy_31 rfl rfl (by decide) ⟨by simp only [pwS, hc1, hc16, ↓reduceIte], rfl⟩
    · skip
      refine e_iload_n (p := 20) dX12_partWhy_19 rfl rfl ?_
      refine e_callS_int (p := 23) (k' := 1) (a := [.int l]) (rr := []) dX12_partWhy_20 rfl rfl rfl rfl rfl (rc_st rfl) (Nat.le_of_ble_eq_true rfl) (Nat.le_of_ble_eq_true rfl) (by decide) (y_isLanding  ) (Or.inl rfl) rfl ?_
      refine e_if_eq (t := 30) (p := 26) dX12_partWhy_23 (by decide) rfl rfl (fun hc23 => ?_) (fun hc23 => ?_)
      · skip
        refine e_iconst (v := 2) (p := 31) dX12_partWhy_30 (by decide) rfl ?_
        exact e_iretE dX12_partWhy_31 rfl rfl (by decide) ⟨by simp only [pwS, hc1, hc16, hc23, ↓reduceIte], rfl⟩
      · skip
        refine e_iconst (v := 0) (p := 27) dX12_partWhy_26 (by decide) rfl ?_
        refine e_goto (p := 31) dX12_partWhy_27 (by decide) rfl ?_
        exact e_iretE dX12_partWhy_31 rfl rfl (by decide) ⟨by simp only [pwS, hc1, hc16, hc23, ↓reduceIte], rfl⟩
  · skip
    refine e_iconst (v := 1) (p := 5) dX12_partWhy_4 (by decide) rfl ?_
    refine e_goto (p := 31) dX12_partWhy_5 (by decide) rfl ?_
    exact e_iretE dX12_partWhy_31 rfl rfl (by decide) ⟨by simp only [pwS, hc1, ↓reduceIte], rfl⟩
theorem pw_ok {v l : Nat} (hv : v ≤ 999) (hl : l ≤ 30) : pwS 1 (nI v) (nI l) = 0 := by
  have e1 : inS (nI v) 0 999 = 1 := in_ok (a := 0) (b := 999) (by omega) hv (by omega)
  have e2 : inS (nI l) 0 30 = 1 := in_ok (a := 0) (b := 30) (by omega) hl (by omega)
  unfold pwS
  rw [e1, e2]
  decide
set_option maxRecDepth 10000 in
theorem q_part_no {I : Nat → Nat → Int32} {J : Nat → Nat → Int64} {F : Nat → Nat → Option Nat} {nc ns : Nat} {D : oD} (hF : RFok F) (hM : oM I 98 D) (hW : WF D) (hO : I 95 14 = tol D) {k v l : Int32} (ht : ¬ (if tol D = 0 then pwS 0 v l else if inS k 0 (nI (dN D 5) - 1) = 0 then pwS 0 v l else pwS 1 v l) = 0) : Ev 3 mX12_part 0 [.ref 95, .int k, .int v, .int l, .null] [] ((SH, nc, ns), I, J, F) (some (.int (-1))) ((SH, nc, ns), hp_u (hp_u I 95 0 0) 95 11 (if tol D = 0 then pwS 0 v l else if inS k 0 (nI (dN D 5) - 1) = 0 then pwS 0 v l else pwS 1 v l), J, F) := by
  have hD := hW.c
  have hH := hW.h
  have hT := hW.t
  have bt := hT.2
  obtain ⟨b0, b1, b2, b3, b4, b5, b6⟩ := hD.2
  refine e_aload_n (p := 1) dX12_part_0 rfl rfl ?_
  refine e_callV_v (p := 4) (k' := 0) (a := [.ref 95]) (rr := []) dX12_part_1 rfl rfl rfl rfl (rc_of rfl rfl (by decide) ⟨rfl, by decide⟩) (Nat.le_of_ble_eq_true rfl) (Nat.le_of_ble_eq_true rfl) (by decide) y_good (Or.inl rfl) rfl ?_
  refine e_aload_n (p := 5) dX12_part_4 rfl rfl ?_
  refine e_aload_n (p := 6) dX12_part_5 rfl rfl ?_
  refine f_getI (c := 11) (j := 14) (n := 37) (v := tol D) (p := 9) dX12_part_6 rfl rfl (by decide) (by decide) (Or.inr rfl) (I_u (I_u hO (by decide)) (by decide)) rfl ?_
  refine e_if_eq (t := 33) (p := 12) dX12_part_9 (by decide) rfl rfl (fun hc9 => ?_) (fun hc9 => ?_)
  · skip
    refine e_iconst (v := 0) (p := 34) dX12_part_33 (by decide) rfl ?_
    refine e_iload_n (p := 35) dX12_part_34 rfl rfl ?_
    refine e_iload_n (p := 36) dX12_part_35 rfl rfl ?_
    refine e_callV_int (p := 39) (k' := 2) (a := [.ref 95, .int 0, .int v, .int l]) (rr := []) dX12_part_36 rfl rfl rfl rfl (rc_of rfl rfl (by decide) ⟨rfl, by decide⟩) (Nat.le_of_ble_eq_true rfl) (Nat.le_of_ble_eq_true rfl) (by decide) (y_partWhy  ) (Or.inl rfl) rfl ?_
    refine e_istore (ls1 := [.ref 95, .int k, .int v, .int l, .int (pwS 0 v l)]) (p := 41) dX12_part_39 rfl rfl ?_
    refine e_iload (p := 43) dX12_part_41 rfl rfl ?_
    refine e_if_eq (t := 53) (p := 46) dX12_part_43 (by decide) rfl rfl (fun hc43 => ?_) (fun hc43 => ?_)
    · skip
      first | (refine absurd ?_ ht; simp only [hc9, hc43, ↓reduceIte]; done) | (exfalso; simp_all; done)
    · skip
      refine e_aload_n (p := 47) dX12_part_46 rfl rfl ?_
      refine e_iload (p := 49) dX12_part_47 rfl rfl ?_
      refine e_callV_int (p := 52) (k' := 0) (a := [.ref 95, .int (pwS 0 v l)]) (rr := []) dX12_part_49 rfl rfl rfl rfl (rc_of rfl rfl (by decide) ⟨rfl, by decide⟩) (Nat.le_of_ble_eq_true rfl) (Nat.le_of_ble_eq_true rfl) (by decide) y_no (Or.inl rfl) rfl ?_
      exact e_iretE dX12_part_52 rfl rfl (by decide) ⟨rfl, hpq (by first | (simp only [hc9, hc43, ↓reduceIte]; done) | (exfalso; simp_all; done))⟩
  · skip
    refine e_iload_n (p := 13) dX12_part_12 rfl rfl ?_
    refine e_iconst (v := 0) (p := 14) dX12_part_13 (by decide) rfl ?_
    refine e_aload_n (p := 15) dX12_part_14 rfl rfl ?_
    refine e_getR (c := 11) (j := 15) (n := 37) (b := 98) (p := 18) dX12_part_15 rfl rfl (by decide) (by decide) rfl (r_95_15 hF) rfl ?_
    refine e_bipush (v := 7) (p := 20) dX12_part_18 (by decide) rfl ?_
    refine f_iald (n := 276) (i := 7) (v := nI (dN D 5)) (p := 21) dX12_part_20 rfl (by decide) (by decide) (by decide) (mNn (i := 5) (oM_u (oM_u hM (by decide)) (by decide)) hD (by decide)) rfl ?_
    refine e_iconst (v := 1) (p := 22) dX12_part_21 (by decide) rfl ?_
    refine e_isub (p := 23) dX12_part_22 rfl ?_
    refine e_callS_int (p := 26) (k' := 0) (a := [.int k, .int 0, .int ((nI (dN D 5)) - 1)]) (rr := [.ref 95]) dX12_part_23 rfl rfl rfl rfl rfl (rc_st rfl) (Nat.le_of_ble_eq_true rfl) (Nat.le_of_ble_eq_true rfl) (by decide) (y_in  ) (Or.inl rfl) rfl ?_
    refine e_if_eq (t := 33) (p := 29) dX12_part_26 (by decide) rfl rfl (fun hc26 => ?_) (fun hc26 => ?_)
    · skip
      refine e_iconst (v := 0) (p := 34) dX12_part_33 (by decide) rfl ?_
      refine e_iload_n (p := 35) dX12_part_34 rfl rfl ?_
      refine e_iload_n (p := 36) dX12_part_35 rfl rfl ?_
      refine e_callV_int (p := 39) (k' := 2) (a := [.ref 95, .int 0, .int v, .int l]) (rr := []) dX12_part_36 rfl rfl rfl rfl (rc_of rfl rfl (by decide) ⟨rfl, by decide⟩) (Nat.le_of_ble_eq_true rfl) (Nat.le_of_ble_eq_true rfl) (by decide) (y_partWhy  ) (Or.inl rfl) rfl ?_
      refine e_istore (ls1 := [.ref 95, .int k, .int v, .int l, .int (pwS 0 v l)]) (p := 41) dX12_part_39 rfl rfl ?_
      refine e_iload (p := 43) dX12_part_41 rfl rfl ?_
      refine e_if_eq (t := 53) (p := 46) dX12_part_43 (by decide) rfl rfl (fun hc43 => ?_) (fun hc43 => ?_)
      · skip
        first | (refine absurd ?_ ht; simp only [hc9, hc26, hc43, ↓reduceIte]; done) | (exfalso; simp_all; done)
      · skip
        refine e_aload_n (p := 47) dX12_part_46 rfl rfl ?_
        refine e_iload (p := 49) dX12_part_47 rfl rfl ?_
        refine e_callV_int (p := 52) (k' := 0) (a := [.ref 95, .int (pwS 0 v l)]) (rr := []) dX12_part_49 rfl rfl rfl rfl (rc_of rfl rfl (by decide) ⟨rfl, by decide⟩) (Nat.le_of_ble_eq_true rfl) (Nat.le_of_ble_eq_true rfl) (by decide) y_no (Or.inl rfl) rfl ?_
        exact e_iretE dX12_part_52 rfl rfl (by decide) ⟨rfl, hpq (by first | (simp only [hc9, hc26, hc43, ↓reduceIte]; done) | (exfalso; simp_all; done))⟩
    · skip
      refine e_iconst (v := 1) (p := 30) dX12_part_29 (by decide) rfl ?_
      refine e_goto (p := 34) dX12_part_30 (by decide) rfl ?_
      refine e_iload_n (p := 35) dX12_part_34 rfl rfl ?_
      refine e_iload_n (p := 36) dX12_part_35 rfl rfl ?_
      refine e_callV_int (p := 39) (k' := 2) (a := [.ref 95, .int 1, .int v, .int l]) (rr := []) dX12_part_36 rfl rfl rfl rfl (rc_of rfl rfl (by decide) ⟨rfl, by decide⟩) (Nat.le_of_ble_eq_true rfl) (Nat.le_of_ble_eq_true rfl) (by decide) (y_partWhy  ) (Or.inl rfl) rfl ?_
      refine e_istore (ls1 := [.ref 95, .int k, .int v, .int l, .int (pwS 1 v l)]) (p := 41) dX12_part_39 rfl rfl ?_
      refine e_iload (p := 43) dX12_part_41 rfl rfl ?_
      refine e_if_eq (t := 53) (p := 46) dX12_part_43 (by decide) rfl rfl (fun hc43 => ?_) (fun hc43 => ?_)
      · skip
        first | (refine absurd ?_ ht; simp only [hc9, hc26, hc43, ↓reduceIte]; done) | (exfalso; simp_all; done)
      · skip
        refine e_aload_n (p := 47) dX12_part_46 rfl rfl ?_
        refine e_iload (p := 49) dX12_part_47 rfl rfl ?_
        refine e_callV_int (p := 52) (k' := 0) (a := [.ref 95, .int (pwS 1 v l)]) (rr := []) dX12_part_49 rfl rfl rfl rfl (rc_of rfl rfl (by decide) ⟨rfl, by decide⟩) (Nat.le_of_ble_eq_true rfl) (Nat.le_of_ble_eq_true rfl) (by decide) y_no (Or.inl rfl) rfl ?_
        exact e_iretE dX12_part_52 rfl rfl (by decide) ⟨rfl, hpq (by first | (simp only [hc9, hc26, hc43, ↓reduceIte]; done) | (exfalso; simp_all; done))⟩
set_option maxRecDepth 10000 in
theorem q_part_ok {I : Nat → Nat → Int32} {J : Nat → Nat → Int64} {F : Nat → Nat → Option Nat} {nc ns : Nat} {D : oD} (hF : RFok F) (hM : oM I 98 D) (hW : WF D) (hO : I 95 14 = tol D) {k : Nat} (hk : k < dN D 5) {v : Nat} (hv : v ≤ 999) {l : Nat} (hl : l ≤ 30) : Ew 3 mX12_part 0 [.ref 95, .int (nI k), .int (nI v), .int (nI l), .null] [] ((SH, nc, ns), I, J, F) (Ret nc ns (some (.int (partS D v (nI l * D 0 0) k))) (fun I' J' F' => Fr 107 108 (hp_u (hp_u I 95 0 0) 95 11 0) I' ∧ J' = J ∧ F' = F)) := by
  have hD := hW.c
  have hH := hW.h
  have hT := hW.t
  have bt := hT.2
  obtain ⟨b0, b1, b2, b3, b4, b5, b6⟩ := hD.2
  have ht1 := tol_1 hW (i := 5) (by decide) (by omega)
  refine we_aload_n (p := 1) dX12_part_0 rfl rfl ?_
  refine we_callV_v (p := 4) (k' := 0) (a := [.ref 95]) (rr := []) dX12_part_1 rfl rfl rfl rfl (rc_of rfl rfl (by decide) ⟨rfl, by decide⟩) (Nat.le_of_ble_eq_true rfl) (Nat.le_of_ble_eq_true rfl) (by decide) y_good (Or.inl rfl) rfl ?_
  refine we_aload_n (p := 5) dX12_part_4 rfl rfl ?_
  refine we_aload_n (p := 6) dX12_part_5 rfl rfl ?_
  refine wf_getI (c := 11) (j := 14) (n := 37) (v := 1) (p := 9) dX12_part_6 rfl rfl (by decide) (by decide) (Or.inr rfl) ((I_u (I_u hO (by decide)) (by decide)).trans ht1) rfl ?_
  refine we_if_eq (t := 33) (p := 12) dX12_part_9 (by decide) rfl rfl (fun hc9 => absurd hc9 (by decide)) (fun hc9 => ?_)
  refine we_iload_n (p := 13) dX12_part_12 rfl rfl ?_
  refine we_iconst (v := 0) (p := 14) dX12_part_13 (by decide) rfl ?_
  refine we_aload_n (p := 15) dX12_part_14 rfl rfl ?_
  refine we_getR (c := 11) (j := 15) (n := 37) (b := 98) (p := 18) dX12_part_15 rfl rfl (by decide) (by decide) rfl (r_95_15 hF) rfl ?_
  refine we_bipush (v := 7) (p := 20) dX12_part_18 (by decide) rfl ?_
  refine wf_iald (n := 276) (i := 7) (v := nI (dN D 5)) (p := 21) dX12_part_20 rfl (by decide) (by decide) (by decide) (mNn (i := 5) (oM_u (oM_u hM (by decide)) (by decide)) hD (by decide)) rfl ?_
  refine we_iconst (v := 1) (p := 22) dX12_part_21 (by decide) rfl ?_
  refine we_isub (p := 23) dX12_part_22 rfl ?_
  refine we_callS_int (p := 26) (k' := 0) (a := [.int (nI k), .int 0, .int ((nI (dN D 5)) - 1)]) (rr := [.ref 95]) dX12_part_23 rfl rfl rfl rfl rfl (rc_st rfl) (Nat.le_of_ble_eq_true rfl) (Nat.le_of_ble_eq_true rfl) (by decide) (Ev.i ((in_ix1 (by omega)).trans (ixB_ok (by omega) (by omega))) (y_in)) (Or.inl rfl) rfl ?_
  refine we_if_eq (t := 33) (p := 29) dX12_part_26 (by decide) rfl rfl (fun hc26 => absurd hc26 (by decide)) (fun hc26 => ?_)
  refine we_iconst (v := 1) (p := 30) dX12_part_29 (by decide) rfl ?_
  refine we_goto (p := 34) dX12_part_30 (by decide) rfl ?_
  refine we_iload_n (p := 35) dX12_part_34 rfl rfl ?_
  refine we_iload_n (p := 36) dX12_part_35 rfl rfl ?_
  refine we_callV_int (p := 39) (k' := 2) (a := [.ref 95, .int 1, .int (nI v), .int (nI l)]) (rr := []) dX12_part_36 rfl rfl rfl rfl (rc_of rfl rfl (by decide) ⟨rfl, by decide⟩) (Nat.le_of_ble_eq_true rfl) (Nat.le_of_ble_eq_true rfl) (by decide) (Ev.i (pw_ok (by omega) (by omega)) (y_partWhy  )) (Or.inl rfl) rfl ?_
  refine we_istore (ls1 := [.ref 95, .int (nI k), .int (nI v), .int (nI l), .int 0]) (p := 41) dX12_part_39 rfl rfl ?_
  refine we_iload (p := 43) dX12_part_41 rfl rfl ?_
  refine we_if_eq (t := 53) (p := 46) dX12_part_43 (by decide) rfl rfl (fun hc43 => ?_) (fun hc43 => absurd (by decide) hc43)
  refine we_aload_n (p := 54) dX12_part_53 rfl rfl ?_
  refine we_iload_n (p := 55) dX12_part_54 rfl rfl ?_
  refine we_iload_n (p := 56) dX12_part_55 rfl rfl ?_
  obtain ⟨_, _, e1, rfl, I1, J1, F1, rfl, ⟨f1, rfl, rfl, p1⟩⟩ := y_layParts (I0 := (hp_u (hp_u I 95 0 0) 95 11 0)) hF (oM_u (oM_u hM (by decide)) (by decide)) hW (v := v) (l := nI l) hv (yl_R hW hl)
  refine we_callV_v (p := 59) (k' := 1) (a := [.ref 95, .int (nI v), .int (nI l)]) (rr := []) dX12_part_56 rfl rfl rfl rfl (rc_of rfl rfl (by decide) ⟨rfl, by decide⟩) (Nat.le_of_ble_eq_true rfl) (Nat.le_of_ble_eq_true rfl) (by decide) e1 (Or.inl rfl) rfl ?_
  refine we_aload_n (p := 60) dX12_part_59 rfl rfl ?_
  refine we_getR (c := 11) (j := 30) (n := 37) (b := 107) (p := 63) dX12_part_60 rfl rfl (by decide) (by decide) rfl (r_95_30 hF) rfl ?_
  refine we_iload_n (p := 64) dX12_part_63 rfl rfl ?_
  refine wf_iald (n := 5) (i := k) (v := partS D v (nI l * D 0 0) k) (p := 65) dX12_part_64 rfl (by decide) (in_nJ (by omega) (by decide)) (nI_cl (by omega)) (p1 k (by omega)) rfl ?_
  exact wi_ret dX12_part_65 rfl rfl (by decide) (⟨rfl, _, _, _, rfl, f1, rfl, rfl⟩)
set_option maxRecDepth 10000 in
theorem y_bestHand_L {I : Nat → Nat → Int32} {J : Nat → Nat → Int64} {F : Nat → Nat → Option Nat} {nc ns : Nat} {D : oD} (hF : RFok F) (hM : oM I 98 D) (hW : WF D) {q : Nat → Int32} {v l z : Int32} (hg : ∀ i, i < dN D 5 → I 107 i = q i) : ∀ (m j : Nat) (b : Int32), j + m = dN D 5 → (b = -2 ∨ ∃ x, x < dN D 5 ∧ b = nI x) → Ev 3 mX12_bestHand 38 [.ref 95, .int v, .int l, .int z, .int b, .int (nI j)] [] ((SH, nc, ns), I, J, F) (some (.int (gN (bhM q) j m b))) ((SH, nc, ns), I, J, F)
  | 0, j, b, hj, hb => by
    have hD := hW.c
    have hH := hW.h
    have hT := hW.t
    have bt := hT.2
    obtain ⟨b0, b1, b2, b3, b4, b5, b6⟩ := hD.2
    refine e_iload (p := 40) dX12_bestHand_38 rfl rfl ?_
    refine e_aload_n (p := 41) dX12_bestHand_40 rfl rfl ?_
    refine e_getR (c := 11) (j := 15) (n := 37) (b := 98) (p := 44) dX12_bestHand_41 rfl rfl (by decide) (by decide) rfl (r_95_15 hF) rfl ?_
    refine e_bipush (v := 7) (p := 46) dX12_bestHand_44 (by decide) rfl ?_
    refine f_iald (n := 276) (i := 7) (v := nI (dN D 5)) (p := 47) dX12_bestHand_46 rfl (by decide) (by decide) (by decide) (mNn (i := 5) hM hD (by decide)) rfl ?_
    refine e_icmp_ge (t := 86) (p := 50) dX12_bestHand_47 (by decide) rfl rfl (fun hc47 => ?_) (fun hc47 => absurd (nle (by omega) (by omega)) hc47)
    refine e_iload (p := 88) dX12_bestHand_86 rfl rfl ?_
    exact e_iretE dX12_bestHand_88 rfl rfl (by decide) ⟨rfl, rfl⟩
  | m + 1, j, b, hj, hb => by
    have hD := hW.c
    have hH := hW.h
    have hT := hW.t
    have bt := hT.2
    obtain ⟨b0, b1, b2, b3, b4, b5, b6⟩ := hD.2
    rcases hb with rfl | ⟨x, hx, rfl⟩
    · skip
      refine e_iload (p := 40) dX12_bestHand_38 rfl rfl ?_
      refine e_aload_n (p := 41) dX12_bestHand_40 rfl rfl ?_
      refine e_getR (c := 11) (j := 15) (n := 37) (b := 98) (p := 44) dX12_bestHand_41 rfl rfl (by decide) (by decide) rfl (r_95_15 hF) rfl ?_
      refine e_bipush (v := 7) (p := 46) dX12_bestHand_44 (by decide) rfl ?_
      refine f_iald (n := 276) (i := 7) (v := nI (dN D 5)) (p := 47) dX12_bestHand_46 rfl (by decide) (by decide) (by decide) (mNn (i := 5) hM hD (by decide)) rfl ?_
      refine e_icmp_ge (t := 86) (p := 50) dX12_bestHand_47 (by decide) rfl rfl (fun hc47 => absurd hc47 (nge (by omega) (by omega))) (fun hc47 => ?_)
      refine e_aload_n (p := 51) dX12_bestHand_50 rfl rfl ?_
      refine e_getR (c := 11) (j := 30) (n := 37) (b := 107) (p := 54) dX12_bestHand_51 rfl rfl (by decide) (by decide) rfl (r_95_30 hF) rfl ?_
      refine e_iload (p := 56) dX12_bestHand_54 rfl rfl ?_
      refine f_iald (n := 5) (i := j) (v := q j) (p := 57) dX12_bestHand_56 rfl (by decide) (in_nJ (by omega) (by decide)) (nI_cl (by omega)) (hg j (by omega)) rfl ?_
      refine e_iload (p := 59) dX12_bestHand_57 rfl rfl ?_
      refine e_if_ge (t := 66) (p := 62) dX12_bestHand_59 (by decide) rfl rfl (fun hc59 => absurd hc59 (by decide)) (fun hc59 => ?_)
      refine e_iconst (v := 0) (p := 63) dX12_bestHand_62 (by decide) rfl ?_
      refine e_goto (p := 73) dX12_bestHand_63 (by decide) rfl ?_
      refine e_icmp_le (t := 80) (p := 76) dX12_bestHand_73 (by decide) rfl rfl (fun hc73 => ?_) (fun hc73 => ?_)
      · skip
        refine e_iinc (ls1 := [.ref 95, .int v, .int l, .int z, .int (-2), .int ((nI j) + 1)]) (p := 83) dX12_bestHand_80 rfl rfl rfl ?_
        refine e_goto (p := 38) dX12_bestHand_83 (by decide) rfl ?_
        rw [nI_1]
        exact Ev.res (by simp only [gN_s, bhM, hc73, (show (-2 : Int32) < 0 by decide), ↓reduceIte]) (y_bestHand_L hF hM hW hg m (j + 1) (-2) (by omega) (Or.inl rfl))
      · skip
        refine e_iload (p := 78) dX12_bestHand_76 rfl rfl ?_
        refine e_istore (ls1 := [.ref 95, .int v, .int l, .int z, .int (nI j), .int (nI j)]) (p := 80) dX12_bestHand_78 rfl rfl ?_
        refine e_iinc (ls1 := [.ref 95, .int v, .int l, .int z, .int (nI j), .int ((nI j) + 1)]) (p := 83) dX12_bestHand_80 rfl rfl rfl ?_
        refine e_goto (p := 38) dX12_bestHand_83 (by decide) rfl ?_
        rw [nI_1]
        exact Ev.res (by simp only [gN_s, bhM, hc73, (show (-2 : Int32) < 0 by decide), ↓reduceIte]) (y_bestHand_L hF hM hW hg m (j + 1) (nI j) (by omega) (Or.inr ⟨j, by omega, rfl⟩))
    · skip
      refine e_iload (p := 40) dX12_bestHand_38 rfl rfl ?_
      refine e_aload_n (p := 41) dX12_bestHand_40 rfl rfl ?_
      refine e_getR (c := 11) (j := 15) (n := 37) (b := 98) (p := 44) dX12_bestHand_41 rfl rfl (by decide) (by decide) rfl (r_95_15 hF) rfl ?_
      refine e_bipush (v := 7) (p := 46) dX12_bestHand_44 (by decide) rfl ?_
      refine f_iald (n := 276) (i := 7) (v := nI (dN D 5)) (p := 47) dX12_bestHand_46 rfl (by decide) (by decide) (by decide) (mNn (i := 5) hM hD (by decide)) rfl ?_
      refine e_icmp_ge (t := 86) (p := 50) dX12_bestHand_47 (by decide) rfl rfl (fun hc47 => absurd hc47 (nge (by omega) (by omega))) (fun hc47 => ?_)
      refine e_aload_n (p := 51) dX12_bestHand_50 rfl rfl ?_
      refine e_getR (c := 11) (j := 30) (n := 37) (b := 107) (p := 54) dX12_bestHand_51 rfl rfl (by decide) (by decide) rfl (r_95_30 hF) rfl ?_
      refine e_iload (p := 56) dX12_bestHand_54 rfl rfl ?_
      refine f_iald (n := 5) (i := j) (v := q j) (p := 57) dX12_bestHand_56 rfl (by decide) (in_nJ (by omega) (by decide)) (nI_cl (by omega)) (hg j (by omega)) rfl ?_
      refine e_iload (p := 59) dX12_bestHand_57 rfl rfl ?_
      refine e_if_ge (t := 66) (p := 62) dX12_bestHand_59 (by decide) rfl rfl (fun hc59 => ?_) (fun hc59 => absurd (nI_pos' (by omega)) hc59)
      refine e_aload_n (p := 67) dX12_bestHand_66 rfl rfl ?_
      refine e_getR (c := 11) (j := 30) (n := 37) (b := 107) (p := 70) dX12_bestHand_67 rfl rfl (by decide) (by decide) rfl (r_95_30 hF) rfl ?_
      refine e_iload (p := 72) dX12_bestHand_70 rfl rfl ?_
      refine f_iald (n := 5) (i := x) (v := q x) (p := 73) dX12_bestHand_72 rfl (by decide) (in_nJ (by omega) (by decide)) (nI_cl (by omega)) (hg x (by omega)) rfl ?_
      refine e_icmp_le (t := 80) (p := 76) dX12_bestHand_73 (by decide) rfl rfl (fun hc73 => ?_) (fun hc73 => ?_)
      · skip
        refine e_iinc (ls1 := [.ref 95, .int v, .int l, .int z, .int (nI x), .int ((nI j) + 1)]) (p := 83) dX12_bestHand_80 rfl rfl rfl ?_
        refine e_goto (p := 38) dX12_bestHand_83 (by decide) rfl ?_
        rw [nI_1]
        exact Ev.res (by simp only [gN_s, bhM, hc73, (nI_pos (show x < 2 ^ 31 by omega)), (nI_cl (show x < 1000 by omega)), ↓reduceIte]) (y_bestHand_L hF hM hW hg m (j + 1) (nI x) (by omega) (Or.inr ⟨x, hx, rfl⟩))
      · skip
        refine e_iload (p := 78) dX12_bestHand_76 rfl rfl ?_
        refine e_istore (ls1 := [.ref 95, .int v, .int l, .int z, .int (nI j), .int (nI j)]) (p := 80) dX12_bestHand_78 rfl rfl ?_
        refine e_iinc (ls1 := [.ref 95, .int v, .int l, .int z, .int (nI j), .int ((nI j) + 1)]) (p := 83) dX12_bestHand_80 rfl rfl rfl ?_
        refine e_goto (p := 38) dX12_bestHand_83 (by decide) rfl ?_
        rw [nI_1]
        exact Ev.res (by simp only [gN_s, bhM, hc73, (nI_pos (show x < 2 ^ 31 by omega)), (nI_cl (show x < 1000 by omega)), ↓reduceIte]) (y_bestHand_L hF hM hW hg m (j + 1) (nI j) (by omega) (Or.inr ⟨j, by omega, rfl⟩))
set_option maxRecDepth 10000 in
theorem q_bestHand_no {I : Nat → Nat → Int32} {J : Nat → Nat → Int64} {F : Nat → Nat → Option Nat} {nc ns : Nat} {D : oD} (hF : RFok F) (hM : oM I 98 D) (hW : WF D) (hO : I 95 14 = tol D) {v l : Int32} (ht : ¬ (pwS (tol D) v l) = 0) : Ev 3 mX12_bestHand 0 [.ref 95, .int v, .int l, .null, .null, .null] [] ((SH, nc, ns), I, J, F) (some (.int (-1))) ((SH, nc, ns), hp_u (hp_u I 95 0 0) 95 11 (pwS (tol D) v l), J, F) := by
  have hD := hW.c
  have hH := hW.h
  have hT := hW.t
  have bt := hT.2
  obtain ⟨b0, b1, b2, b3, b4, b5, b6⟩ := hD.2
  refine e_aload_n (p := 1) dX12_bestHand_0 rfl rfl ?_
  refine e_callV_v (p := 4) (k' := 0) (a := [.ref 95]) (rr := []) dX12_bestHand_1 rfl rfl rfl rfl (rc_of rfl rfl (by decide) ⟨rfl, by decide⟩) (Nat.le_of_ble_eq_true rfl) (Nat.le_of_ble_eq_true rfl) (by decide) y_good (Or.inl rfl) rfl ?_
  refine e_aload_n (p := 5) dX12_bestHand_4 rfl rfl ?_
  refine e_aload_n (p := 6) dX12_bestHand_5 rfl rfl ?_
  refine f_getI (c := 11) (j := 14) (n := 37) (v := tol D) (p := 9) dX12_bestHand_6 rfl rfl (by decide) (by decide) (Or.inr rfl) (I_u (I_u hO (by decide)) (by decide)) rfl ?_
  refine e_iload_n (p := 10) dX12_bestHand_9 rfl rfl ?_
  refine e_iload_n (p := 11) dX12_bestHand_10 rfl rfl ?_
  refine e_callV_int (p := 14) (k' := 2) (a := [.ref 95, .int (tol D), .int v, .int l]) (rr := []) dX12_bestHand_11 rfl rfl rfl rfl (rc_of rfl rfl (by decide) ⟨rfl, by decide⟩) (Nat.le_of_ble_eq_true rfl) (Nat.le_of_ble_eq_true rfl) (by decide) (y_partWhy  ) (Or.inl rfl) rfl ?_
  refine e_istore_n (ls1 := [.ref 95, .int v, .int l, .int (pwS (tol D) v l), .null, .null]) (p := 15) dX12_bestHand_14 rfl rfl ?_
  refine e_iload_n (p := 16) dX12_bestHand_15 rfl rfl ?_
  refine e_if_eq (t := 25) (p := 19) dX12_bestHand_16 (by decide) rfl rfl (fun hc16 => absurd hc16 ht) (fun hc16 => ?_)
  refine e_aload_n (p := 20) dX12_bestHand_19 rfl rfl ?_
  refine e_iload_n (p := 21) dX12_bestHand_20 rfl rfl ?_
  refine e_callV_int (p := 24) (k' := 0) (a := [.ref 95, .int (pwS (tol D) v l)]) (rr := []) dX12_bestHand_21 rfl rfl rfl rfl (rc_of rfl rfl (by decide) ⟨rfl, by decide⟩) (Nat.le_of_ble_eq_true rfl) (Nat.le_of_ble_eq_true rfl) (by decide) y_no (Or.inl rfl) rfl ?_
  exact e_iretE dX12_bestHand_24 rfl rfl (by decide) ⟨rfl, hpq rfl⟩
set_option maxRecDepth 10000 in
theorem q_bestHand_ok {I : Nat → Nat → Int32} {J : Nat → Nat → Int64} {F : Nat → Nat → Option Nat} {nc ns : Nat} {D : oD} (hF : RFok F) (hM : oM I 98 D) (hW : WF D) (hO : I 95 14 = tol D) (ht1 : tol D = 1) {v : Nat} (hv : v ≤ 999) {l : Nat} (hl : l ≤ 30) : Ew 3 mX12_bestHand 0 [.ref 95, .int (nI v), .int (nI l), .null, .null, .null] [] ((SH, nc, ns), I, J, F) (Ret nc ns (some (.int (bhS (partS D v (nI l * D 0 0)) (dN D 5)))) (fun I' J' F' => Fr 107 108 (hp_u (hp_u I 95 0 0) 95 11 0) I' ∧ J' = J ∧ F' = F)) := by
  have hD := hW.c
  have hH := hW.h
  have hT := hW.t
  have bt := hT.2
  obtain ⟨b0, b1, b2, b3, b4, b5, b6⟩ := hD.2
  refine we_aload_n (p := 1) dX12_bestHand_0 rfl rfl ?_
  refine we_callV_v (p := 4) (k' := 0) (a := [.ref 95]) (rr := []) dX12_bestHand_1 rfl rfl rfl rfl (rc_of rfl rfl (by decide) ⟨rfl, by decide⟩) (Nat.le_of_ble_eq_true rfl) (Nat.le_of_ble_eq_true rfl) (by decide) y_good (Or.inl rfl) rfl ?_
  refine we_aload_n (p := 5) dX12_bestHand_4 rfl rfl ?_
  refine we_aload_n (p := 6) dX12_bestHand_5 rfl rfl ?_
  refine wf_getI (c := 11) (j := 14) (n := 37) (v := 1) (p := 9) dX12_bestHand_6 rfl rfl (by decide) (by decide) (Or.inr rfl) ((I_u (I_u hO (by decide)) (by decide)).trans ht1) rfl ?_
  refine we_iload_n (p := 10) dX12_bestHand_9 rfl rfl ?_
  refine we_iload_n (p := 11) dX12_bestHand_10 rfl rfl ?_
  refine we_callV_int (p := 14) (k' := 2) (a := [.ref 95, .int 1, .int (nI v), .int (nI l)]) (rr := []) dX12_bestHand_11 rfl rfl rfl rfl (rc_of rfl rfl (by decide) ⟨rfl, by decide⟩) (Nat.le_of_ble_eq_true rfl) (Nat.le_of_ble_eq_true rfl) (by decide) (Ev.i (pw_ok (by omega) (by omega)) (y_partWhy  )) (Or.inl rfl) rfl ?_
  refine we_istore_n (ls1 := [.ref 95, .int (nI v), .int (nI l), .int 0, .null, .null]) (p := 15) dX12_bestHand_14 rfl rfl ?_
  refine we_iload_n (p := 16) dX12_bestHand_15 rfl rfl ?_
  refine we_if_eq (t := 25) (p := 19) dX12_bestHand_16 (by decide) rfl rfl (fun hc16 => ?_) (fun hc16 => absurd (by decide) hc16)
  refine we_aload_n (p := 26) dX12_bestHand_25 rfl rfl ?_
  refine we_iload_n (p := 27) dX12_bestHand_26 rfl rfl ?_
  refine we_iload_n (p := 28) dX12_bestHand_27 rfl rfl ?_
  obtain ⟨_, _, e1, rfl, I1, J1, F1, rfl, ⟨f1, rfl, rfl, p1⟩⟩ := y_layParts (I0 := (hp_u (hp_u I 95 0 0) 95 11 0)) hF (oM_u (oM_u hM (by decide)) (by decide)) hW (v := v) (l := nI l) hv (yl_R hW hl)
  refine we_callV_v (p := 31) (k' := 1) (a := [.ref 95, .int (nI v), .int (nI l)]) (rr := []) dX12_bestHand_28 rfl rfl rfl rfl (rc_of rfl rfl (by decide) ⟨rfl, by decide⟩) (Nat.le_of_ble_eq_true rfl) (Nat.le_of_ble_eq_true rfl) (by decide) e1 (Or.inl rfl) rfl ?_
  refine we_bipush (v := -2) (p := 33) dX12_bestHand_31 (by decide) rfl ?_
  refine we_istore (ls1 := [.ref 95, .int (nI v), .int (nI l), .int 0, .int (-2), .null]) (p := 35) dX12_bestHand_33 rfl rfl ?_
  refine we_iconst (v := 0) (p := 36) dX12_bestHand_35 (by decide) rfl ?_
  refine we_istore (ls1 := [.ref 95, .int (nI v), .int (nI l), .int 0, .int (-2), .int 0]) (p := 38) dX12_bestHand_36 rfl rfl ?_
  exact (Ev.i (bhM_eq (by omega)) (y_bestHand_L hF (oM_fr (oM_u (oM_u hM (by decide)) (by decide)) (f1 98 (by omega))) hW p1 (dN D 5) 0 _ (by omega) (Or.inl rfl))).w ⟨rfl, _, _, _, rfl, f1, rfl, rfl⟩
