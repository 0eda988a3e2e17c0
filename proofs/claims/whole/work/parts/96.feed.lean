/-! The tape is fed. -/
def sB (b : Nat) : Int32 := (nI b).toInt8.toInt32
def cB (a : Int32) (k : Int32) : Int32 := ((a.toUInt32 >>> (k.toUInt32 &&& Int32.toUInt32 31)).toInt32).toInt8.toInt32
def mB (a : Int32) (j : Nat) : Int32 := (a >>> ((24 - 8 * (nI j - nI j / 4 * 4)) &&& 31)) &&& 255
def sel5 (a b c d e : Int32) (j : Nat) : Int32 := if j < 4 then a else if j < 8 then b else if j < 12 then c else if j < 16 then d else e
theorem i8_ext {x y : Int32} (h : ∀ j, j < 8 → tb x j = tb y j) : x.toInt8 = y.toInt8 := by
  apply Int8.toBitVec_inj.mp
  apply BitVec.eq_of_getLsbD_eq
  intro j hj
  show (x.toBitVec.signExtend 8).getLsbD j = (y.toBitVec.signExtend 8).getLsbD j
  have h2 := h j hj
  unfold tb at h2
  rw [BitVec.getLsbD_signExtend, BitVec.getLsbD_signExtend, h2]
  simp [hj, show j < 32 by omega]
theorem tb_ushr {a : Int32} {k : Nat} {y : Int32} (hy : (y.toUInt32 &&& Int32.toUInt32 31) = UInt32.ofNat k) (hk : k < 32) {j : Nat} (hj : k + j < 32) : tb ((a.toUInt32 >>> (y.toUInt32 &&& Int32.toUInt32 31)).toInt32) j = tb a (k + j) := by
  rw [hy]
  unfold tb
  show ((a.toUInt32 >>> UInt32.ofNat k).toBitVec).getLsbD j = _
  rw [UInt32.toBitVec_shiftRight]
  have e : ((UInt32.ofNat k).toBitVec % 32#32) = BitVec.ofNat 32 k := by
    show (BitVec.ofNat 32 k) % 32#32 = BitVec.ofNat 32 k
    apply BitVec.eq_of_toNat_eq
    rw [BitVec.toNat_umod, BitVec.toNat_ofNat, BitVec.toNat_ofNat, Nat.mod_eq_of_lt (show k < 2 ^ 32 by omega)]
    exact Nat.mod_eq_of_lt hk
  show (a.toBitVec >>> ((UInt32.ofNat k).toBitVec % 32#32)).getLsbD j = _
  rw [e, BitVec.ushiftRight_eq', BitVec.getLsbD_ushiftRight, BitVec.toNat_ofNat, Nat.mod_eq_of_lt (show k < 2 ^ 32 by omega)]
theorem tb_255 : ∀ j, j < 32 → tb 255 j = decide (j < 8) := by decide +kernel
theorem mB_of {a : Int32} {j : Nat} (hj : j < 20) : ∃ b, b < 256 ∧ mB a j = nI b ∧ cB a (nI (24 - 8 * (j % 4))) = sB b := by
  have e : (24 - 8 * (nI j - nI j / 4 * 4) : Int32) = nI (24 - 8 * (j % 4)) := by
    have : ∀ j, j < 20 → (24 - 8 * (nI j - nI j / 4 * 4) : Int32) = nI (24 - 8 * (j % 4)) := by decide +kernel
    exact this j hj
  have hk : 24 - 8 * (j % 4) < 25 := by omega
  generalize hK : 24 - 8 * (j % 4) = k at *
  have hm : ∀ i, i < 32 → tb (mB a j) i = (tb (a >>> (nI k &&& 31)) i && decide (i < 8)) := by
    intro i hi
    unfold mB
    rw [e, tb_and, tb_255 i hi]
  obtain ⟨b, hb, eb⟩ := lt_of_tb (x := mB a j) (n := 8) (by omega) (fun i h1 h2 => by rw [hm i h2, decide_eq_false (by omega), Bool.and_false])
  refine ⟨b, hb, eb, ?_⟩
  unfold sB
  rw [← eb]
  unfold cB
  congr 1
  apply i8_ext
  intro i hi
  have hy : ∀ k, k < 25 → ((nI k).toUInt32 &&& Int32.toUInt32 31) = UInt32.ofNat k := by decide +kernel
  rw [tb_ushr (hy k hk) (by omega) (by omega), hm i (by omega), tb_shr (by omega) (by omega), decide_eq_true (by omega), Bool.and_true]
/-- the tape holds L bytes, on both sides the same -/
def tapR (I : Nat → Nat → Int32) (L : Nat) (T : Nat → Nat) : Prop := L ≤ 900 ∧ I 1 1 = nI L ∧ I 95 2 = nI L ∧ ∀ i, i < L → T i < 256 ∧ I 2 i = sB (T i) ∧ I 96 i = nI (T i)
set_option maxRecDepth 10000 in
theorem x_hasRoom {I : Nat → Nat → Int32} {J : Nat → Nat → Int64} {F : Nat → Nat → Option Nat} {nc ns : Nat} {l m : Int32} (hl : I 1 1 = l)  : Ev 0 mX9_hasRoom 0 [.ref 1, .int m] [] ((SH, nc, ns), I, J, F) (some (.int (if 900 < l + m then 0 else 1))) ((SH, nc, ns), I, J, F) := by
  refine e_aload_n (p := 1) dX9_hasRoom_0 rfl rfl ?_
  refine f_getI (c := 9) (j := 1) (n := 2) (v := l) (p := 4) dX9_hasRoom_1 rfl rfl (by decide) (by decide) (Or.inl rfl) hl rfl ?_
  refine e_iload_n (p := 5) dX9_hasRoom_4 rfl rfl ?_
  refine e_iadd (p := 6) dX9_hasRoom_5 rfl ?_
  refine e_sipush (v := 900) (p := 9) dX9_hasRoom_6 (by decide) rfl ?_
  refine e_icmp_gt (t := 16) (p := 12) dX9_hasRoom_9 (by decide) rfl rfl (fun hc9 => ?_) (fun hc9 => ?_)
  · skip
    refine e_iconst (v := 0) (p := 17) dX9_hasRoom_16 (by decide) rfl ?_
    exact e_iretE dX9_hasRoom_17 rfl (by decide) (by decide) ⟨by simp only [hc9, (Int32.not_le.mpr hc9), ↓reduceIte], rfl⟩
  · skip
    refine e_iconst (v := 1) (p := 13) dX9_hasRoom_12 (by decide) rfl ?_
    refine e_goto (p := 17) dX9_hasRoom_13 (by decide) rfl ?_
    exact e_iretE dX9_hasRoom_17 rfl (by decide) (by decide) ⟨by simp only [hc9, (Int32.not_lt.mp hc9), ↓reduceIte], rfl⟩
set_option maxRecDepth 10000 in
theorem x_addFour {I : Nat → Nat → Int32} {J : Nat → Nat → Int64} {F : Nat → Nat → Option Nat} {nc ns : Nat} {L : Nat} {a : Int32} (hF : RFok F) (hL : L + 4 ≤ 900) (hl : I 1 1 = nI L) : Ew 1 mX9_addFour 0 [.ref 1, .int a, .null] [] ((SH, nc, ns), I, J, F) (Ret nc ns none (fun I' J' F' => J' = J ∧ F' = F ∧ Fr 1 3 I I' ∧ I' 1 1 = nI (L + 4) ∧ (∀ i, i < L → I' 2 i = I 2 i) ∧ ∀ i, i < 4 → I' 2 (L + i) = cB a (nI (24 - 8 * (i % 4))))) := by
  refine we_aload_n (p := 1) dX9_addFour_0 rfl rfl ?_
  refine we_iconst (v := 4) (p := 2) dX9_addFour_1 (by decide) rfl ?_
  refine we_callV_int (p := 5) (k' := 0) (a := [.ref 1, .int 4]) (rr := []) dX9_addFour_2 rfl rfl rfl rfl (rc_of rfl rfl (by decide) ⟨rfl, by decide⟩) (Nat.le_of_ble_eq_true rfl) (Nat.le_of_ble_eq_true rfl) (by decide) (Ev.i (if_neg (by rw [show (4 : Int32) = nI 4 from rfl, nI_add]; exact nI_nlt (a := 900) (b := L + 4) (by omega) (by omega))) (x_hasRoom hl)) (Or.inl rfl) rfl ?_
  refine we_if_ne (t := 9) (p := 8) dX9_addFour_5 (by decide) rfl rfl (fun hc5 => ?_) (fun hc5 => absurd hc5 (by decide))
  refine we_bipush (v := 24) (p := 11) dX9_addFour_9 (by decide) rfl ?_
  refine we_istore_n (ls1 := [.ref 1, .int a, .int 24]) (p := 12) dX9_addFour_11 rfl rfl ?_
  refine we_iload_n (p := 13) dX9_addFour_12 rfl rfl ?_
  refine we_if_lt (t := 45) (p := 16) dX9_addFour_13 (by decide) rfl rfl (fun hc13 => absurd hc13 (by decide)) (fun hc13 => ?_)
  refine we_aload_n (p := 17) dX9_addFour_16 rfl rfl ?_
  refine we_getR (c := 9) (j := 0) (n := 2) (b := 2) (p := 20) dX9_addFour_17 rfl rfl (by decide) (by decide) rfl (r_1_0 hF) rfl ?_
  refine we_aload_n (p := 21) dX9_addFour_20 rfl rfl ?_
  refine wf_getI (c := 9) (j := 1) (n := 2) (v := nI L) (p := 24) dX9_addFour_21 rfl rfl (by decide) (by decide) (Or.inl rfl) hl rfl ?_
  refine we_iload_n (p := 25) dX9_addFour_24 rfl rfl ?_
  refine we_iload_n (p := 26) dX9_addFour_25 rfl rfl ?_
  refine we_iushr (p := 27) dX9_addFour_26 rfl ?_
  refine we_i2b (p := 28) dX9_addFour_27 rfl ?_
  refine wf_bast (n := 900) (i := L) (p := 29) dX9_addFour_28 rfl (by decide) (in_nJ (by omega) (by decide)) (nI_cl (by omega)) rfl ?_
  refine we_aload_n (p := 30) dX9_addFour_29 rfl rfl ?_
  refine we_dup_ref (p := 31) dX9_addFour_30 rfl ?_
  refine wf_getI (c := 9) (j := 1) (n := 2) (v := nI L) (p := 34) dX9_addFour_31 rfl rfl (by decide) (by decide) (Or.inl rfl) (I_u hl (by omega)) rfl ?_
  refine we_iconst (v := 1) (p := 35) dX9_addFour_34 (by decide) rfl ?_
  refine we_iadd (p := 36) dX9_addFour_35 rfl ?_
  refine we_putI (c := 9) (j := 1) (n := 2)  (p := 39) dX9_addFour_36 rfl rfl (by decide) (by decide) rfl rfl rfl ?_
  refine we_iinc (ls1 := [.ref 1, .int a, .int (24 + (-8))]) (p := 42) dX9_addFour_39 rfl rfl rfl ?_
  refine we_goto (p := 12) dX9_addFour_42 (by decide) rfl ?_
  rw [show ((24 : Int32) + (-8)) = 16 by decide]
  refine we_iload_n (p := 13) dX9_addFour_12 rfl rfl ?_
  refine we_if_lt (t := 45) (p := 16) dX9_addFour_13 (by decide) rfl rfl (fun hc13 => absurd hc13 (by decide)) (fun hc13 => ?_)
  refine we_aload_n (p := 17) dX9_addFour_16 rfl rfl ?_
  refine we_getR (c := 9) (j := 0) (n := 2) (b := 2) (p := 20) dX9_addFour_17 rfl rfl (by decide) (by decide) rfl (r_1_0 hF) rfl ?_
  refine we_aload_n (p := 21) dX9_addFour_20 rfl rfl ?_
  refine wf_getI (c := 9) (j := 1) (n := 2) (v := nI (L + 1)) (p := 24) dX9_addFour_21 rfl rfl (by decide) (by decide) (Or.inl rfl) (hu_eq.trans (nI_1 L)) rfl ?_
  refine we_iload_n (p := 25) dX9_addFour_24 rfl rfl ?_
  refine we_iload_n (p := 26) dX9_addFour_25 rfl rfl ?_
  refine we_iushr (p := 27) dX9_addFour_26 rfl ?_
  refine we_i2b (p := 28) dX9_addFour_27 rfl ?_
  refine wf_bast (n := 900) (i := (L + 1)) (p := 29) dX9_addFour_28 rfl (by decide) (in_nJ (by omega) (by decide)) (nI_cl (by omega)) rfl ?_
  refine we_aload_n (p := 30) dX9_addFour_29 rfl rfl ?_
  refine we_dup_ref (p := 31) dX9_addFour_30 rfl ?_
  refine wf_getI (c := 9) (j := 1) (n := 2) (v := nI (L + 1)) (p := 34) dX9_addFour_31 rfl rfl (by decide) (by decide) (Or.inl rfl) (I_u (hu_eq.trans (nI_1 L)) (by omega)) rfl ?_
  refine we_iconst (v := 1) (p := 35) dX9_addFour_34 (by decide) rfl ?_
  refine we_iadd (p := 36) dX9_addFour_35 rfl ?_
  refine we_putI (c := 9) (j := 1) (n := 2)  (p := 39) dX9_addFour_36 rfl rfl (by decide) (by decide) rfl rfl rfl ?_
  refine we_iinc (ls1 := [.ref 1, .int a, .int (16 + (-8))]) (p := 42) dX9_addFour_39 rfl rfl rfl ?_
  refine we_goto (p := 12) dX9_addFour_42 (by decide) rfl ?_
  rw [show ((16 : Int32) + (-8)) = 8 by decide]
  refine we_iload_n (p := 13) dX9_addFour_12 rfl rfl ?_
  refine we_if_lt (t := 45) (p := 16) dX9_addFour_13 (by decide) rfl rfl (fun hc13 => absurd hc13 (by decide)) (fun hc13 => ?_)
  refine we_aload_n (p := 17) dX9_addFour_16 rfl rfl ?_
  refine we_getR (c := 9) (j := 0) (n := 2) (b := 2) (p := 20) dX9_addFour_17 rfl rfl (by decide) (by decide) rfl (r_1_0 hF) rfl ?_
  refine we_aload_n (p := 21) dX9_addFour_20 rfl rfl ?_
  refine wf_getI (c := 9) (j := 1) (n := 2) (v := nI (L + 2)) (p := 24) dX9_addFour_21 rfl rfl (by decide) (by decide) (Or.inl rfl) (hu_eq.trans (nI_1 (L + 1))) rfl ?_
  refine we_iload_n (p := 25) dX9_addFour_24 rfl rfl ?_
  refine we_iload_n (p := 26) dX9_addFour_25 rfl rfl ?_
  refine we_iushr (p := 27) dX9_addFour_26 rfl ?_
  refine we_i2b (p := 28) dX9_addFour_27 rfl ?_
  refine wf_bast (n := 900) (i := (L + 2)) (p := 29) dX9_addFour_28 rfl (by decide) (in_nJ (by omega) (by decide)) (nI_cl (by omega)) rfl ?_
  refine we_aload_n (p := 30) dX9_addFour_29 rfl rfl ?_
  refine we_dup_ref (p := 31) dX9_addFour_30 rfl ?_
  refine wf_getI (c := 9) (j := 1) (n := 2) (v := nI (L + 2)) (p := 34) dX9_addFour_31 rfl rfl (by decide) (by decide) (Or.inl rfl) (I_u (hu_eq.trans (nI_1 (L + 1))) (by omega)) rfl ?_
  refine we_iconst (v := 1) (p := 35) dX9_addFour_34 (by decide) rfl ?_
  refine we_iadd (p := 36) dX9_addFour_35 rfl ?_
  refine we_putI (c := 9) (j := 1) (n := 2)  (p := 39) dX9_addFour_36 rfl rfl (by decide) (by decide) rfl rfl rfl ?_
  refine we_iinc (ls1 := [.ref 1, .int a, .int (8 + (-8))]) (p := 42) dX9_addFour_39 rfl rfl rfl ?_
  refine we_goto (p := 12) dX9_addFour_42 (by decide) rfl ?_
  rw [show ((8 : Int32) + (-8)) = 0 by decide]
  refine we_iload_n (p := 13) dX9_addFour_12 rfl rfl ?_
  refine we_if_lt (t := 45) (p := 16) dX9_addFour_13 (by decide) rfl rfl (fun hc13 => absurd hc13 (by decide)) (fun hc13 => ?_)
  refine we_aload_n (p := 17) dX9_addFour_16 rfl rfl ?_
  refine we_getR (c := 9) (j := 0) (n := 2) (b := 2) (p := 20) dX9_addFour_17 rfl rfl (by decide) (by decide) rfl (r_1_0 hF) rfl ?_
  refine we_aload_n (p := 21) dX9_addFour_20 rfl rfl ?_
  refine wf_getI (c := 9) (j := 1) (n := 2) (v := nI (L + 3)) (p := 24) dX9_addFour_21 rfl rfl (by decide) (by decide) (Or.inl rfl) (hu_eq.trans (nI_1 (L + 2))) rfl ?_
  refine we_iload_n (p := 25) dX9_addFour_24 rfl rfl ?_
  refine we_iload_n (p := 26) dX9_addFour_25 rfl rfl ?_
  refine we_iushr (p := 27) dX9_addFour_26 rfl ?_
  refine we_i2b (p := 28) dX9_addFour_27 rfl ?_
  refine wf_bast (n := 900) (i := (L + 3)) (p := 29) dX9_addFour_28 rfl (by decide) (in_nJ (by omega) (by decide)) (nI_cl (by omega)) rfl ?_
  refine we_aload_n (p := 30) dX9_addFour_29 rfl rfl ?_
  refine we_dup_ref (p := 31) dX9_addFour_30 rfl ?_
  refine wf_getI (c := 9) (j := 1) (n := 2) (v := nI (L + 3)) (p := 34) dX9_addFour_31 rfl rfl (by decide) (by decide) (Or.inl rfl) (I_u (hu_eq.trans (nI_1 (L + 2))) (by omega)) rfl ?_
  refine we_iconst (v := 1) (p := 35) dX9_addFour_34 (by decide) rfl ?_
  refine we_iadd (p := 36) dX9_addFour_35 rfl ?_
  refine we_putI (c := 9) (j := 1) (n := 2)  (p := 39) dX9_addFour_36 rfl rfl (by decide) (by decide) rfl rfl rfl ?_
  refine we_iinc (ls1 := [.ref 1, .int a, .int (0 + (-8))]) (p := 42) dX9_addFour_39 rfl rfl rfl ?_
  refine we_goto (p := 12) dX9_addFour_42 (by decide) rfl ?_
  rw [show ((0 : Int32) + (-8)) = (-8) by decide]
  refine we_iload_n (p := 13) dX9_addFour_12 rfl rfl ?_
  refine we_if_lt (t := 45) (p := 16) dX9_addFour_13 (by decide) rfl rfl (fun hc13 => ?_) (fun hc13 => absurd (by decide) hc13)
  exact wv_ret dX9_addFour_45 rfl (⟨rfl, _, _, _, rfl, rfl, rfl, fun k hk => by simp only [hu_ne (show k ≠ 1 by omega), hu_ne (show k ≠ 2 by omega)], by rw [hu_eq, nI_1], fun i hi => by simp [hp_u, show i ≠ L by omega, show i ≠ L + 1 by omega, show i ≠ L + 2 by omega, show i ≠ L + 3 by omega], fun i hi => by
    rcases (by omega : i = 0 ∨ i = 1 ∨ i = 2 ∨ i = 3) with rfl | rfl | rfl | rfl <;> simp [hp_u] <;> rfl⟩)
set_option maxRecDepth 10000 in
theorem c_feed_no {I : Nat → Nat → Int32} {J : Nat → Nat → Int64} {F : Nat → Nat → Option Nat} {nc ns : Nat} {a b c d e : Int32} {L : Nat} (hF : RFok F) (hl : I 1 1 = nI L) (hL : ¬ L + 20 ≤ 900) (hL9 : L ≤ 900)  : Ev 2 mX11_feed 0 [.ref 0, .int a, .int b, .int c, .int d, .int e] [] ((SH, nc, ns), I, J, F) (some (.int (-1))) ((SH, nc, ns), I, J, F) := by
  refine e_aload_n (p := 1) dX11_feed_0 rfl rfl ?_
  refine e_getR (c := 10) (j := 0) (n := 13) (b := 1) (p := 4) dX11_feed_1 rfl rfl (by decide) (by decide) rfl (r_0_0 hF) rfl ?_
  refine e_bipush (v := 20) (p := 6) dX11_feed_4 (by decide) rfl ?_
  refine e_callV_int (p := 9) (k' := 0) (a := [.ref 1, .int 20]) (rr := []) dX11_feed_6 rfl rfl rfl rfl (rc_of rfl rfl (by decide) ⟨rfl, by decide⟩) (Nat.le_of_ble_eq_true rfl) (Nat.le_of_ble_eq_true rfl) (by decide) (Ev.i (if_pos (by rw [show (20 : Int32) = nI 20 from rfl, nI_add]; exact nI_lt (a := 900) (b := L + 20) (by omega) (by omega))) (x_hasRoom hl)) (Or.inl rfl) rfl ?_
  refine e_if_ne (t := 14) (p := 12) dX11_feed_9 (by decide) rfl rfl (fun hc9 => absurd (by decide) hc9) (fun hc9 => ?_)
  refine e_iconst (v := -1) (p := 13) dX11_feed_12 (by decide) rfl ?_
  exact e_iretE dX11_feed_13 rfl rfl (by decide) ⟨rfl, rfl⟩
set_option maxRecDepth 10000 in
theorem c_feed_ok {I : Nat → Nat → Int32} {J : Nat → Nat → Int64} {F : Nat → Nat → Option Nat} {nc ns : Nat} {a b c d e : Int32} {L : Nat} (hF : RFok F) (hl : I 1 1 = nI L) (hL : L + 20 ≤ 900) : Ew 2 mX11_feed 0 [.ref 0, .int a, .int b, .int c, .int d, .int e] [] ((SH, nc, ns), I, J, F) (Ret nc ns (some (.int (nI (L + 20)))) (fun I' J' F' => J' = J ∧ F' = F ∧ Fr 1 3 I I' ∧ I' 1 1 = nI (L + 20) ∧ (∀ i, i < L → I' 2 i = I 2 i) ∧ ∀ i, i < 20 → I' 2 (L + i) = cB (sel5 a b c d e i) (nI (24 - 8 * (i % 4))))) := by
  refine we_aload_n (p := 1) dX11_feed_0 rfl rfl ?_
  refine we_getR (c := 10) (j := 0) (n := 13) (b := 1) (p := 4) dX11_feed_1 rfl rfl (by decide) (by decide) rfl (r_0_0 hF) rfl ?_
  refine we_bipush (v := 20) (p := 6) dX11_feed_4 (by decide) rfl ?_
  refine we_callV_int (p := 9) (k' := 0) (a := [.ref 1, .int 20]) (rr := []) dX11_feed_6 rfl rfl rfl rfl (rc_of rfl rfl (by decide) ⟨rfl, by decide⟩) (Nat.le_of_ble_eq_true rfl) (Nat.le_of_ble_eq_true rfl) (by decide) (Ev.i (if_neg (by rw [show (20 : Int32) = nI 20 from rfl, nI_add]; exact nI_nlt (a := 900) (b := L + 20) (by omega) (by omega))) (x_hasRoom hl)) (Or.inl rfl) rfl ?_
  refine we_if_ne (t := 14) (p := 12) dX11_feed_9 (by decide) rfl rfl (fun hc9 => ?_) (fun hc9 => absurd hc9 (by decide))
  refine we_aload_n (p := 15) dX11_feed_14 rfl rfl ?_
  refine we_getR (c := 10) (j := 0) (n := 13) (b := 1) (p := 18) dX11_feed_15 rfl rfl (by decide) (by decide) rfl (r_0_0 hF) rfl ?_
  refine we_iload_n (p := 19) dX11_feed_18 rfl rfl ?_
  obtain ⟨_, _, e1, rfl, I1, J1, F1, rfl, ⟨rfl, rfl, f1, l1, o1, b1⟩⟩ := x_addFour (L := L) (a := a) hF (by omega) hl
  refine we_callV_v (p := 22) (k' := 1) (a := [.ref 1, .int a]) (rr := []) dX11_feed_19 rfl rfl rfl rfl (rc_of rfl rfl (by decide) ⟨rfl, by decide⟩) (Nat.le_of_ble_eq_true rfl) (Nat.le_of_ble_eq_true rfl) (by decide) e1 (Or.inl rfl) rfl ?_
  refine we_aload_n (p := 23) dX11_feed_22 rfl rfl ?_
  refine we_getR (c := 10) (j := 0) (n := 13) (b := 1) (p := 26) dX11_feed_23 rfl rfl (by decide) (by decide) rfl (r_0_0 hF) rfl ?_
  refine we_iload_n (p := 27) dX11_feed_26 rfl rfl ?_
  obtain ⟨_, _, e2, rfl, I2, J2, F2, rfl, ⟨rfl, rfl, f2, l2, o2, b2⟩⟩ := x_addFour (L := (L + 4)) (a := b) hF (by omega) l1
  refine we_callV_v (p := 30) (k' := 1) (a := [.ref 1, .int b]) (rr := []) dX11_feed_27 rfl rfl rfl rfl (rc_of rfl rfl (by decide) ⟨rfl, by decide⟩) (Nat.le_of_ble_eq_true rfl) (Nat.le_of_ble_eq_true rfl) (by decide) e2 (Or.inl rfl) rfl ?_
  refine we_aload_n (p := 31) dX11_feed_30 rfl rfl ?_
  refine we_getR (c := 10) (j := 0) (n := 13) (b := 1) (p := 34) dX11_feed_31 rfl rfl (by decide) (by decide) rfl (r_0_0 hF) rfl ?_
  refine we_iload_n (p := 35) dX11_feed_34 rfl rfl ?_
  obtain ⟨_, _, e3, rfl, I3, J3, F3, rfl, ⟨rfl, rfl, f3, l3, o3, b3⟩⟩ := x_addFour (L := (L + 8)) (a := c) hF (by omega) l2
  refine we_callV_v (p := 38) (k' := 1) (a := [.ref 1, .int c]) (rr := []) dX11_feed_35 rfl rfl rfl rfl (rc_of rfl rfl (by decide) ⟨rfl, by decide⟩) (Nat.le_of_ble_eq_true rfl) (Nat.le_of_ble_eq_true rfl) (by decide) e3 (Or.inl rfl) rfl ?_
  refine we_aload_n (p := 39) dX11_feed_38 rfl rfl ?_
  refine we_getR (c := 10) (j := 0) (n := 13) (b := 1) (p := 42) dX11_feed_39 rfl rfl (by decide) (by decide) rfl (r_0_0 hF) rfl ?_
  refine we_iload (p := 44) dX11_feed_42 rfl rfl ?_
  obtain ⟨_, _, e4, rfl, I4, J4, F4, rfl, ⟨rfl, rfl, f4, l4, o4, b4⟩⟩ := x_addFour (L := (L + 12)) (a := d) hF (by omega) l3
  refine we_callV_v (p := 47) (k' := 1) (a := [.ref 1, .int d]) (rr := []) dX11_feed_44 rfl rfl rfl rfl (rc_of rfl rfl (by decide) ⟨rfl, by decide⟩) (Nat.le_of_ble_eq_true rfl) (Nat.le_of_ble_eq_true rfl) (by decide) e4 (Or.inl rfl) rfl ?_
  refine we_aload_n (p := 48) dX11_feed_47 rfl rfl ?_
  refine we_getR (c := 10) (j := 0) (n := 13) (b := 1) (p := 51) dX11_feed_48 rfl rfl (by decide) (by decide) rfl (r_0_0 hF) rfl ?_
  refine we_iload (p := 53) dX11_feed_51 rfl rfl ?_
  obtain ⟨_, _, e5, rfl, I5, J5, F5, rfl, ⟨rfl, rfl, f5, l5, o5, b5⟩⟩ := x_addFour (L := (L + 16)) (a := e) hF (by omega) l4
  refine we_callV_v (p := 56) (k' := 1) (a := [.ref 1, .int e]) (rr := []) dX11_feed_53 rfl rfl rfl rfl (rc_of rfl rfl (by decide) ⟨rfl, by decide⟩) (Nat.le_of_ble_eq_true rfl) (Nat.le_of_ble_eq_true rfl) (by decide) e5 (Or.inl rfl) rfl ?_
  refine we_aload_n (p := 57) dX11_feed_56 rfl rfl ?_
  refine we_getR (c := 10) (j := 0) (n := 13) (b := 1) (p := 60) dX11_feed_57 rfl rfl (by decide) (by decide) rfl (r_0_0 hF) rfl ?_
  refine wf_getI (c := 9) (j := 1) (n := 2) (v := nI (L + 20)) (p := 63) dX11_feed_60 rfl rfl (by decide) (by decide) (Or.inl rfl) l5 rfl ?_
  exact wi_ret dX11_feed_63 rfl rfl (by decide) (⟨rfl, _, _, _, rfl, rfl, rfl, (((f1.tr f2).tr f3).tr f4).tr f5, l5, fun i hi => by
    rw [o5 i (by omega), o4 i (by omega), o3 i (by omega), o2 i (by omega), o1 i hi], fun i hi => by
    by_cases c1 : i < 4
    · rw [o5 (L + i) (by omega), o4 (L + i) (by omega), o3 (L + i) (by omega), o2 (L + i) (by omega), b1 i c1]
      unfold sel5
      rw [if_pos c1]
    · by_cases c2 : i < 8
      · obtain ⟨q, rfl⟩ : ∃ q, i = 4 + q := ⟨i - 4, by omega⟩
        rw [show L + (4 + q) = L + 4 + q by omega, o5 _ (by omega), o4 _ (by omega), o3 _ (by omega), b2 q (by omega)]
        unfold sel5
        rw [if_neg c1, if_pos c2, show (4 + q) % 4 = q % 4 by omega]
      · by_cases c3 : i < 12
        · obtain ⟨q, rfl⟩ : ∃ q, i = 8 + q := ⟨i - 8, by omega⟩
          rw [show L + (8 + q) = L + 8 + q by omega, o5 _ (by omega), o4 _ (by omega), b3 q (by omega)]
          unfold sel5
          rw [if_neg c1, if_neg c2, if_pos c3, show (8 + q) % 4 = q % 4 by omega]
        · by_cases c4 : i < 16
          · obtain ⟨q, rfl⟩ : ∃ q, i = 12 + q := ⟨i - 12, by omega⟩
            rw [show L + (12 + q) = L + 12 + q by omega, o5 _ (by omega), b4 q (by omega)]
            unfold sel5
            rw [if_neg c1, if_neg c2, if_neg c3, if_pos c4, show (12 + q) % 4 = q % 4 by omega]
          · obtain ⟨q, rfl⟩ : ∃ q, i = 16 + q := ⟨i - 16, by omega⟩
            rw [show L + (16 + q) = L + 16 + q by omega, b5 q (by omega)]
            unfold sel5
            rw [if_neg c1, if_neg c2, if_neg c3, if_neg c4, show (16 + q) % 4 = q % 4 by omega]⟩)
theorem nI_nle9 {a : Nat} (h : 900 < a) (ha : a < 2 ^ 31) : ¬ nI a ≤ 900 := Int32.not_le.mpr (nI_lt (a := 900) (b := a) h ha)
theorem nI_le9 {a : Nat} (h : a ≤ 900) : nI a ≤ 900 := Int32.not_lt.mp (nI_nlt (a := 900) (b := a) h (by omega))
set_option maxRecDepth 10000 in
theorem q_feed_no {I : Nat → Nat → Int32} {J : Nat → Nat → Int64} {F : Nat → Nat → Option Nat} {nc ns : Nat} {a b c d e : Int32} {L : Nat} (hF : RFok F) (hl : I 95 2 = nI L) (hL : ¬ L + 20 ≤ 900) (hL9 : L ≤ 900)  : Ev 0 mX12_feed 0 [.ref 95, .int a, .int b, .int c, .int d, .int e, .null, .null] [] ((SH, nc, ns), I, J, F) (some (.int (-1))) ((SH, nc, ns), hp_u I 95 0 0, J, F) := by
  refine e_aload_n (p := 1) dX12_feed_0 rfl rfl ?_
  refine e_iconst (v := 0) (p := 2) dX12_feed_1 (by decide) rfl ?_
  refine e_putI (c := 11) (j := 0) (n := 37)  (p := 5) dX12_feed_2 rfl rfl (by decide) (by decide) rfl rfl rfl ?_
  refine e_aload_n (p := 6) dX12_feed_5 rfl rfl ?_
  refine f_getI (c := 11) (j := 2) (n := 37) (v := nI L) (p := 9) dX12_feed_6 rfl rfl (by decide) (by decide) (Or.inl rfl) ((hu_nj (by decide)).trans hl) rfl ?_
  refine e_bipush (v := 20) (p := 11) dX12_feed_9 (by decide) rfl ?_
  refine e_iadd (p := 12) dX12_feed_11 rfl ?_
  refine e_sipush (v := 900) (p := 15) dX12_feed_12 (by decide) rfl ?_
  refine e_icmp_le (t := 20) (p := 18) dX12_feed_15 (by decide) rfl rfl (fun hc15 => absurd hc15 (by rw [show (20 : Int32) = nI 20 from rfl, nI_add]; exact nI_nle9 (by omega) (by omega))) (fun hc15 => ?_)
  refine e_iconst (v := -1) (p := 19) dX12_feed_18 (by decide) rfl ?_
  exact e_iretE dX12_feed_19 rfl rfl (by decide) ⟨rfl, rfl⟩
set_option maxRecDepth 10000 in
theorem y_feed_L {J : Nat → Nat → Int64} {F : Nat → Nat → Option Nat} {nc ns : Nat} {I0 : Nat → Nat → Int32} {a b c d e : Int32} {L : Nat} (hF : RFok F) (hL : L + 20 ≤ 900)  {Q : Option Value → hp_H → Prop} : ∀ (m j : Nat) (I : Nat → Nat → Int32) (z : Value), j + m = 20 → (Fm 96 97 2 3 I0 I ∧ I 95 2 = nI (L + j) ∧ (∀ i, i < L → I 96 i = I0 96 i) ∧ ∀ i, i < j → I 96 (L + i) = mB (sel5 a b c d e i) i) → (∀ (I : Nat → Nat → Int32) (z : Value), (Fm 96 97 2 3 I0 I ∧ I 95 2 = nI (L + 20) ∧ (∀ i, i < L → I 96 i = I0 96 i) ∧ ∀ i, i < 20 → I 96 (L + i) = mB (sel5 a b c d e i) i) → Ew 0 mX12_feed 120 [.ref 95, .int a, .int b, .int c, .int d, .int e, .int (nI 20), z] [] ((SH, nc, ns), I, J, F) Q) → Ew 0 mX12_feed 23 [.ref 95, .int a, .int b, .int c, .int d, .int e, .int (nI j), z] [] ((SH, nc, ns), I, J, F) Q
  | 0, j, I, z, hj, hI, hq => by
    obtain rfl : j = 20 := by omega
    refine we_iload (p := 25) dX12_feed_23 rfl rfl ?_
    refine we_bipush (v := 20) (p := 27) dX12_feed_25 (by decide) rfl ?_
    refine we_icmp_ge (t := 120) (p := 30) dX12_feed_27 (by decide) rfl rfl (fun hc27 => ?_) (fun hc27 => absurd (nI_le (a := 20) (b := 20) (by omega) (by omega)) hc27)
    exact hq _ _ hI
  | m + 1, j, I, z, hj, hI, hq => by
    refine we_iload (p := 25) dX12_feed_23 rfl rfl ?_
    refine we_bipush (v := 20) (p := 27) dX12_feed_25 (by decide) rfl ?_
    refine we_icmp_ge (t := 120) (p := 30) dX12_feed_27 (by decide) rfl rfl (fun hc27 => absurd hc27 (nI_ge (a := j) (b := 20) (by omega) (by omega))) (fun hc27 => ?_)
    refine we_iload (p := 32) dX12_feed_30 rfl rfl ?_
    refine we_iconst (v := 4) (p := 33) dX12_feed_32 (by decide) rfl ?_
    refine we_icmp_ge (t := 40) (p := 36) dX12_feed_33 (by decide) rfl rfl (fun hc33 => ?_) (fun hc33 => ?_)
    · skip
      refine we_iload (p := 42) dX12_feed_40 rfl rfl ?_
      refine we_bipush (v := 8) (p := 44) dX12_feed_42 (by decide) rfl ?_
      refine we_icmp_ge (t := 51) (p := 47) dX12_feed_44 (by decide) rfl rfl (fun hc44 => ?_) (fun hc44 => ?_)
      · skip
        refine we_iload (p := 53) dX12_feed_51 rfl rfl ?_
        refine we_bipush (v := 12) (p := 55) dX12_feed_53 (by decide) rfl ?_
        refine we_icmp_ge (t := 62) (p := 58) dX12_feed_55 (by decide) rfl rfl (fun hc55 => ?_) (fun hc55 => ?_)
        · skip
          refine we_iload (p := 64) dX12_feed_62 rfl rfl ?_
          refine we_bipush (v := 16) (p := 66) dX12_feed_64 (by decide) rfl ?_
          refine we_icmp_ge (t := 74) (p := 69) dX12_feed_66 (by decide) rfl rfl (fun hc66 => ?_) (fun hc66 => ?_)
          · skip
            refine we_iload (p := 76) dX12_feed_74 rfl rfl ?_
            refine we_istore (ls1 := [.ref 95, .int a, .int b, .int c, .int d, .int e, .int (nI j), .int e]) (p := 78) dX12_feed_76 rfl rfl ?_
            refine we_aload_n (p := 79) dX12_feed_78 rfl rfl ?_
            refine we_getR (c := 11) (j := 1) (n := 37) (b := 96) (p := 82) dX12_feed_79 rfl rfl (by decide) (by decide) rfl (r_95_1 hF) rfl ?_
            refine we_aload_n (p := 83) dX12_feed_82 rfl rfl ?_
            refine wf_getI (c := 11) (j := 2) (n := 37) (v := nI (L + j)) (p := 86) dX12_feed_83 rfl rfl (by decide) (by decide) (Or.inl rfl) hI.2.1 rfl ?_
            refine we_iload (p := 88) dX12_feed_86 rfl rfl ?_
            refine we_bipush (v := 24) (p := 90) dX12_feed_88 (by decide) rfl ?_
            refine we_bipush (v := 8) (p := 92) dX12_feed_90 (by decide) rfl ?_
            refine we_iload (p := 94) dX12_feed_92 rfl rfl ?_
            refine we_iconst (v := 4) (p := 95) dX12_feed_94 (by decide) rfl ?_
            refine we_irem (p := 96) dX12_feed_95 (by decide) rfl ?_
            refine we_imul (p := 97) dX12_feed_96 rfl ?_
            refine we_isub (p := 98) dX12_feed_97 rfl ?_
            refine we_ishr (p := 99) dX12_feed_98 rfl ?_
            refine we_sipush (v := 255) (p := 102) dX12_feed_99 (by decide) rfl ?_
            refine we_iand (p := 103) dX12_feed_102 rfl ?_
            refine wf_iast (n := 900) (i := (L + j)) (p := 104) dX12_feed_103 rfl (by decide) (in_nJ (by omega) (by decide)) (nI_cl (by omega)) rfl ?_
            refine we_aload_n (p := 105) dX12_feed_104 rfl rfl ?_
            refine we_dup_ref (p := 106) dX12_feed_105 rfl ?_
            refine wf_getI (c := 11) (j := 2) (n := 37) (v := nI (L + j)) (p := 109) dX12_feed_106 rfl rfl (by decide) (by decide) (Or.inl rfl) ((congrFun (hu_ne (by decide)) 2).trans hI.2.1) rfl ?_
            refine we_iconst (v := 1) (p := 110) dX12_feed_109 (by decide) rfl ?_
            refine we_iadd (p := 111) dX12_feed_110 rfl ?_
            refine we_putI (c := 11) (j := 2) (n := 37)  (p := 114) dX12_feed_111 rfl rfl (by decide) (by decide) rfl rfl rfl ?_
            refine we_iinc (ls1 := [.ref 95, .int a, .int b, .int c, .int d, .int e, .int ((nI j) + 1), .int e]) (p := 117) dX12_feed_114 rfl rfl rfl ?_
            refine we_goto (p := 23) dX12_feed_117 (by decide) rfl ?_
            rw [nI_1]
            refine y_feed_L hF hL m (j + 1) _ _ (by omega) ?_ hq
            have q4 : ¬ j < 4 := fun z => nI_ge (a := j) (b := 4) z (by omega) hc33
            have q8 : ¬ j < 8 := fun z => nI_ge (a := j) (b := 8) z (by omega) hc44
            have q12 : ¬ j < 12 := fun z => nI_ge (a := j) (b := 12) z (by omega) hc55
            have q16 : ¬ j < 16 := fun z => nI_ge (a := j) (b := 16) z (by omega) hc66
            have es : sel5 a b c d e j = e := (if_neg (show ¬ j < 4 by omega)).trans ((if_neg (show ¬ j < 8 by omega)).trans ((if_neg (show ¬ j < 12 by omega)).trans (if_neg (show ¬ j < 16 by omega))))
            refine ⟨(hI.1.u (by decide) (by decide) (by decide)).f (by omega) (by omega), by rw [hu_eq, nI_1]; rfl, fun i hi => ?_, fun i hi => ?_⟩
            · rw [hu_ne (by decide), hu_nj (by omega)]
              exact hI.2.2.1 i hi
            · rw [hu_ne (by decide), hu_if]
              by_cases c : i = j
              · rw [if_pos (by omega), c, es]
                rfl
              · rw [if_neg (by omega)]
                exact hI.2.2.2 i (by omega)
          · skip
            refine we_iload (p := 71) dX12_feed_69 rfl rfl ?_
            refine we_goto (p := 76) dX12_feed_71 (by decide) rfl ?_
            refine we_istore (ls1 := [.ref 95, .int a, .int b, .int c, .int d, .int e, .int (nI j), .int d]) (p := 78) dX12_feed_76 rfl rfl ?_
            refine we_aload_n (p := 79) dX12_feed_78 rfl rfl ?_
            refine we_getR (c := 11) (j := 1) (n := 37) (b := 96) (p := 82) dX12_feed_79 rfl rfl (by decide) (by decide) rfl (r_95_1 hF) rfl ?_
            refine we_aload_n (p := 83) dX12_feed_82 rfl rfl ?_
            refine wf_getI (c := 11) (j := 2) (n := 37) (v := nI (L + j)) (p := 86) dX12_feed_83 rfl rfl (by decide) (by decide) (Or.inl rfl) hI.2.1 rfl ?_
            refine we_iload (p := 88) dX12_feed_86 rfl rfl ?_
            refine we_bipush (v := 24) (p := 90) dX12_feed_88 (by decide) rfl ?_
            refine we_bipush (v := 8) (p := 92) dX12_feed_90 (by decide) rfl ?_
            refine we_iload (p := 94) dX12_feed_92 rfl rfl ?_
            refine we_iconst (v := 4) (p := 95) dX12_feed_94 (by decide) rfl ?_
            refine we_irem (p := 96) dX12_feed_95 (by decide) rfl ?_
            refine we_imul (p := 97) dX12_feed_96 rfl ?_
            refine we_isub (p := 98) dX12_feed_97 rfl ?_
            refine we_ishr (p := 99) dX12_feed_98 rfl ?_
            refine we_sipush (v := 255) (p := 102) dX12_feed_99 (by decide) rfl ?_
            refine we_iand (p := 103) dX12_feed_102 rfl ?_
            refine wf_iast (n := 900) (i := (L + j)) (p := 104) dX12_feed_103 rfl (by decide) (in_nJ (by omega) (by decide)) (nI_cl (by omega)) rfl ?_
            refine we_aload_n (p := 105) dX12_feed_104 rfl rfl ?_
            refine we_dup_ref (p := 106) dX12_feed_105 rfl ?_
            refine wf_getI (c := 11) (j := 2) (n := 37) (v := nI (L + j)) (p := 109) dX12_feed_106 rfl rfl (by decide) (by decide) (Or.inl rfl) ((congrFun (hu_ne (by decide)) 2).trans hI.2.1) rfl ?_
            refine we_iconst (v := 1) (p := 110) dX12_feed_109 (by decide) rfl ?_
            refine we_iadd (p := 111) dX12_feed_110 rfl ?_
            refine we_putI (c := 11) (j := 2) (n := 37)  (p := 114) dX12_feed_111 rfl rfl (by decide) (by decide) rfl rfl rfl ?_
            refine we_iinc (ls1 := [.ref 95, .int a, .int b, .int c, .int d, .int e, .int ((nI j) + 1), .int d]) (p := 117) dX12_feed_114 rfl rfl rfl ?_
            refine we_goto (p := 23) dX12_feed_117 (by decide) rfl ?_
            rw [nI_1]
            refine y_feed_L hF hL m (j + 1) _ _ (by omega) ?_ hq
            have q4 : ¬ j < 4 := fun z => nI_ge (a := j) (b := 4) z (by omega) hc33
            have q8 : ¬ j < 8 := fun z => nI_ge (a := j) (b := 8) z (by omega) hc44
            have q12 : ¬ j < 12 := fun z => nI_ge (a := j) (b := 12) z (by omega) hc55
            have q16 : j < 16 := Nat.lt_of_not_le (fun z => hc66 (nI_le (a := 16) (b := j) z (by omega)))
            have es : sel5 a b c d e j = d := (if_neg (show ¬ j < 4 by omega)).trans ((if_neg (show ¬ j < 8 by omega)).trans ((if_neg (show ¬ j < 12 by omega)).trans (if_pos (show j < 16 by omega))))
            refine ⟨(hI.1.u (by decide) (by decide) (by decide)).f (by omega) (by omega), by rw [hu_eq, nI_1]; rfl, fun i hi => ?_, fun i hi => ?_⟩
            · rw [hu_ne (by decide), hu_nj (by omega)]
              exact hI.2.2.1 i hi
            · rw [hu_ne (by decide), hu_if]
              by_cases c : i = j
              · rw [if_pos (by omega), c, es]
                rfl
              · rw [if_neg (by omega)]
                exact hI.2.2.2 i (by omega)
        · skip
          refine we_iload_n (p := 59) dX12_feed_58 rfl rfl ?_
          refine we_goto (p := 76) dX12_feed_59 (by decide) rfl ?_
          refine we_istore (ls1 := [.ref 95, .int a, .int b, .int c, .int d, .int e, .int (nI j), .int c]) (p := 78) dX12_feed_76 rfl rfl ?_
          refine we_aload_n (p := 79) dX12_feed_78 rfl rfl ?_
          refine we_getR (c := 11) (j := 1) (n := 37) (b := 96) (p := 82) dX12_feed_79 rfl rfl (by decide) (by decide) rfl (r_95_1 hF) rfl ?_
          refine we_aload_n (p := 83) dX12_feed_82 rfl rfl ?_
          refine wf_getI (c := 11) (j := 2) (n := 37) (v := nI (L + j)) (p := 86) dX12_feed_83 rfl rfl (by decide) (by decide) (Or.inl rfl) hI.2.1 rfl ?_
          refine we_iload (p := 88) dX12_feed_86 rfl rfl ?_
          refine we_bipush (v := 24) (p := 90) dX12_feed_88 (by decide) rfl ?_
          refine we_bipush (v := 8) (p := 92) dX12_feed_90 (by decide) rfl ?_
          refine we_iload (p := 94) dX12_feed_92 rfl rfl ?_
          refine we_iconst (v := 4) (p := 95) dX12_feed_94 (by decide) rfl ?_
          refine we_irem (p := 96) dX12_feed_95 (by decide) rfl ?_
          refine we_imul (p := 97) dX12_feed_96 rfl ?_
          refine we_isub (p := 98) dX12_feed_97 rfl ?_
          refine we_ishr (p := 99) dX12_feed_98 rfl ?_
          refine we_sipush (v := 255) (p := 102) dX12_feed_99 (by decide) rfl ?_
          refine we_iand (p := 103) dX12_feed_102 rfl ?_
          refine wf_iast (n := 900) (i := (L + j)) (p := 104) dX12_feed_103 rfl (by decide) (in_nJ (by omega) (by decide)) (nI_cl (by omega)) rfl ?_
          refine we_aload_n (p := 105) dX12_feed_104 rfl rfl ?_
          refine we_dup_ref (p := 106) dX12_feed_105 rfl ?_
          refine wf_getI (c := 11) (j := 2) (n := 37) (v := nI (L + j)) (p := 109) dX12_feed_106 rfl rfl (by decide) (by decide) (Or.inl rfl) ((congrFun (hu_ne (by decide)) 2).trans hI.2.1) rfl ?_
          refine we_iconst (v := 1) (p := 110) dX12_feed_109 (by decide) rfl ?_
          refine we_iadd (p := 111) dX12_feed_110 rfl ?_
          refine we_putI (c := 11) (j := 2) (n := 37)  (p := 114) dX12_feed_111 rfl rfl (by decide) (by decide) rfl rfl rfl ?_
          refine we_iinc (ls1 := [.ref 95, .int a, .int b, .int c, .int d, .int e, .int ((nI j) + 1), .int c]) (p := 117) dX12_feed_114 rfl rfl rfl ?_
          refine we_goto (p := 23) dX12_feed_117 (by decide) rfl ?_
          rw [nI_1]
          refine y_feed_L hF hL m (j + 1) _ _ (by omega) ?_ hq
          have q4 : ¬ j < 4 := fun z => nI_ge (a := j) (b := 4) z (by omega) hc33
          have q8 : ¬ j < 8 := fun z => nI_ge (a := j) (b := 8) z (by omega) hc44
          have q12 : j < 12 := Nat.lt_of_not_le (fun z => hc55 (nI_le (a := 12) (b := j) z (by omega)))
          have es : sel5 a b c d e j = c := (if_neg (show ¬ j < 4 by omega)).trans ((if_neg (show ¬ j < 8 by omega)).trans (if_pos (show j < 12 by omega)))
          refine ⟨(hI.1.u (by decide) (by decide) (by decide)).f (by omega) (by omega), by rw [hu_eq, nI_1]; rfl, fun i hi => ?_, fun i hi => ?_⟩
          · rw [hu_ne (by decide), hu_nj (by omega)]
            exact hI.2.2.1 i hi
          · rw [hu_ne (by decide), hu_if]
            by_cases c : i = j
            · rw [if_pos (by omega), c, es]
              rfl
            · rw [if_neg (by omega)]
              exact hI.2.2.2 i (by omega)
      · skip
        refine we_iload_n (p := 48) dX12_feed_47 rfl rfl ?_
        refine we_goto (p := 76) dX12_feed_48 (by decide) rfl ?_
        refine we_istore (ls1 := [.ref 95, .int a, .int b, .int c, .int d, .int e, .int (nI j), .int b]) (p := 78) dX12_feed_76 rfl rfl ?_
        refine we_aload_n (p := 79) dX12_feed_78 rfl rfl ?_
        refine we_getR (c := 11) (j := 1) (n := 37) (b := 96) (p := 82) dX12_feed_79 rfl rfl (by decide) (by decide) rfl (r_95_1 hF) rfl ?_
        refine we_aload_n (p := 83) dX12_feed_82 rfl rfl ?_
        refine wf_getI (c := 11) (j := 2) (n := 37) (v := nI (L + j)) (p := 86) dX12_feed_83 rfl rfl (by decide) (by decide) (Or.inl rfl) hI.2.1 rfl ?_
        refine we_iload (p := 88) dX12_feed_86 rfl rfl ?_
        refine we_bipush (v := 24) (p := 90) dX12_feed_88 (by decide) rfl ?_
        refine we_bipush (v := 8) (p := 92) dX12_feed_90 (by decide) rfl ?_
        refine we_iload (p := 94) dX12_feed_92 rfl rfl ?_
        refine we_iconst (v := 4) (p := 95) dX12_feed_94 (by decide) rfl ?_
        refine we_irem (p := 96) dX12_feed_95 (by decide) rfl ?_
        refine we_imul (p := 97) dX12_feed_96 rfl ?_
        refine we_isub (p := 98) dX12_feed_97 rfl ?_
        refine we_ishr (p := 99) dX12_feed_98 rfl ?_
        refine we_sipush (v := 255) (p := 102) dX12_feed_99 (by decide) rfl ?_
        refine we_iand (p := 103) dX12_feed_102 rfl ?_
        refine wf_iast (n := 900) (i := (L + j)) (p := 104) dX12_feed_103 rfl (by decide) (in_nJ (by omega) (by decide)) (nI_cl (by omega)) rfl ?_
        refine we_aload_n (p := 105) dX12_feed_104 rfl rfl ?_
        refine we_dup_ref (p := 106) dX12_feed_105 rfl ?_
        refine wf_getI (c := 11) (j := 2) (n := 37) (v := nI (L + j)) (p := 109) dX12_feed_106 rfl rfl (by decide) (by decide) (Or.inl rfl) ((congrFun (hu_ne (by decide)) 2).trans hI.2.1) rfl ?_
        refine we_iconst (v := 1) (p := 110) dX12_feed_109 (by decide) rfl ?_
        refine we_iadd (p := 111) dX12_feed_110 rfl ?_
        refine we_putI (c := 11) (j := 2) (n := 37)  (p := 114) dX12_feed_111 rfl rfl (by decide) (by decide) rfl rfl rfl ?_
        refine we_iinc (ls1 := [.ref 95, .int a, .int b, .int c, .int d, .int e, .int ((nI j) + 1), .int b]) (p := 117) dX12_feed_114 rfl rfl rfl ?_
        refine we_goto (p := 23) dX12_feed_117 (by decide) rfl ?_
        rw [nI_1]
        refine y_feed_L hF hL m (j + 1) _ _ (by omega) ?_ hq
        have q4 : ¬ j < 4 := fun z => nI_ge (a := j) (b := 4) z (by omega) hc33
        have q8 : j < 8 := Nat.lt_of_not_le (fun z => hc44 (nI_le (a := 8) (b := j) z (by omega)))
        have es : sel5 a b c d e j = b := (if_neg (show ¬ j < 4 by omega)).trans (if_pos (show j < 8 by omega))
        refine ⟨(hI.1.u (by decide) (by decide) (by decide)).f (by omega) (by omega), by rw [hu_eq, nI_1]; rfl, fun i hi => ?_, fun i hi => ?_⟩
        · rw [hu_ne (by decide), hu_nj (by omega)]
          exact hI.2.2.1 i hi
        · rw [hu_ne (by decide), hu_if]
          by_cases c : i = j
          · rw [if_pos (by omega), c, es]
            rfl
          · rw [if_neg (by omega)]
            exact hI.2.2.2 i (by omega)
    · skip
      refine we_iload_n (p := 37) dX12_feed_36 rfl rfl ?_
      refine we_goto (p := 76) dX12_feed_37 (by decide) rfl ?_
      refine we_istore (ls1 := [.ref 95, .int a, .int b, .int c, .int d, .int e, .int (nI j), .int a]) (p := 78) dX12_feed_76 rfl rfl ?_
      refine we_aload_n (p := 79) dX12_feed_78 rfl rfl ?_
      refine we_getR (c := 11) (j := 1) (n := 37) (b := 96) (p := 82) dX12_feed_79 rfl rfl (by decide) (by decide) rfl (r_95_1 hF) rfl ?_
      refine we_aload_n (p := 83) dX12_feed_82 rfl rfl ?_
      refine wf_getI (c := 11) (j := 2) (n := 37) (v := nI (L + j)) (p := 86) dX12_feed_83 rfl rfl (by decide) (by decide) (Or.inl rfl) hI.2.1 rfl ?_
      refine we_iload (p := 88) dX12_feed_86 rfl rfl ?_
      refine we_bipush (v := 24) (p := 90) dX12_feed_88 (by decide) rfl ?_
      refine we_bipush (v := 8) (p := 92) dX12_feed_90 (by decide) rfl ?_
      refine we_iload (p := 94) dX12_feed_92 rfl rfl ?_
      refine we_iconst (v := 4) (p := 95) dX12_feed_94 (by decide) rfl ?_
      refine we_irem (p := 96) dX12_feed_95 (by decide) rfl ?_
      refine we_imul (p := 97) dX12_feed_96 rfl ?_
      refine we_isub (p := 98) dX12_feed_97 rfl ?_
      refine we_ishr (p := 99) dX12_feed_98 rfl ?_
      refine we_sipush (v := 255) (p := 102) dX12_feed_99 (by decide) rfl ?_
      refine we_iand (p := 103) dX12_feed_102 rfl ?_
      refine wf_iast (n := 900) (i := (L + j)) (p := 104) dX12_feed_103 rfl (by decide) (in_nJ (by omega) (by decide)) (nI_cl (by omega)) rfl ?_
      refine we_aload_n (p := 105) dX12_feed_104 rfl rfl ?_
      refine we_dup_ref (p := 106) dX12_feed_105 rfl ?_
      refine wf_getI (c := 11) (j := 2) (n := 37) (v := nI (L + j)) (p := 109) dX12_feed_106 rfl rfl (by decide) (by decide) (Or.inl rfl) ((congrFun (hu_ne (by decide)) 2).trans hI.2.1) rfl ?_
      refine we_iconst (v := 1) (p := 110) dX12_feed_109 (by decide) rfl ?_
      refine we_iadd (p := 111) dX12_feed_110 rfl ?_
      refine we_putI (c := 11) (j := 2) (n := 37)  (p := 114) dX12_feed_111 rfl rfl (by decide) (by decide) rfl rfl rfl ?_
      refine we_iinc (ls1 := [.ref 95, .int a, .int b, .int c, .int d, .int e, .int ((nI j) + 1), .int a]) (p := 117) dX12_feed_114 rfl rfl rfl ?_
      refine we_goto (p := 23) dX12_feed_117 (by decide) rfl ?_
      rw [nI_1]
      refine y_feed_L hF hL m (j + 1) _ _ (by omega) ?_ hq
      have q4 : j < 4 := Nat.lt_of_not_le (fun z => hc33 (nI_le (a := 4) (b := j) z (by omega)))
      have es : sel5 a b c d e j = a := if_pos (show j < 4 by omega)
      refine ⟨(hI.1.u (by decide) (by decide) (by decide)).f (by omega) (by omega), by rw [hu_eq, nI_1]; rfl, fun i hi => ?_, fun i hi => ?_⟩
      · rw [hu_ne (by decide), hu_nj (by omega)]
        exact hI.2.2.1 i hi
      · rw [hu_ne (by decide), hu_if]
        by_cases c : i = j
        · rw [if_pos (by omega), c, es]
          rfl
        · rw [if_neg (by omega)]
          exact hI.2.2.2 i (by omega)
set_option maxRecDepth 10000 in
theorem q_feed_ok {I : Nat → Nat → Int32} {J : Nat → Nat → Int64} {F : Nat → Nat → Option Nat} {nc ns : Nat} {a b c d e : Int32} {L : Nat} (hF : RFok F) (hl : I 95 2 = nI L) (hL : L + 20 ≤ 900) : Ew 0 mX12_feed 0 [.ref 95, .int a, .int b, .int c, .int d, .int e, .null, .null] [] ((SH, nc, ns), I, J, F) (Ret nc ns (some (.int (nI (L + 20)))) (fun I' J' F' => J' = J ∧ F' = F ∧ Fm 96 97 2 3 (hp_u I 95 0 0) I' ∧ I' 95 2 = nI (L + 20) ∧ (∀ i, i < L → I' 96 i = I 96 i) ∧ ∀ i, i < 20 → I' 96 (L + i) = mB (sel5 a b c d e i) i)) := by
  refine we_aload_n (p := 1) dX12_feed_0 rfl rfl ?_
  refine we_iconst (v := 0) (p := 2) dX12_feed_1 (by decide) rfl ?_
  refine we_putI (c := 11) (j := 0) (n := 37)  (p := 5) dX12_feed_2 rfl rfl (by decide) (by decide) rfl rfl rfl ?_
  refine we_aload_n (p := 6) dX12_feed_5 rfl rfl ?_
  refine wf_getI (c := 11) (j := 2) (n := 37) (v := nI L) (p := 9) dX12_feed_6 rfl rfl (by decide) (by decide) (Or.inl rfl) ((hu_nj (by decide)).trans hl) rfl ?_
  refine we_bipush (v := 20) (p := 11) dX12_feed_9 (by decide) rfl ?_
  refine we_iadd (p := 12) dX12_feed_11 rfl ?_
  refine we_sipush (v := 900) (p := 15) dX12_feed_12 (by decide) rfl ?_
  refine we_icmp_le (t := 20) (p := 18) dX12_feed_15 (by decide) rfl rfl (fun hc15 => ?_) (fun hc15 => absurd (by rw [show (20 : Int32) = nI 20 from rfl, nI_add]; exact nI_le9 (by omega)) hc15)
  refine we_iconst (v := 0) (p := 21) dX12_feed_20 (by decide) rfl ?_
  refine we_istore (ls1 := [.ref 95, .int a, .int b, .int c, .int d, .int e, .int 0, .null]) (p := 23) dX12_feed_21 rfl rfl ?_
  refine y_feed_L (I0 := hp_u I 95 0 0) hF hL 20 0 _ _ (by omega) ⟨Fm.rf, (hu_nj (by decide)).trans hl, fun i hi => rfl, fun i hi => absurd hi (by omega)⟩ (fun I1 z hI1 => ?_)
  refine we_aload_n (p := 121) dX12_feed_120 rfl rfl ?_
  refine wf_getI (c := 11) (j := 2) (n := 37) (v := nI (L + 20)) (p := 124) dX12_feed_121 rfl rfl (by decide) (by decide) (Or.inl rfl) hI1.2.1 rfl ?_
  exact wi_ret dX12_feed_124 rfl rfl (by decide) (⟨rfl, _, _, _, rfl, rfl, rfl, hI1.1, hI1.2.1, fun i hi => (hI1.2.2.1 i hi).trans (congrFun (hu_ne (by decide)) i), hI1.2.2.2⟩)
