/-! The reference's tokens. -/
theorem sb_len : ∀ j, j < 27 → (ev_sb j).length < 300 := by decide +kernel
theorem shr_0 : ∀ n, n < 300 → Int32.ofNat n >>> ((0 : Int32) &&& 31) = nI n := by decide +kernel
theorem y_coder {j : Nat} (hj : j < 27) {h : hp_H} : Ev 0 mJ0_coder_7d493 0 [.ref (sp_S + j)] [] h (some (.int 0)) h := by
  refine e_statC dJ0_coder_7d493_0 rfl (p := 3) rfl ?_
  refine e_if_eq (t := 13) (p := 6) dJ0_coder_7d493_3 (by decide) rfl rfl (fun hc => absurd hc (by decide)) (fun hc => ?_)
  refine e_aload_n (p := 7) dJ0_coder_7d493_6 rfl rfl ?_
  refine e_scod (p := 10) dJ0_coder_7d493_7 rfl hj rfl ?_
  refine e_goto (p := 14) dJ0_coder_7d493_10 (by decide) rfl ?_
  exact e_iretE dJ0_coder_7d493_14 rfl (by decide) (by decide) ⟨rfl, rfl⟩
theorem y_isLatin1 {j : Nat} (hj : j < 27) {h : hp_H} : Ev 0 mJ0_isLatin1_aae02 0 [.ref (sp_S + j)] [] h (some (.int 1)) h := by
  refine e_statC dJ0_isLatin1_aae02_0 rfl (p := 3) rfl ?_
  refine e_if_eq (t := 17) (p := 6) dJ0_isLatin1_aae02_3 (by decide) rfl rfl (fun hc => absurd hc (by decide)) (fun hc => ?_)
  refine e_aload_n (p := 7) dJ0_isLatin1_aae02_6 rfl rfl ?_
  refine e_scod (p := 10) dJ0_isLatin1_aae02_7 rfl hj rfl ?_
  refine e_if_ne (t := 17) (p := 13) dJ0_isLatin1_aae02_10 (by decide) rfl rfl (fun hc => absurd rfl hc) (fun hc => ?_)
  refine e_iconst (v := 1) (p := 14) dJ0_isLatin1_aae02_13 (by decide) rfl ?_
  refine e_goto (p := 18) dJ0_isLatin1_aae02_14 (by decide) rfl ?_
  exact e_iretE dJ0_isLatin1_aae02_18 rfl (by decide) (by decide) ⟨rfl, rfl⟩
theorem y_slen {j : Nat} (hj : j < 27) {h : hp_H} : Ev 1 mJ0_length_8abf5 0 [.ref (sp_S + j)] [] h (some (.int (nI (ev_sb j).length))) h := by
  refine e_aload_n (p := 1) dJ0_length_8abf5_0 rfl rfl ?_
  refine e_sval (p := 4) dJ0_length_8abf5_1 rfl hj rfl ?_
  refine e_vlen (p := 5) dJ0_length_8abf5_4 hj rfl ?_
  refine e_aload_n (p := 6) dJ0_length_8abf5_5 rfl rfl ?_
  refine e_callV_int (p := 9) (k' := 0) (a := [.ref (sp_S + j)]) (rr := [.int (Int32.ofNat (ev_sb j).length)]) dJ0_length_8abf5_6 rfl rfl rfl rfl (rc_str rfl rfl hj) (Nat.le_of_ble_eq_true rfl) (Nat.le_of_ble_eq_true rfl) (by decide) (y_coder hj) (Or.inl rfl) rfl ?_
  refine e_ishr (p := 10) dJ0_length_8abf5_9 rfl ?_
  exact e_iretE dJ0_length_8abf5_10 rfl rfl (by decide) ⟨shr_0 _ (sb_len j hj), rfl⟩
def chU (j i : Nat) : Nat := ((ev_sb j).getD i 0).toNatClampNeg
theorem ch_i : ∀ j, j < 27 → ∀ i, i < (ev_sb j).length → (((ev_sb j).getD i 0 &&& 255).toUInt32 % 65536).toInt32 = nI (chU j i) ∧ narrow .char (.int (nI (chU j i))) = .int (nI (chU j i)) := by decide +kernel
theorem y_char1 {j i : Nat} (hj : j < 27) (hi : i < (ev_sb j).length) {h : hp_H} : Ev 0 mJ1_charAt_3b067 0 [.ref (sp_V + j), .int (nI i)] [] h (some (.int (nI (chU j i)))) h := by
  have hl := sb_len j hj
  refine e_iload_n (p := 1) dJ1_charAt_3b067_0 rfl rfl ?_
  refine e_aload_n (p := 2) dJ1_charAt_3b067_1 rfl rfl ?_
  refine e_vlen (p := 3) dJ1_charAt_3b067_2 hj rfl ?_
  refine e_cki (p := 6) dJ1_charAt_3b067_3 rfl (Nat.le_of_ble_eq_true rfl) (nI_nlt (a := i) (b := 0) (by omega) (by omega)) (nI_lt (a := i) (b := (ev_sb j).length) hi (by omega)) rfl ?_
  refine e_aload_n (p := 7) dJ1_charAt_3b067_6 rfl rfl ?_
  refine e_iload_n (p := 8) dJ1_charAt_3b067_7 rfl rfl ?_
  refine e_sbald (p := 9) dJ1_charAt_3b067_8 hj (in_nJ hi (by omega)) rfl ?_
  refine e_sipush (v := 255) (p := 12) dJ1_charAt_3b067_9 (by decide) rfl ?_
  refine e_iand (p := 13) dJ1_charAt_3b067_12 rfl ?_
  refine e_i2c (p := 14) dJ1_charAt_3b067_13 rfl ?_
  rw [nI_cl (by omega), (ch_i j hj i hi).1]
  exact e_iretE dJ1_charAt_3b067_14 rfl (ch_i j hj i hi).2 (by decide) ⟨rfl, rfl⟩
theorem y_char {j i : Nat} (hj : j < 27) (hi : i < (ev_sb j).length) {h : hp_H} : Ev 1 mJ0_charAt_5068e 0 [.ref (sp_S + j), .int (nI i)] [] h (some (.int (nI (chU j i)))) h := by
  refine e_aload_n (p := 1) dJ0_charAt_5068e_0 rfl rfl ?_
  refine e_callV_int (p := 4) (k' := 0) (a := [.ref (sp_S + j)]) (rr := []) dJ0_charAt_5068e_1 rfl rfl rfl rfl (rc_str rfl rfl hj) (Nat.le_of_ble_eq_true rfl) (Nat.le_of_ble_eq_true rfl) (by decide) (y_isLatin1 hj) (Or.inl rfl) rfl ?_
  refine e_if_eq (t := 16) (p := 7) dJ0_charAt_5068e_4 (by decide) rfl rfl (fun hc => absurd hc (by decide)) (fun hc => ?_)
  refine e_aload_n (p := 8) dJ0_charAt_5068e_7 rfl rfl ?_
  refine e_sval (p := 11) dJ0_charAt_5068e_8 rfl hj rfl ?_
  refine e_iload_n (p := 12) dJ0_charAt_5068e_11 rfl rfl ?_
  refine e_callS_int (p := 15) (k' := 0) (a := [.ref (sp_V + j), .int (nI i)]) (rr := []) dJ0_charAt_5068e_12 rfl rfl rfl rfl rfl (rc_st rfl) (Nat.le_of_ble_eq_true rfl) (Nat.le_of_ble_eq_true rfl) (by decide) (y_char1 hj hi) (Or.inl rfl) rfl ?_
  exact e_iretE dJ0_charAt_5068e_15 rfl (ch_i j hj i hi).2 (by decide) ⟨rfl, rfl⟩
def txM (T : Nat → Nat) (n : Nat) (I : Nat → Nat → Int32) : Prop := n ≤ 900 ∧ I 95 3 = nI n ∧ ∀ i, i < n → T i < 256 ∧ I 96 i = nI (T i)
theorem txM.f {T : Nat → Nat} {n : Nat} {I I' : Nat → Nat → Int32} (h : txM T n I) (f : Fm 97 98 4 9 I I') : txM T n I' := ⟨h.1, (f.2 3 (by omega)).trans h.2.1, fun i hi => ⟨(h.2.2 i hi).1, by rw [f.1 96 (by decide) (by omega)]; exact (h.2.2 i hi).2⟩⟩
def lkS (T : Nat → Nat) (n p : Nat) : Int32 := if p < n then nI (T p) else -1
def tkM (k : Nat) : Int32 := if k = 0 then 0 else if k = 1 then 2 else if k = 2 then 3 else if k = 3 then 59 else 1
def rkM (T : Nat → Nat) (n p : Nat) (I : Nat → Nat → Int32) : Prop := I 95 4 = nI (tS T n p) ∧ I 95 5 = nI (tE T n p) ∧ I 95 6 = tkM (tK T n p) ∧ (tK T n p = 1 → I 95 8 = nI (rn isLt T n (tS T n p) - tS T n p) ∧ ∀ i, i < rn isLt T n (tS T n p) - tS T n p → I 97 i = nI (T (tS T n p + i))) ∧ (tK T n p = 2 → I 95 7 = nI (tV T n p))
section
variable {T : Nat → Nat} {n p : Nat} {I : Nat → Nat → Int32}
theorem rkM_0 (h : ¬ tS T n p < n) (h4 : I 95 4 = nI (tS T n p)) (h5 : I 95 5 = nI (tS T n p)) (h6 : I 95 6 = 0) : rkM T n p I := by
  have k : tK T n p = 0 := if_neg h
  have e : tE T n p = tS T n p := if_neg h
  exact ⟨h4, by rw [e, h5], by rw [k, h6]; rfl, fun z => by omega, fun z => by omega⟩
theorem rkM_w (h : tS T n p < n) (l : isLt (T (tS T n p)) = true) (c : rn isLt T n (tS T n p) - tS T n p ≤ 8) (h4 : I 95 4 = nI (tS T n p)) (h5 : I 95 5 = nI (rn isLt T n (tS T n p))) (h6 : I 95 6 = 2) (h8 : I 95 8 = nI (rn isLt T n (tS T n p) - tS T n p)) (hl : ∀ i, i < rn isLt T n (tS T n p) - tS T n p → i < 8 → I 97 i = nI (T (tS T n p + i))) : rkM T n p I := by
  have k : tK T n p = 1 := by
    unfold tK
    rw [if_pos h, if_pos l, if_pos c]
  have e : tE T n p = rn isLt T n (tS T n p) := by
    unfold tE
    rw [if_pos h, if_pos l]
  exact ⟨h4, by rw [e, h5], by rw [k, h6]; rfl, fun z => ⟨h8, fun i hi => hl i hi (by omega)⟩, fun z => by omega⟩
theorem rkM_wb (h : tS T n p < n) (l : isLt (T (tS T n p)) = true) (c : ¬ rn isLt T n (tS T n p) - tS T n p ≤ 8) (h4 : I 95 4 = nI (tS T n p)) (h5 : I 95 5 = nI (rn isLt T n (tS T n p))) (h6 : I 95 6 = 1) : rkM T n p I := by
  have k : tK T n p = 4 := by
    unfold tK
    rw [if_pos h, if_pos l, if_neg c]
  have e : tE T n p = rn isLt T n (tS T n p) := by
    unfold tE
    rw [if_pos h, if_pos l]
  exact ⟨h4, by rw [e, h5], by rw [k, h6]; rfl, fun z => by omega, fun z => by omega⟩
theorem rkM_d (h : tS T n p < n) (l : ¬ isLt (T (tS T n p)) = true) (d : isDg (T (tS T n p)) = true) (c : rn isDg T n (tS T n p) - tS T n p ≤ 3) (h4 : I 95 4 = nI (tS T n p)) (h5 : I 95 5 = nI (rn isDg T n (tS T n p))) (h6 : I 95 6 = 3) (h7 : I 95 7 = nI (tV T n p)) : rkM T n p I := by
  have k : tK T n p = 2 := by
    unfold tK
    rw [if_pos h, if_neg l, if_pos d, if_pos c]
  have e : tE T n p = rn isDg T n (tS T n p) := by
    unfold tE
    rw [if_pos h, if_neg l, if_pos d]
  exact ⟨h4, by rw [e, h5], by rw [k, h6]; rfl, fun z => by omega, fun z => h7⟩
theorem rkM_db (h : tS T n p < n) (l : ¬ isLt (T (tS T n p)) = true) (d : isDg (T (tS T n p)) = true) (c : ¬ rn isDg T n (tS T n p) - tS T n p ≤ 3) (h4 : I 95 4 = nI (tS T n p)) (h5 : I 95 5 = nI (rn isDg T n (tS T n p))) (h6 : I 95 6 = 1) : rkM T n p I := by
  have k : tK T n p = 4 := by
    unfold tK
    rw [if_pos h, if_neg l, if_pos d, if_neg c]
  have e : tE T n p = rn isDg T n (tS T n p) := by
    unfold tE
    rw [if_pos h, if_neg l, if_pos d]
  exact ⟨h4, by rw [e, h5], by rw [k, h6]; rfl, fun z => by omega, fun z => by omega⟩
theorem rkM_s (h : tS T n p < n) (l : ¬ isLt (T (tS T n p)) = true) (d : ¬ isDg (T (tS T n p)) = true) (h4 : I 95 4 = nI (tS T n p)) (h5 : I 95 5 = nI (tS T n p) + 1) (h6 : I 95 6 = if T (tS T n p) = 59 then 59 else 1) : rkM T n p I := by
  have k : tK T n p = if T (tS T n p) = 59 then 3 else 4 := by
    unfold tK
    rw [if_pos h, if_neg l, if_neg d]
  have e : tE T n p = tS T n p + 1 := by
    unfold tE
    rw [if_pos h, if_neg l, if_neg d]
  have e3 : tK T n p = 3 ∨ tK T n p = 4 := by
    rw [k]
    split
    · exact Or.inl rfl
    · exact Or.inr rfl
  refine ⟨h4, by rw [e, h5, nI_1], ?_, fun z => by omega, fun z => by omega⟩
  rw [k, h6]
  split <;> rfl
end
set_option maxRecDepth 10000 in
theorem y_look1 {I : Nat → Nat → Int32} {J : Nat → Nat → Int64} {F : Nat → Nat → Option Nat} {nc ns : Nat} {T : Nat → Nat} {n : Nat} (hF : RFok F) (ht : txM T n I) {p : Nat} (h : p < n)  : Ev 0 mX12_look 0 [.ref 95, .int (nI p)] [] ((SH, nc, ns), I, J, F) (some (.int (nI (T p)))) ((SH, nc, ns), I, J, F) := by
  have h9 := ht.1
  refine e_iload_n (p := 1) dX12_look_0 rfl rfl ?_
  refine e_aload_n (p := 2) dX12_look_1 rfl rfl ?_
  refine f_getI (c := 11) (j := 3) (n := 37) (v := nI n) (p := 5) dX12_look_2 rfl rfl (by decide) (by decide) (Or.inl rfl) ht.2.1 rfl ?_
  refine e_icmp_ge (t := 17) (p := 8) dX12_look_5 (by decide) rfl rfl (fun hc5 => absurd hc5 (nI_ge (a := p) (b := n) h (by omega))) (fun hc5 => ?_)
  refine e_aload_n (p := 9) dX12_look_8 rfl rfl ?_
  refine e_getR (c := 11) (j := 1) (n := 37) (b := 96) (p := 12) dX12_look_9 rfl rfl (by decide) (by decide) rfl (r_95_1 hF) rfl ?_
  refine e_iload_n (p := 13) dX12_look_12 rfl rfl ?_
  refine f_iald (n := 900) (i := p) (v := nI (T p)) (p := 14) dX12_look_13 rfl (by decide) (in_nJ (by omega) (by decide)) (nI_cl (by omega)) (ht.2.2 p h).2 rfl ?_
  refine e_goto (p := 18) dX12_look_14 (by decide) rfl ?_
  exact e_iretE dX12_look_18 rfl rfl (by decide) ⟨rfl, rfl⟩
set_option maxRecDepth 10000 in
theorem y_look0 {I : Nat → Nat → Int32} {J : Nat → Nat → Int64} {F : Nat → Nat → Option Nat} {nc ns : Nat} {T : Nat → Nat} {n : Nat} (hF : RFok F) (ht : txM T n I) {p : Nat} (h : p = n)  : Ev 0 mX12_look 0 [.ref 95, .int (nI p)] [] ((SH, nc, ns), I, J, F) (some (.int (-1))) ((SH, nc, ns), I, J, F) := by
  have h9 := ht.1
  refine e_iload_n (p := 1) dX12_look_0 rfl rfl ?_
  refine e_aload_n (p := 2) dX12_look_1 rfl rfl ?_
  refine f_getI (c := 11) (j := 3) (n := 37) (v := nI n) (p := 5) dX12_look_2 rfl rfl (by decide) (by decide) (Or.inl rfl) ht.2.1 rfl ?_
  refine e_icmp_ge (t := 17) (p := 8) dX12_look_5 (by decide) rfl rfl (fun hc5 => ?_) (fun hc5 => absurd (nI_le (a := n) (b := p) (by omega) (by omega)) hc5)
  refine e_iconst (v := -1) (p := 18) dX12_look_17 (by decide) rfl ?_
  exact e_iretE dX12_look_18 rfl rfl (by decide) ⟨rfl, rfl⟩
set_option maxRecDepth 10000 in
theorem y_isSmall {I : Nat → Nat → Int32} {J : Nat → Nat → Int64} {F : Nat → Nat → Option Nat} {nc ns : Nat} {v : Int32} : Ev 0 mX12_isSmall 0 [.int v] [] ((SH, nc, ns), I, J, F) (some (.int (inS v 97 122))) ((SH, nc, ns), I, J, F) := by
  refine e_iload_n (p := 1) dX12_isSmall_0 rfl rfl ?_
  refine e_bipush (v := 97) (p := 3) dX12_isSmall_1 (by decide) rfl ?_
  refine e_icmp_lt (t := 16) (p := 6) dX12_isSmall_3 (by decide) rfl rfl (fun hc3 => ?_) (fun hc3 => ?_)
  · skip
    refine e_iconst (v := 0) (p := 17) dX12_isSmall_16 (by decide) rfl ?_
    exact e_iretE dX12_isSmall_17 rfl (by decide) (by decide) ⟨by simp only [inS, hc3, (Int32.not_le.mpr hc3), ↓reduceIte], rfl⟩
  · skip
    refine e_iload_n (p := 7) dX12_isSmall_6 rfl rfl ?_
    refine e_bipush (v := 122) (p := 9) dX12_isSmall_7 (by decide) rfl ?_
    refine e_icmp_gt (t := 16) (p := 12) dX12_isSmall_9 (by decide) rfl rfl (fun hc9 => ?_) (fun hc9 => ?_)
    · skip
      refine e_iconst (v := 0) (p := 17) dX12_isSmall_16 (by decide) rfl ?_
      exact e_iretE dX12_isSmall_17 rfl (by decide) (by decide) ⟨by simp only [inS, hc3, hc9, (Int32.not_lt.mp hc3), (Int32.not_le.mpr hc9), ↓reduceIte], rfl⟩
    · skip
      refine e_iconst (v := 1) (p := 13) dX12_isSmall_12 (by decide) rfl ?_
      refine e_goto (p := 17) dX12_isSmall_13 (by decide) rfl ?_
      exact e_iretE dX12_isSmall_17 rfl (by decide) (by decide) ⟨by simp only [inS, hc3, hc9, (Int32.not_lt.mp hc3), (Int32.not_lt.mp hc9), ↓reduceIte], rfl⟩
set_option maxRecDepth 10000 in
theorem y_isDigit {I : Nat → Nat → Int32} {J : Nat → Nat → Int64} {F : Nat → Nat → Option Nat} {nc ns : Nat} {v : Int32} : Ev 0 mX12_isDigit 0 [.int v] [] ((SH, nc, ns), I, J, F) (some (.int (inS v 48 57))) ((SH, nc, ns), I, J, F) := by
  refine e_iload_n (p := 1) dX12_isDigit_0 rfl rfl ?_
  refine e_bipush (v := 48) (p := 3) dX12_isDigit_1 (by decide) rfl ?_
  refine e_icmp_lt (t := 16) (p := 6) dX12_isDigit_3 (by decide) rfl rfl (fun hc3 => ?_) (fun hc3 => ?_)
  · skip
    refine e_iconst (v := 0) (p := 17) dX12_isDigit_16 (by decide) rfl ?_
    exact e_iretE dX12_isDigit_17 rfl (by decide) (by decide) ⟨by simp only [inS, hc3, (Int32.not_le.mpr hc3), ↓reduceIte], rfl⟩
  · skip
    refine e_iload_n (p := 7) dX12_isDigit_6 rfl rfl ?_
    refine e_bipush (v := 57) (p := 9) dX12_isDigit_7 (by decide) rfl ?_
    refine e_icmp_gt (t := 16) (p := 12) dX12_isDigit_9 (by decide) rfl rfl (fun hc9 => ?_) (fun hc9 => ?_)
    · skip
      refine e_iconst (v := 0) (p := 17) dX12_isDigit_16 (by decide) rfl ?_
      exact e_iretE dX12_isDigit_17 rfl (by decide) (by decide) ⟨by simp only [inS, hc3, hc9, (Int32.not_lt.mp hc3), (Int32.not_le.mpr hc9), ↓reduceIte], rfl⟩
    · skip
      refine e_iconst (v := 1) (p := 13) dX12_isDigit_12 (by decide) rfl ?_
      refine e_goto (p := 17) dX12_isDigit_13 (by decide) rfl ?_
      exact e_iretE dX12_isDigit_17 rfl (by decide) (by decide) ⟨by simp only [inS, hc3, hc9, (Int32.not_lt.mp hc3), (Int32.not_lt.mp hc9), ↓reduceIte], rfl⟩
set_option maxRecDepth 10000 in
theorem y_nx_S {J : Nat → Nat → Int64} {F : Nat → Nat → Option Nat} {nc ns : Nat} {T : Nat → Nat} {n : Nat} (hF : RFok F) {Q : Option Value → hp_H → Prop} {I : Nat → Nat → Int32} (ht : txM T n I) : ∀ (m q : Nat), q + m = n → Ew 1 mX12_next 21 [.ref 95, .int (nI (rn isSp T n q)), .null, .null] [] ((SH, nc, ns), I, J, F) Q → Ew 1 mX12_next 5 [.ref 95, .int (nI q), .null, .null] [] ((SH, nc, ns), I, J, F) Q
  | 0, q, hj => fun q0 => by
    have hn9 := ht.1
    refine we_aload_n (p := 6) dX12_next_5 rfl rfl ?_
    refine we_iload_n (p := 7) dX12_next_6 rfl rfl ?_
    refine we_callV_int (p := 10) (k' := 0) (a := [.ref 95, .int (nI q)]) (rr := []) dX12_next_7 rfl rfl rfl rfl (rc_of rfl rfl (by decide) ⟨rfl, by decide⟩) (Nat.le_of_ble_eq_true rfl) (Nat.le_of_ble_eq_true rfl) (by decide) (y_look0 hF ht (by omega)) (Or.inl rfl) rfl ?_
    refine we_bipush (v := 32) (p := 12) dX12_next_10 (by decide) rfl ?_
    refine we_icmp_ne (t := 21) (p := 15) dX12_next_12 (by decide) rfl rfl (fun hc12 => ?_) (fun hc12 => absurd hc12 (by decide))
    rw [rn_n (fun z => by omega)] at q0
    exact q0
  | m + 1, q, hj => fun q0 => by
    have hn9 := ht.1
    have hq : q < n := by omega
    by_cases hf : isSp (T q) = true
    · skip
      refine we_aload_n (p := 6) dX12_next_5 rfl rfl ?_
      refine we_iload_n (p := 7) dX12_next_6 rfl rfl ?_
      refine we_callV_int (p := 10) (k' := 0) (a := [.ref 95, .int (nI q)]) (rr := []) dX12_next_7 rfl rfl rfl rfl (rc_of rfl rfl (by decide) ⟨rfl, by decide⟩) (Nat.le_of_ble_eq_true rfl) (Nat.le_of_ble_eq_true rfl) (by decide) (y_look1 hF ht hq) (Or.inl rfl) rfl ?_
      refine we_bipush (v := 32) (p := 12) dX12_next_10 (by decide) rfl ?_
      refine we_icmp_ne (t := 21) (p := 15) dX12_next_12 (by decide) rfl rfl (fun hc12 => absurd ((nB_32 _ (ht.2.2 q hq).1).mpr hf) hc12) (fun hc12 => ?_)
      refine we_iinc (ls1 := [.ref 95, .int ((nI q) + 1), .null, .null]) (p := 18) dX12_next_15 rfl rfl rfl ?_
      refine we_goto (p := 5) dX12_next_18 (by decide) rfl ?_
      rw [nI_1]
      refine y_nx_S hF ht m (q + 1) (by omega) ?_
      rw [rn_y hq hf] at q0
      exact q0
    · skip
      refine we_aload_n (p := 6) dX12_next_5 rfl rfl ?_
      refine we_iload_n (p := 7) dX12_next_6 rfl rfl ?_
      refine we_callV_int (p := 10) (k' := 0) (a := [.ref 95, .int (nI q)]) (rr := []) dX12_next_7 rfl rfl rfl rfl (rc_of rfl rfl (by decide) ⟨rfl, by decide⟩) (Nat.le_of_ble_eq_true rfl) (Nat.le_of_ble_eq_true rfl) (by decide) (y_look1 hF ht hq) (Or.inl rfl) rfl ?_
      refine we_bipush (v := 32) (p := 12) dX12_next_10 (by decide) rfl ?_
      refine we_icmp_ne (t := 21) (p := 15) dX12_next_12 (by decide) rfl rfl (fun hc12 => ?_) (fun hc12 => absurd hc12 (fun z => hf ((nB_32 _ (ht.2.2 q hq).1).mp z)))
      rw [rn_n (fun z => hf z.2)] at q0
      exact q0
set_option maxRecDepth 10000 in
theorem y_nx_W {J : Nat → Nat → Int64} {F : Nat → Nat → Option Nat} {nc ns : Nat} {T : Nat → Nat} {n : Nat} (hF : RFok F) {Q : Option Value → hp_H → Prop} {I0 : Nat → Nat → Int32} {a : Nat} {x4 v : Int32} (ht : txM T n I0) : ∀ (m q c : Nat) (I : Nat → Nat → Int32), q + m = n → q = a + c → (Fm 97 98 4 9 I0 I ∧ I 95 4 = x4 ∧ I 95 8 = nI (c) ∧ ∀ i, i < c → i < 8 → I 97 i = nI (T (a + i))) → (∀ I', (Fm 97 98 4 9 I0 I' ∧ I' 95 4 = x4 ∧ I' 95 8 = nI (rn isLt T n q - a) ∧ ∀ i, i < (rn isLt T n q - a) → i < 8 → I' 97 i = nI (T (a + i))) → Ew 1 mX12_next 117 [.ref 95, .int (nI (rn isLt T n q)), .int v, .null] [] ((SH, nc, ns), I', J, F) Q) → Ew 1 mX12_next 67 [.ref 95, .int (nI q), .int v, .null] [] ((SH, nc, ns), I, J, F) Q
  | 0, q, c, I, hj, hac, hI => fun q0 => by
    have hn9 := ht.1
    refine we_aload_n (p := 68) dX12_next_67 rfl rfl ?_
    refine we_iload_n (p := 69) dX12_next_68 rfl rfl ?_
    refine we_callV_int (p := 72) (k' := 0) (a := [.ref 95, .int (nI q)]) (rr := []) dX12_next_69 rfl rfl rfl rfl (rc_of rfl rfl (by decide) ⟨rfl, by decide⟩) (Nat.le_of_ble_eq_true rfl) (Nat.le_of_ble_eq_true rfl) (by decide) (y_look0 hF (ht.f hI.1) (by omega)) (Or.inl rfl) rfl ?_
    refine we_callS_int (p := 75) (k' := 0) (a := [.int (-1)]) (rr := []) dX12_next_72 rfl rfl rfl rfl rfl (rc_st rfl) (Nat.le_of_ble_eq_true rfl) (Nat.le_of_ble_eq_true rfl) (by decide) (Ev.i (show inS (-1) 97 122 = 0 by decide) y_isSmall) (Or.inl rfl) rfl ?_
    refine we_if_eq (t := 117) (p := 78) dX12_next_75 (by decide) rfl rfl (fun hc75 => ?_) (fun hc75 => absurd (by decide) hc75)
    rw [rn_n (fun z => by omega), show q - a = c by omega] at q0
    exact q0 _ hI
  | m + 1, q, c, I, hj, hac, hI => fun q0 => by
    have hn9 := ht.1
    have hq : q < n := by omega
    by_cases hl : isLt (T q) = true
    · by_cases hc8 : c < 8
      · skip
        refine we_aload_n (p := 68) dX12_next_67 rfl rfl ?_
        refine we_iload_n (p := 69) dX12_next_68 rfl rfl ?_
        refine we_callV_int (p := 72) (k' := 0) (a := [.ref 95, .int (nI q)]) (rr := []) dX12_next_69 rfl rfl rfl rfl (rc_of rfl rfl (by decide) ⟨rfl, by decide⟩) (Nat.le_of_ble_eq_true rfl) (Nat.le_of_ble_eq_true rfl) (by decide) (y_look1 hF (ht.f hI.1) hq) (Or.inl rfl) rfl ?_
        refine we_callS_int (p := 75) (k' := 0) (a := [.int (nI (T q))]) (rr := []) dX12_next_72 rfl rfl rfl rfl rfl (rc_st rfl) (Nat.le_of_ble_eq_true rfl) (Nat.le_of_ble_eq_true rfl) (by decide) (Ev.i ((nB_L _ ((ht.f hI.1).2.2 _ hq).1).trans (if_pos hl)) y_isSmall) (Or.inl rfl) rfl ?_
        refine we_if_eq (t := 117) (p := 78) dX12_next_75 (by decide) rfl rfl (fun hc75 => absurd hc75 (by decide)) (fun hc75 => ?_)
        refine we_aload_n (p := 79) dX12_next_78 rfl rfl ?_
        refine wf_getI (c := 11) (j := 8) (n := 37) (v := nI c) (p := 82) dX12_next_79 rfl rfl (by decide) (by decide) (Or.inl rfl) hI.2.2.1 rfl ?_
        refine we_bipush (v := 8) (p := 84) dX12_next_82 (by decide) rfl ?_
        refine we_icmp_ge (t := 101) (p := 87) dX12_next_84 (by decide) rfl rfl (fun hc84 => absurd hc84 (nI_ge (a := c) (b := 8) hc8 (by omega))) (fun hc84 => ?_)
        refine we_aload_n (p := 88) dX12_next_87 rfl rfl ?_
        refine we_getR (c := 11) (j := 12) (n := 37) (b := 97) (p := 91) dX12_next_88 rfl rfl (by decide) (by decide) rfl (r_95_12 hF) rfl ?_
        refine we_aload_n (p := 92) dX12_next_91 rfl rfl ?_
        refine wf_getI (c := 11) (j := 8) (n := 37) (v := nI c) (p := 95) dX12_next_92 rfl rfl (by decide) (by decide) (Or.inl rfl) hI.2.2.1 rfl ?_
        refine we_aload_n (p := 96) dX12_next_95 rfl rfl ?_
        refine we_iload_n (p := 97) dX12_next_96 rfl rfl ?_
        refine we_callV_int (p := 100) (k' := 0) (a := [.ref 95, .int (nI q)]) (rr := [.int (nI c), .ref 97]) dX12_next_97 rfl rfl rfl rfl (rc_of rfl rfl (by decide) ⟨rfl, by decide⟩) (Nat.le_of_ble_eq_true rfl) (Nat.le_of_ble_eq_true rfl) (by decide) (y_look1 hF (ht.f hI.1) hq) (Or.inl rfl) rfl ?_
        refine wf_iast (n := 8) (i := c) (p := 101) dX12_next_100 rfl (by decide) (in_nJ (by have := hc8; omega) (by decide)) (nI_cl (by omega)) rfl ?_
        refine we_aload_n (p := 102) dX12_next_101 rfl rfl ?_
        refine we_dup_ref (p := 103) dX12_next_102 rfl ?_
        refine wf_getI (c := 11) (j := 8) (n := 37) (v := nI c) (p := 106) dX12_next_103 rfl rfl (by decide) (by decide) (Or.inl rfl) ((congrFun (hu_ne (by decide)) 8).trans hI.2.2.1) rfl ?_
        refine we_iconst (v := 1) (p := 107) dX12_next_106 (by decide) rfl ?_
        refine we_iadd (p := 108) dX12_next_107 rfl ?_
        refine we_putI (c := 11) (j := 8) (n := 37)  (p := 111) dX12_next_108 rfl rfl (by decide) (by decide) rfl rfl rfl ?_
        refine we_iinc (ls1 := [.ref 95, .int ((nI q) + 1), .int v, .null]) (p := 114) dX12_next_111 rfl rfl rfl ?_
        refine we_goto (p := 67) dX12_next_114 (by decide) rfl ?_
        rw [nI_1, nI_1]
        rw [rn_y hq hl] at q0
        refine y_nx_W hF ht m (q + 1) (c + 1) _ (by omega) (by omega) ⟨(hI.1.u (by decide) (by decide) (by decide)).f (by omega) (by omega), (hu_nj (by decide)).trans ((congrFun (hu_ne (by decide)) 4).trans hI.2.1), hu_eq, fun i h1 h2 => ?_⟩ q0
        rw [hu_ne (by decide), hu_if]
        by_cases e : i = c
        · rw [if_pos e, e, ← hac]
        · rw [if_neg e]
          exact hI.2.2.2 i (by omega) h2
      · skip
        refine we_aload_n (p := 68) dX12_next_67 rfl rfl ?_
        refine we_iload_n (p := 69) dX12_next_68 rfl rfl ?_
        refine we_callV_int (p := 72) (k' := 0) (a := [.ref 95, .int (nI q)]) (rr := []) dX12_next_69 rfl rfl rfl rfl (rc_of rfl rfl (by decide) ⟨rfl, by decide⟩) (Nat.le_of_ble_eq_true rfl) (Nat.le_of_ble_eq_true rfl) (by decide) (y_look1 hF (ht.f hI.1) hq) (Or.inl rfl) rfl ?_
        refine we_callS_int (p := 75) (k' := 0) (a := [.int (nI (T q))]) (rr := []) dX12_next_72 rfl rfl rfl rfl rfl (rc_st rfl) (Nat.le_of_ble_eq_true rfl) (Nat.le_of_ble_eq_true rfl) (by decide) (Ev.i ((nB_L _ ((ht.f hI.1).2.2 _ hq).1).trans (if_pos hl)) y_isSmall) (Or.inl rfl) rfl ?_
        refine we_if_eq (t := 117) (p := 78) dX12_next_75 (by decide) rfl rfl (fun hc75 => absurd hc75 (by decide)) (fun hc75 => ?_)
        refine we_aload_n (p := 79) dX12_next_78 rfl rfl ?_
        refine wf_getI (c := 11) (j := 8) (n := 37) (v := nI c) (p := 82) dX12_next_79 rfl rfl (by decide) (by decide) (Or.inl rfl) hI.2.2.1 rfl ?_
        refine we_bipush (v := 8) (p := 84) dX12_next_82 (by decide) rfl ?_
        refine we_icmp_ge (t := 101) (p := 87) dX12_next_84 (by decide) rfl rfl (fun hc84 => ?_) (fun hc84 => absurd (nI_le (a := 8) (b := c) (by omega) (by omega)) hc84)
        refine we_aload_n (p := 102) dX12_next_101 rfl rfl ?_
        refine we_dup_ref (p := 103) dX12_next_102 rfl ?_
        refine wf_getI (c := 11) (j := 8) (n := 37) (v := nI c) (p := 106) dX12_next_103 rfl rfl (by decide) (by decide) (Or.inl rfl) hI.2.2.1 rfl ?_
        refine we_iconst (v := 1) (p := 107) dX12_next_106 (by decide) rfl ?_
        refine we_iadd (p := 108) dX12_next_107 rfl ?_
        refine we_putI (c := 11) (j := 8) (n := 37)  (p := 111) dX12_next_108 rfl rfl (by decide) (by decide) rfl rfl rfl ?_
        refine we_iinc (ls1 := [.ref 95, .int ((nI q) + 1), .int v, .null]) (p := 114) dX12_next_111 rfl rfl rfl ?_
        refine we_goto (p := 67) dX12_next_114 (by decide) rfl ?_
        rw [nI_1, nI_1]
        rw [rn_y hq hl] at q0
        refine y_nx_W hF ht m (q + 1) (c + 1) _ (by omega) (by omega) ⟨hI.1.f (by omega) (by omega), (hu_nj (by decide)).trans hI.2.1, hu_eq, fun i h1 h2 => ?_⟩ q0
        rw [hu_ne (by decide)]
        exact hI.2.2.2 i (by omega) h2
    · skip
      refine we_aload_n (p := 68) dX12_next_67 rfl rfl ?_
      refine we_iload_n (p := 69) dX12_next_68 rfl rfl ?_
      refine we_callV_int (p := 72) (k' := 0) (a := [.ref 95, .int (nI q)]) (rr := []) dX12_next_69 rfl rfl rfl rfl (rc_of rfl rfl (by decide) ⟨rfl, by decide⟩) (Nat.le_of_ble_eq_true rfl) (Nat.le_of_ble_eq_true rfl) (by decide) (y_look1 hF (ht.f hI.1) hq) (Or.inl rfl) rfl ?_
      refine we_callS_int (p := 75) (k' := 0) (a := [.int (nI (T q))]) (rr := []) dX12_next_72 rfl rfl rfl rfl rfl (rc_st rfl) (Nat.le_of_ble_eq_true rfl) (Nat.le_of_ble_eq_true rfl) (by decide) (Ev.i ((nB_L _ ((ht.f hI.1).2.2 _ hq).1).trans (if_neg hl)) y_isSmall) (Or.inl rfl) rfl ?_
      refine we_if_eq (t := 117) (p := 78) dX12_next_75 (by decide) rfl rfl (fun hc75 => ?_) (fun hc75 => absurd (by decide) hc75)
      rw [rn_n (fun z => hl z.2), show q - a = c by omega] at q0
      exact q0 _ hI
theorem nm_st {b x : Nat} (h : b < 256) (d : isDg b = true) : (10 * nI x + nI b - 48 : Int32) = nI (x * 10 + (b - 48)) := by
  have e : 48 ≤ b := by
    simp [isDg] at d
    omega
  rw [show (10 : Int32) = nI 10 from rfl, show (48 : Int32) = nI 48 from rfl, pk_mul, nI_add, pk_sub (by omega)]
  congr 1
  omega
set_option maxRecDepth 10000 in
theorem y_nx_D {J : Nat → Nat → Int64} {F : Nat → Nat → Option Nat} {nc ns : Nat} {T : Nat → Nat} {n : Nat} (hF : RFok F) {Q : Option Value → hp_H → Prop} {I0 : Nat → Nat → Int32} {x4 v : Int32} (ht : txM T n I0) : ∀ (m q c x : Nat) (I : Nat → Nat → Int32), q + m = n → c ≤ q → (Fm 97 98 4 9 I0 I ∧ I 95 4 = x4 ∧ I 95 7 = nI x) → (∀ I', (Fm 97 98 4 9 I0 I' ∧ I' 95 4 = x4 ∧ (c + (rn isDg T n q - q) ≤ 3 → I' 95 7 = nI (nmF T (rn isDg T n q - q) q x))) → Ew 1 mX12_next 197 [.ref 95, .int (nI (rn isDg T n q)), .int v, .int (nI (c + (rn isDg T n q - q)))] [] ((SH, nc, ns), I', J, F) Q) → Ew 1 mX12_next 152 [.ref 95, .int (nI q), .int v, .int (nI c)] [] ((SH, nc, ns), I, J, F) Q
  | 0, q, c, x, I, hj, hcq, hI => fun q0 => by
    have hn9 := ht.1
    refine we_aload_n (p := 153) dX12_next_152 rfl rfl ?_
    refine we_iload_n (p := 154) dX12_next_153 rfl rfl ?_
    refine we_callV_int (p := 157) (k' := 0) (a := [.ref 95, .int (nI q)]) (rr := []) dX12_next_154 rfl rfl rfl rfl (rc_of rfl rfl (by decide) ⟨rfl, by decide⟩) (Nat.le_of_ble_eq_true rfl) (Nat.le_of_ble_eq_true rfl) (by decide) (y_look0 hF (ht.f hI.1) (by omega)) (Or.inl rfl) rfl ?_
    refine we_callS_int (p := 160) (k' := 0) (a := [.int (-1)]) (rr := []) dX12_next_157 rfl rfl rfl rfl rfl (rc_st rfl) (Nat.le_of_ble_eq_true rfl) (Nat.le_of_ble_eq_true rfl) (by decide) (Ev.i (show inS (-1) 48 57 = 0 by decide) y_isDigit) (Or.inl rfl) rfl ?_
    refine we_if_eq (t := 197) (p := 163) dX12_next_160 (by decide) rfl rfl (fun hc160 => ?_) (fun hc160 => absurd (by decide) hc160)
    rw [rn_n (fun z => by omega), Nat.sub_self] at q0
    exact q0 _ ⟨hI.1, hI.2.1, fun _ => hI.2.2⟩
  | m + 1, q, c, x, I, hj, hcq, hI => fun q0 => by
    have hn9 := ht.1
    have hq : q < n := by omega
    by_cases hd : isDg (T q) = true
    · by_cases hc3 : c < 3
      · skip
        refine we_aload_n (p := 153) dX12_next_152 rfl rfl ?_
        refine we_iload_n (p := 154) dX12_next_153 rfl rfl ?_
        refine we_callV_int (p := 157) (k' := 0) (a := [.ref 95, .int (nI q)]) (rr := []) dX12_next_154 rfl rfl rfl rfl (rc_of rfl rfl (by decide) ⟨rfl, by decide⟩) (Nat.le_of_ble_eq_true rfl) (Nat.le_of_ble_eq_true rfl) (by decide) (y_look1 hF (ht.f hI.1) hq) (Or.inl rfl) rfl ?_
        refine we_callS_int (p := 160) (k' := 0) (a := [.int (nI (T q))]) (rr := []) dX12_next_157 rfl rfl rfl rfl rfl (rc_st rfl) (Nat.le_of_ble_eq_true rfl) (Nat.le_of_ble_eq_true rfl) (by decide) (Ev.i ((nB_D _ ((ht.f hI.1).2.2 _ hq).1).trans (if_pos hd)) y_isDigit) (Or.inl rfl) rfl ?_
        refine we_if_eq (t := 197) (p := 163) dX12_next_160 (by decide) rfl rfl (fun hc160 => absurd hc160 (by decide)) (fun hc160 => ?_)
        refine we_iload_n (p := 164) dX12_next_163 rfl rfl ?_
        refine we_iconst (v := 3) (p := 165) dX12_next_164 (by decide) rfl ?_
        refine we_icmp_ge (t := 188) (p := 168) dX12_next_165 (by decide) rfl rfl (fun hc165 => absurd hc165 (nI_ge (a := c) (b := 3) hc3 (by omega))) (fun hc165 => ?_)
        refine we_aload_n (p := 169) dX12_next_168 rfl rfl ?_
        refine we_bipush (v := 10) (p := 171) dX12_next_169 (by decide) rfl ?_
        refine we_aload_n (p := 172) dX12_next_171 rfl rfl ?_
        refine wf_getI (c := 11) (j := 7) (n := 37) (v := nI x) (p := 175) dX12_next_172 rfl rfl (by decide) (by decide) (Or.inl rfl) hI.2.2 rfl ?_
        refine we_imul (p := 176) dX12_next_175 rfl ?_
        refine we_aload_n (p := 177) dX12_next_176 rfl rfl ?_
        refine we_iload_n (p := 178) dX12_next_177 rfl rfl ?_
        refine we_callV_int (p := 181) (k' := 0) (a := [.ref 95, .int (nI q)]) (rr := [.int (10 * (nI x)), .ref 95]) dX12_next_178 rfl rfl rfl rfl (rc_of rfl rfl (by decide) ⟨rfl, by decide⟩) (Nat.le_of_ble_eq_true rfl) (Nat.le_of_ble_eq_true rfl) (by decide) (y_look1 hF (ht.f hI.1) hq) (Or.inl rfl) rfl ?_
        refine we_iadd (p := 182) dX12_next_181 rfl ?_
        refine we_bipush (v := 48) (p := 184) dX12_next_182 (by decide) rfl ?_
        refine we_isub (p := 185) dX12_next_184 rfl ?_
        refine we_putI (c := 11) (j := 7) (n := 37)  (p := 188) dX12_next_185 rfl rfl (by decide) (by decide) rfl rfl rfl ?_
        refine we_iinc (ls1 := [.ref 95, .int (nI q), .int v, .int ((nI c) + 1)]) (p := 191) dX12_next_188 rfl rfl rfl ?_
        refine we_iinc (ls1 := [.ref 95, .int ((nI q) + 1), .int v, .int ((nI c) + 1)]) (p := 194) dX12_next_191 rfl rfl rfl ?_
        refine we_goto (p := 152) dX12_next_194 (by decide) rfl ?_
        rw [nI_1, nI_1, show (10 * nI x + nI (T q) - 48 : Int32) = nI (x * 10 + (T q - 48)) from nm_st (ht.2.2 q hq).1 hd]
        have hge := rn_ge (f := isDg) (T := T) (n := n) (p := q + 1)
        rw [rn_y hq hd, show rn isDg T n (q + 1) - q = (rn isDg T n (q + 1) - (q + 1)) + 1 by omega, show c + (rn isDg T n (q + 1) - (q + 1) + 1) = c + 1 + (rn isDg T n (q + 1) - (q + 1)) by omega] at q0
        exact y_nx_D hF ht m (q + 1) (c + 1) _ _ (by omega) (by omega) ⟨hI.1.f (by omega) (by omega), (hu_nj (by decide)).trans hI.2.1, hu_eq⟩ (fun I9 h9 => q0 I9 ⟨h9.1, h9.2.1, fun z => h9.2.2 z⟩)
      · skip
        refine we_aload_n (p := 153) dX12_next_152 rfl rfl ?_
        refine we_iload_n (p := 154) dX12_next_153 rfl rfl ?_
        refine we_callV_int (p := 157) (k' := 0) (a := [.ref 95, .int (nI q)]) (rr := []) dX12_next_154 rfl rfl rfl rfl (rc_of rfl rfl (by decide) ⟨rfl, by decide⟩) (Nat.le_of_ble_eq_true rfl) (Nat.le_of_ble_eq_true rfl) (by decide) (y_look1 hF (ht.f hI.1) hq) (Or.inl rfl) rfl ?_
        refine we_callS_int (p := 160) (k' := 0) (a := [.int (nI (T q))]) (rr := []) dX12_next_157 rfl rfl rfl rfl rfl (rc_st rfl) (Nat.le_of_ble_eq_true rfl) (Nat.le_of_ble_eq_true rfl) (by decide) (Ev.i ((nB_D _ ((ht.f hI.1).2.2 _ hq).1).trans (if_pos hd)) y_isDigit) (Or.inl rfl) rfl ?_
        refine we_if_eq (t := 197) (p := 163) dX12_next_160 (by decide) rfl rfl (fun hc160 => absurd hc160 (by decide)) (fun hc160 => ?_)
        refine we_iload_n (p := 164) dX12_next_163 rfl rfl ?_
        refine we_iconst (v := 3) (p := 165) dX12_next_164 (by decide) rfl ?_
        refine we_icmp_ge (t := 188) (p := 168) dX12_next_165 (by decide) rfl rfl (fun hc165 => ?_) (fun hc165 => absurd (nI_le (a := 3) (b := c) (by omega) (by omega)) hc165)
        refine we_iinc (ls1 := [.ref 95, .int (nI q), .int v, .int ((nI c) + 1)]) (p := 191) dX12_next_188 rfl rfl rfl ?_
        refine we_iinc (ls1 := [.ref 95, .int ((nI q) + 1), .int v, .int ((nI c) + 1)]) (p := 194) dX12_next_191 rfl rfl rfl ?_
        refine we_goto (p := 152) dX12_next_194 (by decide) rfl ?_
        rw [nI_1, nI_1]
        have hge := rn_ge (f := isDg) (T := T) (n := n) (p := q + 1)
        rw [rn_y hq hd, show c + (rn isDg T n (q + 1) - q) = c + 1 + (rn isDg T n (q + 1) - (q + 1)) by omega] at q0
        exact y_nx_D hF ht m (q + 1) (c + 1) _ _ (by omega) (by omega) hI (fun I9 h9 => q0 I9 ⟨h9.1, h9.2.1, fun z => absurd z (by omega)⟩)
    · skip
      refine we_aload_n (p := 153) dX12_next_152 rfl rfl ?_
      refine we_iload_n (p := 154) dX12_next_153 rfl rfl ?_
      refine we_callV_int (p := 157) (k' := 0) (a := [.ref 95, .int (nI q)]) (rr := []) dX12_next_154 rfl rfl rfl rfl (rc_of rfl rfl (by decide) ⟨rfl, by decide⟩) (Nat.le_of_ble_eq_true rfl) (Nat.le_of_ble_eq_true rfl) (by decide) (y_look1 hF (ht.f hI.1) hq) (Or.inl rfl) rfl ?_
      refine we_callS_int (p := 160) (k' := 0) (a := [.int (nI (T q))]) (rr := []) dX12_next_157 rfl rfl rfl rfl rfl (rc_st rfl) (Nat.le_of_ble_eq_true rfl) (Nat.le_of_ble_eq_true rfl) (by decide) (Ev.i ((nB_D _ ((ht.f hI.1).2.2 _ hq).1).trans (if_neg hd)) y_isDigit) (Or.inl rfl) rfl ?_
      refine we_if_eq (t := 197) (p := 163) dX12_next_160 (by decide) rfl rfl (fun hc160 => ?_) (fun hc160 => absurd (by decide) hc160)
      rw [rn_n (fun z => hd z.2), Nat.sub_self] at q0
      exact q0 _ ⟨hI.1, hI.2.1, fun _ => hI.2.2⟩
