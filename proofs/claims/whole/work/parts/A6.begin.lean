/-! The class begins to read. -/
def vN (x : Int32) : Nat := x.toBitVec.toNat
theorem vN_eq (x : Int32) : x = nI (vN x) := by
  apply Int32.toBitVec_inj.mp
  unfold nI vN
  show x.toBitVec = BitVec.ofNat 32 _
  simp
def D0 (I : Nat → Nat → Int32) (o : Nat) : oD := fun j i => if j = 0 ∨ j = 1 then 0 else if j = 2 ∧ i < 7 then 0 else if j = 5 ∧ i < 6 then 0 else I (o + (j - 1)) i
def S0 (I : Nat → Nat → Int32) (o : Nat) : pZ := (0, 0, vN (I 3 15), 0, (fun _ => (0, 0, 0, 0)), D0 I o)
theorem dN_D0 {I : Nat → Nat → Int32} {o i : Nat} (h : i < 7) : dN (D0 I o) i = 0 := by
  have e : D0 I o 2 i = 0 := by
    unfold D0
    rw [if_neg (by omega), if_pos ⟨rfl, h⟩]
  unfold dN
  rw [e]
  rfl
theorem zI_S0 {T : Nat → Nat} {n o : Nat} {I : Nat → Nat → Int32} : zI T n (S0 I o) := by
  have h0 : ∀ i, i < 7 → dN (D0 I o) i = 0 := fun i hi => dN_D0 hi
  have e2 : ∀ i, i < 7 → D0 I o 2 i = 0 := fun i hi => by
    unfold D0
    rw [if_neg (by omega), if_pos ⟨rfl, hi⟩]
  have e1 : D0 I o 1 0 = 0 := if_pos (Or.inr rfl)
  have e00 : D0 I o 0 0 = 0 := if_pos (Or.inl rfl)
  refine ⟨Nat.zero_le _, ⟨fun i hi => ?_, ?_⟩, fun w hw => ?_, ⟨?_, ?_⟩, Or.inl ⟨e00, h0⟩, ⟨fun i hi => ?_, fun i hi => ?_, fun i hi => ?_, fun i hi => ?_, fun i hi => ?_, fun i hi => ?_, fun i hi => ?_⟩, ⟨?_, fun i hi => ?_, fun i j hi => ?_⟩⟩
  · show D0 I o 2 i = nI (dN (D0 I o) i)
    rw [e2 i hi, h0 i hi]
    rfl
  · show dN (D0 I o) 0 ≤ 6 ∧ _
    simp only [S0, h0 0 (by decide), h0 1 (by decide), h0 2 (by decide), h0 3 (by decide), h0 4 (by decide), h0 5 (by decide), h0 6 (by decide)]
    decide
  · exact absurd hw (by show ¬ w < dN (D0 I o) 2; rw [h0 2 (by decide)]; omega)
  · show D0 I o 1 0 = nI (tN (D0 I o))
    unfold tN
    rw [e1]
    rfl
  · show tN (D0 I o) ≤ 3
    unfold tN
    rw [e1]
    decide
  · exact absurd hi (by show ¬ i < dN (D0 I o) 0; rw [h0 0 (by decide)]; omega)
  · refine ⟨0, by show 0 < 2 ^ dN (D0 I o) 0; rw [h0 0 (by decide)]; decide, ?_⟩
    show D0 I o 5 i = nI 0
    unfold D0
    rw [if_neg (by omega), if_neg (by omega), if_pos ⟨rfl, hi⟩]
    rfl
  · exact absurd hi (by show ¬ i < dN (D0 I o) 2; rw [h0 2 (by decide)]; omega)
  · exact absurd hi (by show ¬ i < dN (D0 I o) 3; rw [h0 3 (by decide)]; omega)
  · exact absurd hi (by show ¬ i < dN (D0 I o) 4; rw [h0 4 (by decide)]; omega)
  · exact absurd hi (by show ¬ i < dN (D0 I o) 5; rw [h0 5 (by decide)]; omega)
  · exact absurd hi (by show ¬ i < dN (D0 I o) 6; rw [h0 6 (by decide)]; omega)
  · show 0 = dN (D0 I o) 0 + dN (D0 I o) 2 + dN (D0 I o) 5
    rw [h0 0 (by decide), h0 2 (by decide), h0 5 (by decide)]
  · exact absurd hi (by show ¬ i < 0; omega)
  · exact absurd hi (by show ¬ i < 0; omega)
set_option maxRecDepth 10000 in
theorem x_clear_1 {J : Nat → Nat → Int64} {F : Nat → Nat → Option Nat} {nc ns : Nat} {I0 : Nat → Nat → Int32} {o : Nat} (ho : isO o) (hF : RFok F)  {Q : Option Value → hp_H → Prop} : ∀ (m j : Nat) (I : Nat → Nat → Int32), j + m = 7 → ((∀ k, k ≠ o → k ≠ o + 1 → k ≠ o + 4 → I k = I0 k) ∧ (∀ i, 7 ≤ i → I (o + 1) i = I0 (o + 1) i) ∧ (∀ i, 6 ≤ i → I (o + 4) i = I0 (o + 4) i) ∧ I o 0 = 0 ∧ I o 1 = 0 ∧ ∀ i, i < j → I (o + 1) i = 0) → (∀ (I : Nat → Nat → Int32), ((∀ k, k ≠ o → k ≠ o + 1 → k ≠ o + 4 → I k = I0 k) ∧ (∀ i, 7 ≤ i → I (o + 1) i = I0 (o + 1) i) ∧ (∀ i, 6 ≤ i → I (o + 4) i = I0 (o + 4) i) ∧ I o 0 = 0 ∧ I o 1 = 0 ∧ ∀ i, i < 7 → I (o + 1) i = 0) → Ew 0 mX4_clear 34 [.ref o, .int (nI 7)] [] ((SH, nc, ns), I, J, F) Q) → Ew 0 mX4_clear 12 [.ref o, .int (nI j)] [] ((SH, nc, ns), I, J, F) Q
  | 0, j, I, hj, hI, hq => by
    obtain rfl : j = 7 := by omega
    refine we_iload_n (p := 13) dX4_clear_12 rfl rfl ?_
    refine we_aload_n (p := 14) dX4_clear_13 rfl rfl ?_
    refine we_getR (c := 4) (j := 2) (n := 18) (b := (o + 1)) (p := 17) dX4_clear_14 rfl (s_o ho) (l_o0 ho) (by decide) rfl (r_o2 hF ho) rfl ?_
    refine we_alen (c := 12) (n := 7) (v := 7) (p := 18) dX4_clear_17 (s_o1 ho) (l_o ho 1 (by decide)) (by decide) rfl rfl ?_
    refine we_icmp_ge (t := 34) (p := 21) dX4_clear_18 (by decide) rfl rfl (fun hc18 => ?_) (fun hc18 => absurd (nI_le (a := 7) (b := 7) (by omega) (by omega)) hc18)
    exact hq _  hI
  | m + 1, j, I, hj, hI, hq => by
    refine we_iload_n (p := 13) dX4_clear_12 rfl rfl ?_
    refine we_aload_n (p := 14) dX4_clear_13 rfl rfl ?_
    refine we_getR (c := 4) (j := 2) (n := 18) (b := (o + 1)) (p := 17) dX4_clear_14 rfl (s_o ho) (l_o0 ho) (by decide) rfl (r_o2 hF ho) rfl ?_
    refine we_alen (c := 12) (n := 7) (v := 7) (p := 18) dX4_clear_17 (s_o1 ho) (l_o ho 1 (by decide)) (by decide) rfl rfl ?_
    refine we_icmp_ge (t := 34) (p := 21) dX4_clear_18 (by decide) rfl rfl (fun hc18 => absurd hc18 (nI_ge (a := j) (b := 7) (by omega) (by omega))) (fun hc18 => ?_)
    refine we_aload_n (p := 22) dX4_clear_21 rfl rfl ?_
    refine we_getR (c := 4) (j := 2) (n := 18) (b := (o + 1)) (p := 25) dX4_clear_22 rfl (s_o ho) (l_o0 ho) (by decide) rfl (r_o2 hF ho) rfl ?_
    refine we_iload_n (p := 26) dX4_clear_25 rfl rfl ?_
    refine we_iconst (v := 0) (p := 27) dX4_clear_26 (by decide) rfl ?_
    refine wf_iast (n := 7) (i := j) (p := 28) dX4_clear_27 (s_o1 ho) (l_o ho 1 (by decide)) (in_nJ (by omega) (by decide)) (nI_cl (by omega)) rfl ?_
    refine we_iinc (ls1 := [.ref o, .int ((nI j) + 1)]) (p := 31) dX4_clear_28 rfl rfl rfl ?_
    refine we_goto (p := 12) dX4_clear_31 (by decide) rfl ?_
    rw [nI_1]
    refine x_clear_1 ho hF m (j + 1) _  (by omega) ?_ hq
    obtain ⟨h1, h2, h3, h4, h5, h6⟩ := hI
    refine ⟨fun k a b c => (hu_ne b).trans (h1 k a b c), fun i hi => (hu_nj (by omega)).trans (h2 i hi), fun i hi => (congrFun (hu_ne (by omega)) i).trans (h3 i hi), (congrFun (hu_ne (by omega)) 0).trans h4, (congrFun (hu_ne (by omega)) 1).trans h5, fun i hi => ?_⟩
    rw [hu_if]
    split
    · rfl
    · exact h6 i (by omega)
set_option maxRecDepth 10000 in
theorem x_clear_2 {J : Nat → Nat → Int64} {F : Nat → Nat → Option Nat} {nc ns : Nat} {I0 : Nat → Nat → Int32} {o : Nat} (ho : isO o) (hF : RFok F)  {Q : Option Value → hp_H → Prop} : ∀ (m j : Nat) (I : Nat → Nat → Int32), j + m = 6 → ((∀ k, k ≠ o → k ≠ o + 1 → k ≠ o + 4 → I k = I0 k) ∧ (∀ i, 7 ≤ i → I (o + 1) i = I0 (o + 1) i) ∧ (∀ i, 6 ≤ i → I (o + 4) i = I0 (o + 4) i) ∧ I o 0 = 0 ∧ I o 1 = 0 ∧ (∀ i, i < 7 → I (o + 1) i = 0) ∧ ∀ i, i < j → I (o + 4) i = 0) → (∀ (I : Nat → Nat → Int32), ((∀ k, k ≠ o → k ≠ o + 1 → k ≠ o + 4 → I k = I0 k) ∧ (∀ i, 7 ≤ i → I (o + 1) i = I0 (o + 1) i) ∧ (∀ i, 6 ≤ i → I (o + 4) i = I0 (o + 4) i) ∧ I o 0 = 0 ∧ I o 1 = 0 ∧ (∀ i, i < 7 → I (o + 1) i = 0) ∧ ∀ i, i < 6 → I (o + 4) i = 0) → Ew 0 mX4_clear 58 [.ref o, .int (nI 6)] [] ((SH, nc, ns), I, J, F) Q) → Ew 0 mX4_clear 36 [.ref o, .int (nI j)] [] ((SH, nc, ns), I, J, F) Q
  | 0, j, I, hj, hI, hq => by
    obtain rfl : j = 6 := by omega
    refine we_iload_n (p := 37) dX4_clear_36 rfl rfl ?_
    refine we_aload_n (p := 38) dX4_clear_37 rfl rfl ?_
    refine we_getR (c := 4) (j := 5) (n := 18) (b := (o + 4)) (p := 41) dX4_clear_38 rfl (s_o ho) (l_o0 ho) (by decide) rfl (r_o5 hF ho) rfl ?_
    refine we_alen (c := 12) (n := 6) (v := 6) (p := 42) dX4_clear_41 (s_o4 ho) (l_o ho 4 (by decide)) (by decide) rfl rfl ?_
    refine we_icmp_ge (t := 58) (p := 45) dX4_clear_42 (by decide) rfl rfl (fun hc42 => ?_) (fun hc42 => absurd (nI_le (a := 6) (b := 6) (by omega) (by omega)) hc42)
    exact hq _  hI
  | m + 1, j, I, hj, hI, hq => by
    refine we_iload_n (p := 37) dX4_clear_36 rfl rfl ?_
    refine we_aload_n (p := 38) dX4_clear_37 rfl rfl ?_
    refine we_getR (c := 4) (j := 5) (n := 18) (b := (o + 4)) (p := 41) dX4_clear_38 rfl (s_o ho) (l_o0 ho) (by decide) rfl (r_o5 hF ho) rfl ?_
    refine we_alen (c := 12) (n := 6) (v := 6) (p := 42) dX4_clear_41 (s_o4 ho) (l_o ho 4 (by decide)) (by decide) rfl rfl ?_
    refine we_icmp_ge (t := 58) (p := 45) dX4_clear_42 (by decide) rfl rfl (fun hc42 => absurd hc42 (nI_ge (a := j) (b := 6) (by omega) (by omega))) (fun hc42 => ?_)
    refine we_aload_n (p := 46) dX4_clear_45 rfl rfl ?_
    refine we_getR (c := 4) (j := 5) (n := 18) (b := (o + 4)) (p := 49) dX4_clear_46 rfl (s_o ho) (l_o0 ho) (by decide) rfl (r_o5 hF ho) rfl ?_
    refine we_iload_n (p := 50) dX4_clear_49 rfl rfl ?_
    refine we_iconst (v := 0) (p := 51) dX4_clear_50 (by decide) rfl ?_
    refine wf_iast (n := 6) (i := j) (p := 52) dX4_clear_51 (s_o4 ho) (l_o ho 4 (by decide)) (in_nJ (by omega) (by decide)) (nI_cl (by omega)) rfl ?_
    refine we_iinc (ls1 := [.ref o, .int ((nI j) + 1)]) (p := 55) dX4_clear_52 rfl rfl rfl ?_
    refine we_goto (p := 36) dX4_clear_55 (by decide) rfl ?_
    rw [nI_1]
    refine x_clear_2 ho hF m (j + 1) _  (by omega) ?_ hq
    obtain ⟨h1, h2, h3, h4, h5, h6, h7⟩ := hI
    refine ⟨fun k a b c => (hu_ne c).trans (h1 k a b c), fun i hi => (congrFun (hu_ne (by omega)) i).trans (h2 i hi), fun i hi => (hu_nj (by omega)).trans (h3 i hi), (congrFun (hu_ne (by omega)) 0).trans h4, (congrFun (hu_ne (by omega)) 1).trans h5, fun i hi => (congrFun (hu_ne (by omega)) i).trans (h6 i hi), fun i hi => ?_⟩
    rw [hu_if]
    split
    · rfl
    · exact h7 i (by omega)
set_option maxRecDepth 10000 in
theorem x_clear {J : Nat → Nat → Int64} {F : Nat → Nat → Option Nat} {nc ns : Nat} {I0 : Nat → Nat → Int32} {o : Nat} (ho : isO o) (hF : RFok F) : Ew 0 mX4_clear 0 [.ref o, .null] [] ((SH, nc, ns), I0, J, F) (Ret nc ns none (fun I' J' F' => J' = J ∧ F' = F ∧ ((∀ k, k ≠ o → k ≠ o + 1 → k ≠ o + 4 → I' k = I0 k) ∧ (∀ i, 7 ≤ i → I' (o + 1) i = I0 (o + 1) i) ∧ (∀ i, 6 ≤ i → I' (o + 4) i = I0 (o + 4) i) ∧ I' o 0 = 0 ∧ I' o 1 = 0 ∧ (∀ i, i < 7 → I' (o + 1) i = 0) ∧ ∀ i, i < 6 → I' (o + 4) i = 0))) := by
  refine we_aload_n (p := 1) dX4_clear_0 rfl rfl ?_
  refine we_iconst (v := 0) (p := 2) dX4_clear_1 (by decide) rfl ?_
  refine we_putI (c := 4) (j := 0) (n := 18)  (p := 5) dX4_clear_2 rfl (s_o ho) (l_o0 ho) (by decide) rfl rfl rfl ?_
  refine we_aload_n (p := 6) dX4_clear_5 rfl rfl ?_
  refine we_iconst (v := 0) (p := 7) dX4_clear_6 (by decide) rfl ?_
  refine we_putI (c := 4) (j := 1) (n := 18)  (p := 10) dX4_clear_7 rfl (s_o ho) (l_o0 ho) (by decide) rfl rfl rfl ?_
  refine we_iconst (v := 0) (p := 11) dX4_clear_10 (by decide) rfl ?_
  refine we_istore_n (ls1 := [.ref o, .int 0]) (p := 12) dX4_clear_11 rfl rfl ?_
  refine x_clear_1 (I0 := I0) ho hF 7 0 _ (by omega) ⟨fun k a b c => (hu_ne a).trans (hu_ne a), fun i hi => congrFun ((hu_ne (by omega)).trans (hu_ne (by omega))) i, fun i hi => congrFun ((hu_ne (by omega)).trans (hu_ne (by omega))) i, (hu_nj (by decide)).trans hu_eq, hu_eq, fun i hi => absurd hi (by omega)⟩ (fun I1 hI1 => ?_)
  refine we_iconst (v := 0) (p := 35) dX4_clear_34 (by decide) rfl ?_
  refine we_istore_n (ls1 := [.ref o, .int 0]) (p := 36) dX4_clear_35 rfl rfl ?_
  refine x_clear_2 (I0 := I0) ho hF 6 0 _ (by omega) ⟨hI1.1, hI1.2.1, hI1.2.2.1, hI1.2.2.2.1, hI1.2.2.2.2.1, hI1.2.2.2.2.2, fun i hi => absurd hi (by omega)⟩ (fun I2 hI2 => ?_)
  exact wv_ret dX4_clear_58 rfl (⟨rfl, _, _, _, rfl, rfl, rfl, hI2⟩)
def RdT (nc ns : Nat) (T : Nat → Nat) (n o : Nat) (I : Nat → Nat → Int32) (J : Nat → Nat → Int64) (F : Nat → Nat → Option Nat) (S' : pZ) : Option Value → hp_H → Prop := fun r h' => r = some (.int (nI (zF S'))) ∧ ∃ I' J', h' = ((SH, nc, ns), I', J', F) ∧ (∀ k, k ≠ 3 → k ≠ 23 → k ≠ 24 → (k < o ∨ o + 17 ≤ k) → I' k = I k) ∧ (∀ k, k ≠ 3 → k ≠ 22 → J' k = J k) ∧ ((zF S' = 0 ∧ oE I' o (zD S') ∧ zI T n S') ∨ (¬ zF S' = 0 ∧ I' 3 1 = nI (tS T n (zP S'))))
theorem max0 {N : Nat} (h : N < 1000) : (if (0 : Int32) < nI N then nI N else 0) = nI N := by
  by_cases c : N = 0
  · subst c
    decide
  · exact if_pos (nI_lt (a := 0) (b := N) (by omega) (by omega))
theorem oE_0 {I I' : Nat → Nat → Int32} {o : Nat} (h : (∀ k, k ≠ o → k ≠ o + 1 → k ≠ o + 4 → k ≠ 3 → I' k = I k) ∧ (∀ i, 7 ≤ i → I' (o + 1) i = I (o + 1) i) ∧ (∀ i, 6 ≤ i → I' (o + 4) i = I (o + 4) i) ∧ I' o 0 = 0 ∧ I' o 1 = 0 ∧ (∀ i, i < 7 → I' (o + 1) i = 0) ∧ ∀ i, i < 6 → I' (o + 4) i = 0) (ho : isO o) : oE I' o (D0 I o) := by
  obtain ⟨h1, h2, h3, h4, h5, h6, h7⟩ := h
  refine ⟨h4.trans (if_pos (Or.inl rfl)).symm, h5.trans (if_pos (Or.inr rfl)).symm, fun j q1 q2 => ?_⟩
  funext i
  unfold D0
  rw [if_neg (by omega)]
  by_cases c2 : j = 2
  · subst c2
    by_cases c : i < 7
    · rw [if_pos ⟨rfl, c⟩]
      exact h6 i c
    · rw [if_neg (fun z => c z.2), if_neg (fun z => by omega)]
      exact h2 i (by omega)
  · rw [if_neg (fun z => c2 z.1)]
    by_cases c5 : j = 5
    · subst c5
      by_cases c : i < 6
      · rw [if_pos ⟨rfl, c⟩]
        exact h7 i c
      · rw [if_neg (fun z => c z.2)]
        exact h3 i (by omega)
    · rw [if_neg (fun z => c5 z.1)]
      exact congrFun (h1 _ (by omega) (by omega) (by omega) (by rcases ho with rfl | rfl <;> omega)) i
set_option maxRecDepth 10000 in
theorem x_read {I : Nat → Nat → Int32} {J : Nat → Nat → Int64} {F : Nat → Nat → Option Nat} {nc ns : Nat} {T : Nat → Nat} {N o : Nat} (ho : isO o) (hF : RFok F) (hdF : F 3 0 = some o) (hN : N ≤ 900) (htx : ∀ i, i < N → T i < 256 ∧ I 2 i = sB (T i)) (hkw : ∀ k, k < 25 → J 21 k = lN (KWf k)) : Ew 6 mX7_read 0 [.ref 3, .int (nI N), .null, .null] [] ((SH, nc, ns), I, J, F) (RdT nc ns T N o I J F (pRd T N 901 (S0 I o))) := by
  refine we_aload_n (p := 1) dX7_read_0 rfl rfl ?_
  refine we_iconst (v := 0) (p := 2) dX7_read_1 (by decide) rfl ?_
  refine we_iload_n (p := 3) dX7_read_2 rfl rfl ?_
  refine we_aload_n (p := 4) dX7_read_3 rfl rfl ?_
  refine we_getR (c := 7) (j := 2) (n := 16) (b := 2) (p := 7) dX7_read_4 rfl rfl (by decide) (by decide) rfl (r_3_2 hF) rfl ?_
  refine we_alen (c := 14) (n := 900) (v := 900) (p := 8) dX7_read_7 rfl (by decide) (by decide) rfl rfl ?_
  refine we_min (p := 11) dX7_read_8 rfl (Nat.le_of_ble_eq_true rfl) rfl ?_
  rw [if_neg (show ¬ (900 : Int32) < nI N from nI_nlt (a := 900) (b := N) hN (by omega))]
  refine we_max (p := 14) dX7_read_11 rfl (Nat.le_of_ble_eq_true rfl) rfl ?_
  rw [max0 (by omega)]
  refine we_putI (c := 7) (j := 8) (n := 16)  (p := 17) dX7_read_14 rfl rfl (by decide) (by decide) rfl rfl rfl ?_
  refine we_aload_n (p := 18) dX7_read_17 rfl rfl ?_
  refine we_iconst (v := 0) (p := 19) dX7_read_18 (by decide) rfl ?_
  refine we_putI (c := 7) (j := 9) (n := 16)  (p := 22) dX7_read_19 rfl rfl (by decide) (by decide) rfl rfl rfl ?_
  refine we_aload_n (p := 23) dX7_read_22 rfl rfl ?_
  refine we_iconst (v := 0) (p := 24) dX7_read_23 (by decide) rfl ?_
  refine we_putI (c := 7) (j := 7) (n := 16)  (p := 27) dX7_read_24 rfl rfl (by decide) (by decide) rfl rfl rfl ?_
  refine we_aload_n (p := 28) dX7_read_27 rfl rfl ?_
  refine we_iconst (v := 0) (p := 29) dX7_read_28 (by decide) rfl ?_
  refine we_putI (c := 7) (j := 10) (n := 16)  (p := 32) dX7_read_29 rfl rfl (by decide) (by decide) rfl rfl rfl ?_
  refine we_aload_n (p := 33) dX7_read_32 rfl rfl ?_
  refine we_getR (c := 7) (j := 0) (n := 16) (b := o) (p := 36) dX7_read_33 rfl rfl (by decide) (by decide) rfl hdF rfl ?_
  obtain ⟨_, _, e1, rfl, I1, J1, F1, rfl, ⟨rfl, rfl, q1⟩⟩ := x_clear (I0 := (hp_u (hp_u (hp_u (hp_u I 3 8 (nI N)) 3 9 0) 3 7 0) 3 10 0)) ho hF
  refine we_callV_v (p := 39) (k' := 0) (a := [.ref o]) (rr := []) dX7_read_36 rfl rfl rfl rfl (rc_of rfl (s_o ho) (l_o0 ho) ⟨rfl, by decide⟩) (Nat.le_of_ble_eq_true rfl) (Nat.le_of_ble_eq_true rfl) (by decide) e1 (Or.inl rfl) rfl ?_
  refine we_aload_n (p := 40) dX7_read_39 rfl rfl ?_
  obtain ⟨_, _, e2, rfl, I2, J2, F2, rfl, ⟨rfl, a2, r2⟩⟩ := x_advance (I := I1) (T := T) (n := N) (p := 0) hF ⟨hN, (congrFun (q1.1 3 (by rcases ho with rfl | rfl <;> decide) (by rcases ho with rfl | rfl <;> decide) (by rcases ho with rfl | rfl <;> decide)) 8).trans rfl, fun i hi => by rw [q1.1 2 (by rcases ho with rfl | rfl <;> decide) (by rcases ho with rfl | rfl <;> decide) (by rcases ho with rfl | rfl <;> decide)]; exact htx i hi, hkw⟩ (Nat.zero_le _) ((congrFun (q1.1 3 (by rcases ho with rfl | rfl <;> decide) (by rcases ho with rfl | rfl <;> decide) (by rcases ho with rfl | rfl <;> decide)) 9).trans rfl)
  refine we_callV_v (p := 43) (k' := 2) (a := [.ref 3]) (rr := []) dX7_read_40 rfl rfl rfl rfl (rc_of rfl rfl (by decide) ⟨rfl, by decide⟩) (Nat.le_of_ble_eq_true rfl) (Nat.le_of_ble_eq_true rfl) (by decide) e2 (Or.inl rfl) rfl ?_
  refine we_iconst (v := 0) (p := 44) dX7_read_43 (by decide) rfl ?_
  refine we_istore_n (ls1 := [.ref 3, .int (nI N), .int 0, .null]) (p := 45) dX7_read_44 rfl rfl ?_
  have e3 : ∀ j, j ≠ 1 → j ≠ 9 → j ≠ 11 → j ≠ 13 → j ≠ 14 → j ≠ 8 → j ≠ 7 → j ≠ 10 → I2 3 j = I 3 j := fun j h1 h2 h3 h4 h5 h6 h7 h8 => (a2.2.1 j h1 h2 h3 h4 h5).trans ((congrFun (q1.1 3 (by rcases ho with rfl | rfl <;> decide) (by rcases ho with rfl | rfl <;> decide) (by rcases ho with rfl | rfl <;> decide)) j).trans (by rw [hu_nj h8, hu_nj h7, hu_nj h2, hu_nj h6]))
  have ek : ∀ k, k ≠ 3 → k ≠ o → k ≠ o + 1 → k ≠ o + 4 → I2 k = I k := fun k h1 h2 h3 h4 => (a2.1 k h1).trans ((q1.1 k h2 h3 h4).trans (by rw [hu_ne h1, hu_ne h1, hu_ne h1, hu_ne h1]))
  have on3 : ∀ j, j < 17 → o + j ≠ 3 := fun j hj => by rcases ho with rfl | rfl <;> omega
  have hoe : oE I2 o (D0 I o) := by
    refine oE_0 ⟨fun k b c d e => ek k e b c d, fun i hi => ?_, fun i hi => ?_, ?_, ?_, fun i hi => ?_, fun i hi => ?_⟩ ho
    · rw [a2.1 _ (on3 1 (by decide)), q1.2.1 i hi, hu_ne (on3 1 (by decide)), hu_ne (on3 1 (by decide)), hu_ne (on3 1 (by decide)), hu_ne (on3 1 (by decide))]
    · rw [a2.1 _ (on3 4 (by decide)), q1.2.2.1 i hi, hu_ne (on3 4 (by decide)), hu_ne (on3 4 (by decide)), hu_ne (on3 4 (by decide)), hu_ne (on3 4 (by decide))]
    · rw [a2.1 o (on3 0 (by decide))]
      exact q1.2.2.2.1
    · rw [a2.1 o (on3 0 (by decide))]
      exact q1.2.2.2.2.1
    · rw [a2.1 _ (on3 1 (by decide))]
      exact q1.2.2.2.2.2.1 i hi
    · rw [a2.1 _ (on3 4 (by decide))]
      exact q1.2.2.2.2.2.2 i hi
  have h7 : I2 3 7 = nI 0 := (a2.2.1 7 (by decide) (by decide) (by decide) (by decide) (by decide)).trans ((congrFun (q1.1 3 (by rcases ho with rfl | rfl <;> decide) (by rcases ho with rfl | rfl <;> decide) (by rcases ho with rfl | rfl <;> decide)) 7).trans rfl)
  have h8 : I2 3 8 = nI N := (a2.2.1 8 (by decide) (by decide) (by decide) (by decide) (by decide)).trans ((congrFun (q1.1 3 (by rcases ho with rfl | rfl <;> decide) (by rcases ho with rfl | rfl <;> decide) (by rcases ho with rfl | rfl <;> decide)) 8).trans rfl)
  have hc2 : cS T N o (S0 I o) I2 J2 := ⟨r2, Nat.zero_le _, h7, ⟨Nat.zero_le _, fun i hi => absurd hi (by show ¬ i < 0; omega)⟩, fun i hi => absurd hi (by show ¬ i < 0; omega), (e3 15 (by decide) (by decide) (by decide) (by decide) (by decide) (by decide) (by decide) (by decide)).trans (vN_eq _), hoe⟩
  have ht2 : txC T N I2 J2 := ⟨hN, h8, fun i hi => by rw [ek 2 (by decide) (by rcases ho with rfl | rfl <;> decide) (by rcases ho with rfl | rfl <;> decide) (by rcases ho with rfl | rfl <;> decide)]; exact htx i hi, fun k hk => by rw [a2.2.2 21 (by decide)]; exact hkw k hk⟩
  refine (x_read_L ho hF hdF 901 0 (S0 I o) I2 J2 _ (by omega) rfl zI_S0 (Nat.zero_le _) ht2 hc2).mono ?_
  rintro r h ⟨h1, I9, J9, h2, h4, h5⟩
  refine ⟨h1, I9, J9, h2, fun k b c d e => (h4.1 k b c d e).trans (ek k b (by omega) (by omega) (by omega)), fun k b c => (h4.2.2 k b c).trans (a2.2.2 k b), ?_⟩
  rcases h5 with ⟨z1, z2, z3⟩ | z
  · exact Or.inl ⟨z1, z2.2.2.2.2.2.2, z3⟩
  · exact Or.inr z
