/-! The reference reads names. -/
def FrL (I I' : Nat → Nat → Int32) : Prop := (∀ k, k ≠ 95 → k ≠ 97 → k ≠ 99 → I' k = I k) ∧ ∀ j, (j < 4 ∨ 10 < j) → j ≠ 13 → I' 95 j = I 95 j
section
variable {I I' I'' : Nat → Nat → Int32} {T : Nat → Nat} {n p : Nat} {S : pZ}
theorem FrL.rf : FrL I I := ⟨fun _ _ _ _ => rfl, fun _ _ _ => rfl⟩
theorem FrL.tr (h : FrL I I') (h2 : FrL I' I'') : FrL I I'' := ⟨fun k a b c => (h2.1 k a b c).trans (h.1 k a b c), fun j a b => (h2.2 j a b).trans (h.2 j a b)⟩
theorem FrT.l (h : FrT I I') : FrL I I' := ⟨fun k a b _ => h.1 k a b, h.2⟩
theorem FrL.u {j : Nat} {v : Int32} (h : FrL I I') : FrL I (hp_u I' 99 j v) := ⟨fun k a b c => (hu_ne c).trans (h.1 k a b c), fun i a b => (congrFun (hu_ne (by decide)) i).trans (h.2 i a b)⟩
theorem oM_99 {D : oD} (h : oM I 99 D) (hD : WFc D) (e : ∀ i, i < 105 → I' 99 i = I 99 i) : oM I' 99 D := by
  obtain ⟨a0, a1, a2, a3, a4, a5, a6, a7, a8, a9⟩ := h
  obtain ⟨-, b0, b1, b2, b3, b4, b5, b6⟩ := hD
  refine ⟨by rw [e _ (by omega)]; exact a0, by rw [e _ (by omega)]; exact a1, fun i hi => by rw [e _ (by omega)]; exact a2 i hi, fun i hi => ?_, fun i hi => by rw [e _ (by omega)]; exact a4 i hi, fun i hi => ?_, fun i hi => ?_, fun i hi => ?_, fun i hi => ?_, fun i hi => ?_⟩
  · rw [e _ (by omega), e _ (by omega)]
    exact a3 i hi
  · rw [e _ (by omega), e _ (by omega), e _ (by omega), e _ (by omega)]
    exact a5 i hi
  · rw [e _ (by omega), e _ (by omega)]
    exact a6 i hi
  · rw [e _ (by omega), e _ (by omega)]
    exact a7 i hi
  · rw [e _ (by omega), e _ (by omega)]
    exact a8 i hi
  · rw [e _ (by omega), e _ (by omega)]
    exact a9 i hi
def rwO (so row : Nat) : Prop := (so = 0 ∧ row < 6) ∨ (so = 2 ∧ row < 8) ∨ (so = 5 ∧ row < 5)
def slO (so row : Nat) : Nat := slt (0, 0, so, row)
theorem slO_lt {so row : Nat} (h : rwO so row) : slO so row < 19 := by
  unfold rwO at h
  show (if so = 0 then row else if so = 2 then 6 + row else 14 + row) < 19
  repeat' split
  all_goals omega
theorem cM_add {so row : Nat} (hm : tM T n (zP S) I) (hc : cM T S I) (hk : tK T n (zP S) = 1) (hK : zK T n S = none) (hrow : rwO so row) (hfree : ∀ i, i < zC S → ¬ slt (zN S i) = slO so row) (hD : WFc (zD S)) (h1 : ∀ i, i < 105 → I' 99 i = I 99 i) (h2 : ∀ i, 105 ≤ i → i < 124 → i ≠ 105 + slO so row → I' 99 i = I 99 i) (h3 : ∀ i, 124 ≤ i → (i < 124 + 8 * slO so row ∨ 132 + 8 * slO so row ≤ i) → I' 99 i = I 99 i) (h4 : I' 99 (105 + slO so row) = nI (rn isLt T n (tS T n (zP S)) - tS T n (zP S))) (h5 : ∀ k, k < rn isLt T n (tS T n (zP S)) - tS T n (zP S) → I' 99 (124 + 8 * slO so row + k) = nI (T (tS T n (zP S) + k))) : cM T (pAv T n (pAd T n so row S)) I' := by
  obtain ⟨k1, k2, k3, k4⟩ := tK1 hk
  obtain ⟨c1, ⟨m1, m2⟩, hV⟩ := hc
  have hs := slO_lt hrow
  have eC : zC (pAv T n (pAd T n so row S)) = zC S + 1 := rfl
  have eN : ∀ i, i < zC S → zN (pAv T n (pAd T n so row S)) i = zN S i := fun i hi => if_neg (by omega)
  have eL : zN (pAv T n (pAd T n so row S)) (zC S) = (tS T n (zP S), rn isLt T n (tS T n (zP S)), so, row) := if_pos rfl
  have sL : slt (zN (pAv T n (pAd T n so row S)) (zC S)) = slO so row := by rw [eL]; rfl
  refine ⟨oM_99 c1 hD h1, ⟨fun i hi => ?_, fun t ht hu => ?_⟩, fun i hi => ?_, fun i j hi hj hij => ?_⟩
  · by_cases c : i = zC S
    · subst c
      rw [sL, eL]
      exact ⟨h4, h5⟩
    · have hi2 : i < zC S := by rw [eC] at hi; omega
      have hi3 := hfree i hi2
      have hi4 := slt_lt hV hi2
      have hv := hV.1 i hi2
      rw [eN i hi2]
      obtain ⟨a, b⟩ := m1 i hi2
      refine ⟨by rw [h2 _ (by omega) (by omega) (by omega)]; exact a, fun k hk => ?_⟩
      rw [h3 _ (by omega) (by omega)]
      exact b k hk
  · have e : ¬ slO so row = t := by
      have := hu (zC S) (by rw [eC]; omega)
      rw [sL] at this
      exact this
    rw [h2 _ (by omega) (by omega) (by omega)]
    refine m2 t ht (fun i hi => ?_)
    have := hu i (by rw [eC]; omega)
    rw [eN i hi] at this
    exact this
  · by_cases c : i = zC S
    · subst c
      rw [eL]
      exact ⟨k4, k2, k3, hrow⟩
    · have hi2 : i < zC S := by rw [eC] at hi; omega
      rw [eN i hi2]
      exact hV.1 i hi2
  · have nn := fnd_none _ _ hK
    by_cases c : i = zC S
    · subst c
      have hj2 : j < zC S := by rw [eC] at hj; omega
      rw [eL, eN j hj2]
      exact fun z => nn j (by omega) (by omega) z.symm
    · have hi2 : i < zC S := by rw [eC] at hi; omega
      rw [eN i hi2]
      by_cases d : j = zC S
      · subst d
        rw [eL]
        exact nn i (by omega) (by omega)
      · have hj2 : j < zC S := by rw [eC] at hj; omega
        rw [eN j hj2]
        exact hV.2 i j hi2 hj2 hij
theorem in_sl {so lo hi : Nat} (hso : (so = 0 ∧ lo = 0 ∧ hi = 5) ∨ (so = 2 ∧ lo = 6 ∧ hi = 13)) (h : nmV T S) {i : Nat} (hi2 : i < zC S) : ((lo ≤ slt (zN S i) ∧ slt (zN S i) ≤ hi) ↔ (zN S i).2.2.1 = so) ∧ ((zN S i).2.2.1 = so → slt (zN S i) = lo + (zN S i).2.2.2) := by
  obtain ⟨-, -, -, h4⟩ := h.1 i hi2
  unfold slt
  repeat' split
  all_goals omega
end
def RmN (nc ns : Nat) (T : Nat → Nat) (n : Nat) (I : Nat → Nat → Int32) (J : Nat → Nat → Int64) (F : Nat → Nat → Option Nat) (S' : pZ) : Option Value → hp_H → Prop := fun r h' => ∃ I', h' = ((SH, nc, ns), I', J, F) ∧ FrL I I' ∧ ((zF S' = 0 ∧ r = none ∧ tM T n (zP S') I' ∧ cM T S' I' ∧ ∀ i, i < 105 → I' 99 i = I 99 i) ∨ (¬ zF S' = 0 ∧ r = none ∧ mF T n S' I'))
set_option maxRecDepth 10000 in
theorem y_named_f {I : Nat → Nat → Int32} {J : Nat → Nat → Int64} {F : Nat → Nat → Option Nat} {nc ns : Nat} (hF : RFok F) (hf : I 95 13 = 1) {x y : Int32}  : Ev 4 mX12_named 0 [.ref 95, .int x, .int y, .null] [] ((SH, nc, ns), I, J, F) (some (.int 0)) ((SH, nc, ns), I, J, F) := by
  refine e_aload_n (p := 1) dX12_named_0 rfl rfl ?_
  refine f_getI (c := 11) (j := 13) (n := 37) (v := 1) (p := 4) dX12_named_1 rfl rfl (by decide) (by decide) (Or.inr rfl) hf rfl ?_
  refine e_if_eq (t := 9) (p := 7) dX12_named_4 (by decide) rfl rfl (fun hc4 => absurd hc4 (by decide)) (fun hc4 => ?_)
  refine e_iconst (v := 0) (p := 8) dX12_named_7 (by decide) rfl ?_
  exact e_iretE dX12_named_8 rfl rfl (by decide) ⟨rfl, rfl⟩
theorem in_m1 {a b : Nat} (ha : a < 1000) : inS (-1) (nI a) (nI b) = 0 := by
  have : ∀ a, a < 1000 → (-1 : Int32) < nI a := by decide +kernel
  unfold inS
  rw [if_pos (this a ha)]
set_option maxRecDepth 10000 in
theorem y_named {I : Nat → Nat → Int32} {J : Nat → Nat → Int64} {F : Nat → Nat → Option Nat} {nc ns : Nat} {T : Nat → Nat} {n : Nat} {S : pZ} (hF : RFok F) (hm : tM T n (zP S) I) (hz : zF S = 0) (hc : cM T S I) {so lo hi : Nat} (hso : (so = 0 ∧ lo = 0 ∧ hi = 5) ∨ (so = 2 ∧ lo = 6 ∧ hi = 13)) : Ew 4 mX12_named 0 [.ref 95, .int (nI lo), .int (nI hi), .null] [] ((SH, nc, ns), I, J, F) (RmP nc ns T n I J F (pFn T n so S) (some (.int 0)) (some (.int (nI (zV (pFn T n so S)))))) := by
  by_cases hn : isNm T n (zP S)
  · obtain ⟨k1, k2, k3, k4⟩ := tK1 hn.1
    cases hK : zK T n S with
    | none =>
      have hE : pFn T n so S = pFl 2 S := by
        unfold pFn
        rw [if_pos hn, hK]
      refine we_aload_n (p := 1) dX12_named_0 rfl rfl ?_
      refine wf_getI (c := 11) (j := 13) (n := 37) (v := 0) (p := 4) dX12_named_1 rfl rfl (by decide) (by decide) (Or.inr rfl) hm.2.2.2.1 rfl ?_
      refine we_if_eq (t := 9) (p := 7) dX12_named_4 (by decide) rfl rfl (fun hc4 => ?_) (fun hc4 => absurd (by decide) hc4)
      refine we_aload_n (p := 10) dX12_named_9 rfl rfl ?_
      refine we_callV_v (p := 13) (k' := 3) (a := [.ref 95]) (rr := []) dX12_named_10 rfl rfl rfl rfl (rc_of rfl rfl (by decide) ⟨rfl, by decide⟩) (Nat.le_of_ble_eq_true rfl) (Nat.le_of_ble_eq_true rfl) (by decide) (y_mustName hF hm hn) (Or.inl rfl) rfl ?_
      refine we_aload_n (p := 14) dX12_named_13 rfl rfl ?_
      refine wf_getI (c := 11) (j := 13) (n := 37) (v := 0) (p := 17) dX12_named_14 rfl rfl (by decide) (by decide) (Or.inr rfl) hm.2.2.2.1 rfl ?_
      refine we_if_eq (t := 22) (p := 20) dX12_named_17 (by decide) rfl rfl (fun hc17 => ?_) (fun hc17 => absurd (by decide) hc17)
      refine we_aload_n (p := 23) dX12_named_22 rfl rfl ?_
      refine we_callV_int (p := 26) (k' := 0) (a := [.ref 95]) (rr := []) dX12_named_23 rfl rfl rfl rfl (rc_of rfl rfl (by decide) ⟨rfl, by decide⟩) (Nat.le_of_ble_eq_true rfl) (Nat.le_of_ble_eq_true rfl) (by decide) (Ev.i ((fd_zK hm hc hn.1).trans (show plM S (zK T n S) = -1 from congrArg (plM S) hK)) (y_find hF (hm.2.2.1.2.2.2.1 hn.1).1 (by omega) (by omega))) (Or.inl rfl) rfl ?_
      refine we_istore_n (ls1 := [.ref 95, .int (nI lo), .int (nI hi), .int (-1)]) (p := 27) dX12_named_26 rfl rfl ?_
      refine we_iload_n (p := 28) dX12_named_27 rfl rfl ?_
      refine we_iload_n (p := 29) dX12_named_28 rfl rfl ?_
      refine we_iload_n (p := 30) dX12_named_29 rfl rfl ?_
      refine we_callS_int (p := 33) (k' := 0) (a := [.int (-1), .int (nI lo), .int (nI hi)]) (rr := []) dX12_named_30 rfl rfl rfl rfl rfl (rc_st rfl) (Nat.le_of_ble_eq_true rfl) (Nat.le_of_ble_eq_true rfl) (by decide) (Ev.i ((in_m1 (by omega))) y_in) (Or.inl rfl) rfl ?_
      refine we_if_ne (t := 45) (p := 36) dX12_named_33 (by decide) rfl rfl (fun hc33 => absurd (by decide) hc33) (fun hc33 => ?_)
      refine we_aload_n (p := 37) dX12_named_36 rfl rfl ?_
      refine we_iconst (v := 2) (p := 38) dX12_named_37 (by decide) rfl ?_
      refine we_aload_n (p := 39) dX12_named_38 rfl rfl ?_
      refine wf_getI (c := 11) (j := 4) (n := 37) (v := nI (tS T n (zP S))) (p := 42) dX12_named_39 rfl rfl (by decide) (by decide) (Or.inl rfl) hm.2.2.1.1 rfl ?_
      refine we_callV_v (p := 45) (k' := 0) (a := [.ref 95, .int 2, .int (nI (tS T n (zP S)))]) (rr := []) dX12_named_42 rfl rfl rfl rfl (rc_of rfl rfl (by decide) ⟨rfl, by decide⟩) (Nat.le_of_ble_eq_true rfl) (Nat.le_of_ble_eq_true rfl) (by decide) (y_wrong hF hm.2.2.2.1) (Or.inl rfl) rfl ?_
      refine we_aload_n (p := 46) dX12_named_45 rfl rfl ?_
      refine wf_getI (c := 11) (j := 13) (n := 37) (v := 1) (p := 49) dX12_named_46 rfl rfl (by decide) (by decide) (Or.inr rfl) wr13 rfl ?_
      refine we_if_eq (t := 56) (p := 52) dX12_named_49 (by decide) rfl rfl (fun hc49 => absurd hc49 (by decide)) (fun hc49 => ?_)
      refine we_iconst (v := 0) (p := 53) dX12_named_52 (by decide) rfl ?_
      refine we_goto (p := 59) dX12_named_53 (by decide) rfl ?_
      exact wi_ret dX12_named_59 rfl rfl (by decide) (⟨_, rfl, FrT.wr, Or.inr ⟨by rw [hE]; show ¬ (2 : Nat) = 0; decide, rfl, by rw [hE]; exact mF.wr (k := 2) rfl rfl⟩⟩)
    | some i =>
      obtain ⟨-, hi2, -⟩ := fnd_lt _ _ _ hK
      rw [Nat.zero_add] at hi2
      have h19 := slt_lt hc.2.2 hi2
      by_cases hs : (zN S i).2.2.1 = so
      · have hE : pFn T n so S = pVl (zN S i).2.2.2 S := by
          unfold pFn
          rw [if_pos hn, hK]
          exact if_pos hs
        have hin := (in_sl hso hc.2.2 hi2).1.mpr hs
        refine we_aload_n (p := 1) dX12_named_0 rfl rfl ?_
        refine wf_getI (c := 11) (j := 13) (n := 37) (v := 0) (p := 4) dX12_named_1 rfl rfl (by decide) (by decide) (Or.inr rfl) hm.2.2.2.1 rfl ?_
        refine we_if_eq (t := 9) (p := 7) dX12_named_4 (by decide) rfl rfl (fun hc4 => ?_) (fun hc4 => absurd (by decide) hc4)
        refine we_aload_n (p := 10) dX12_named_9 rfl rfl ?_
        refine we_callV_v (p := 13) (k' := 3) (a := [.ref 95]) (rr := []) dX12_named_10 rfl rfl rfl rfl (rc_of rfl rfl (by decide) ⟨rfl, by decide⟩) (Nat.le_of_ble_eq_true rfl) (Nat.le_of_ble_eq_true rfl) (by decide) (y_mustName hF hm hn) (Or.inl rfl) rfl ?_
        refine we_aload_n (p := 14) dX12_named_13 rfl rfl ?_
        refine wf_getI (c := 11) (j := 13) (n := 37) (v := 0) (p := 17) dX12_named_14 rfl rfl (by decide) (by decide) (Or.inr rfl) hm.2.2.2.1 rfl ?_
        refine we_if_eq (t := 22) (p := 20) dX12_named_17 (by decide) rfl rfl (fun hc17 => ?_) (fun hc17 => absurd (by decide) hc17)
        refine we_aload_n (p := 23) dX12_named_22 rfl rfl ?_
        refine we_callV_int (p := 26) (k' := 0) (a := [.ref 95]) (rr := []) dX12_named_23 rfl rfl rfl rfl (rc_of rfl rfl (by decide) ⟨rfl, by decide⟩) (Nat.le_of_ble_eq_true rfl) (Nat.le_of_ble_eq_true rfl) (by decide) (Ev.i ((fd_zK hm hc hn.1).trans (show plM S (zK T n S) = nI (slt (zN S i)) from congrArg (plM S) hK)) (y_find hF (hm.2.2.1.2.2.2.1 hn.1).1 (by omega) (by omega))) (Or.inl rfl) rfl ?_
        refine we_istore_n (ls1 := [.ref 95, .int (nI lo), .int (nI hi), .int (nI (slt (zN S i)))]) (p := 27) dX12_named_26 rfl rfl ?_
        refine we_iload_n (p := 28) dX12_named_27 rfl rfl ?_
        refine we_iload_n (p := 29) dX12_named_28 rfl rfl ?_
        refine we_iload_n (p := 30) dX12_named_29 rfl rfl ?_
        refine we_callS_int (p := 33) (k' := 0) (a := [.int (nI (slt (zN S i))), .int (nI lo), .int (nI hi)]) (rr := []) dX12_named_30 rfl rfl rfl rfl rfl (rc_st rfl) (Nat.le_of_ble_eq_true rfl) (Nat.le_of_ble_eq_true rfl) (by decide) (Ev.i (in_ok ((in_sl hso hc.2.2 hi2).1.mpr hs).1 ((in_sl hso hc.2.2 hi2).1.mpr hs).2 (by omega)) y_in) (Or.inl rfl) rfl ?_
        refine we_if_ne (t := 45) (p := 36) dX12_named_33 (by decide) rfl rfl (fun hc33 => ?_) (fun hc33 => absurd hc33 (by decide))
        refine we_aload_n (p := 46) dX12_named_45 rfl rfl ?_
        refine wf_getI (c := 11) (j := 13) (n := 37) (v := 0) (p := 49) dX12_named_46 rfl rfl (by decide) (by decide) (Or.inr rfl) hm.2.2.2.1 rfl ?_
        refine we_if_eq (t := 56) (p := 52) dX12_named_49 (by decide) rfl rfl (fun hc49 => ?_) (fun hc49 => absurd (by decide) hc49)
        refine we_iload_n (p := 57) dX12_named_56 rfl rfl ?_
        refine we_iload_n (p := 58) dX12_named_57 rfl rfl ?_
        refine we_isub (p := 59) dX12_named_58 rfl ?_
        rw [show (nI (slt (zN S i)) - nI lo : Int32) = nI (zN S i).2.2.2 by rw [pk_sub (by omega), (in_sl hso hc.2.2 hi2).2 hs, Nat.add_sub_cancel_left]]
        exact wi_ret dX12_named_59 rfl rfl (by decide) (⟨_, rfl, FrT.rf, Or.inl ⟨by rw [hE]; exact hz, by rw [hE]; rfl, by rw [hE]; exact hm⟩⟩)
      · have hE : pFn T n so S = pFl 2 S := by
          unfold pFn
          rw [if_pos hn, hK]
          exact if_neg hs
        refine we_aload_n (p := 1) dX12_named_0 rfl rfl ?_
        refine wf_getI (c := 11) (j := 13) (n := 37) (v := 0) (p := 4) dX12_named_1 rfl rfl (by decide) (by decide) (Or.inr rfl) hm.2.2.2.1 rfl ?_
        refine we_if_eq (t := 9) (p := 7) dX12_named_4 (by decide) rfl rfl (fun hc4 => ?_) (fun hc4 => absurd (by decide) hc4)
        refine we_aload_n (p := 10) dX12_named_9 rfl rfl ?_
        refine we_callV_v (p := 13) (k' := 3) (a := [.ref 95]) (rr := []) dX12_named_10 rfl rfl rfl rfl (rc_of rfl rfl (by decide) ⟨rfl, by decide⟩) (Nat.le_of_ble_eq_true rfl) (Nat.le_of_ble_eq_true rfl) (by decide) (y_mustName hF hm hn) (Or.inl rfl) rfl ?_
        refine we_aload_n (p := 14) dX12_named_13 rfl rfl ?_
        refine wf_getI (c := 11) (j := 13) (n := 37) (v := 0) (p := 17) dX12_named_14 rfl rfl (by decide) (by decide) (Or.inr rfl) hm.2.2.2.1 rfl ?_
        refine we_if_eq (t := 22) (p := 20) dX12_named_17 (by decide) rfl rfl (fun hc17 => ?_) (fun hc17 => absurd (by decide) hc17)
        refine we_aload_n (p := 23) dX12_named_22 rfl rfl ?_
        refine we_callV_int (p := 26) (k' := 0) (a := [.ref 95]) (rr := []) dX12_named_23 rfl rfl rfl rfl (rc_of rfl rfl (by decide) ⟨rfl, by decide⟩) (Nat.le_of_ble_eq_true rfl) (Nat.le_of_ble_eq_true rfl) (by decide) (Ev.i ((fd_zK hm hc hn.1).trans (show plM S (zK T n S) = nI (slt (zN S i)) from congrArg (plM S) hK)) (y_find hF (hm.2.2.1.2.2.2.1 hn.1).1 (by omega) (by omega))) (Or.inl rfl) rfl ?_
        refine we_istore_n (ls1 := [.ref 95, .int (nI lo), .int (nI hi), .int (nI (slt (zN S i)))]) (p := 27) dX12_named_26 rfl rfl ?_
        refine we_iload_n (p := 28) dX12_named_27 rfl rfl ?_
        refine we_iload_n (p := 29) dX12_named_28 rfl rfl ?_
        refine we_iload_n (p := 30) dX12_named_29 rfl rfl ?_
        refine we_callS_int (p := 33) (k' := 0) (a := [.int (nI (slt (zN S i))), .int (nI lo), .int (nI hi)]) (rr := []) dX12_named_30 rfl rfl rfl rfl rfl (rc_st rfl) (Nat.le_of_ble_eq_true rfl) (Nat.le_of_ble_eq_true rfl) (by decide) (Ev.i (in_no (fun z => hs ((in_sl hso hc.2.2 hi2).1.mp z)) (by omega) (by omega)) y_in) (Or.inl rfl) rfl ?_
        refine we_if_ne (t := 45) (p := 36) dX12_named_33 (by decide) rfl rfl (fun hc33 => absurd (by decide) hc33) (fun hc33 => ?_)
        refine we_aload_n (p := 37) dX12_named_36 rfl rfl ?_
        refine we_iconst (v := 2) (p := 38) dX12_named_37 (by decide) rfl ?_
        refine we_aload_n (p := 39) dX12_named_38 rfl rfl ?_
        refine wf_getI (c := 11) (j := 4) (n := 37) (v := nI (tS T n (zP S))) (p := 42) dX12_named_39 rfl rfl (by decide) (by decide) (Or.inl rfl) hm.2.2.1.1 rfl ?_
        refine we_callV_v (p := 45) (k' := 0) (a := [.ref 95, .int 2, .int (nI (tS T n (zP S)))]) (rr := []) dX12_named_42 rfl rfl rfl rfl (rc_of rfl rfl (by decide) ⟨rfl, by decide⟩) (Nat.le_of_ble_eq_true rfl) (Nat.le_of_ble_eq_true rfl) (by decide) (y_wrong hF hm.2.2.2.1) (Or.inl rfl) rfl ?_
        refine we_aload_n (p := 46) dX12_named_45 rfl rfl ?_
        refine wf_getI (c := 11) (j := 13) (n := 37) (v := 1) (p := 49) dX12_named_46 rfl rfl (by decide) (by decide) (Or.inr rfl) wr13 rfl ?_
        refine we_if_eq (t := 56) (p := 52) dX12_named_49 (by decide) rfl rfl (fun hc49 => absurd hc49 (by decide)) (fun hc49 => ?_)
        refine we_iconst (v := 0) (p := 53) dX12_named_52 (by decide) rfl ?_
        refine we_goto (p := 59) dX12_named_53 (by decide) rfl ?_
        exact wi_ret dX12_named_59 rfl rfl (by decide) (⟨_, rfl, FrT.wr, Or.inr ⟨by rw [hE]; show ¬ (2 : Nat) = 0; decide, rfl, by rw [hE]; exact mF.wr (k := 2) rfl rfl⟩⟩)
  · have hE : pFn T n so S = pFl 1 S := by
      unfold pFn
      rw [if_neg hn]
    refine we_aload_n (p := 1) dX12_named_0 rfl rfl ?_
    refine wf_getI (c := 11) (j := 13) (n := 37) (v := 0) (p := 4) dX12_named_1 rfl rfl (by decide) (by decide) (Or.inr rfl) hm.2.2.2.1 rfl ?_
    refine we_if_eq (t := 9) (p := 7) dX12_named_4 (by decide) rfl rfl (fun hc4 => ?_) (fun hc4 => absurd (by decide) hc4)
    refine we_aload_n (p := 10) dX12_named_9 rfl rfl ?_
    refine we_callV_v (p := 13) (k' := 3) (a := [.ref 95]) (rr := []) dX12_named_10 rfl rfl rfl rfl (rc_of rfl rfl (by decide) ⟨rfl, by decide⟩) (Nat.le_of_ble_eq_true rfl) (Nat.le_of_ble_eq_true rfl) (by decide) (y_mustName_n hF hm hn) (Or.inl rfl) rfl ?_
    refine we_aload_n (p := 14) dX12_named_13 rfl rfl ?_
    refine wf_getI (c := 11) (j := 13) (n := 37) (v := 1) (p := 17) dX12_named_14 rfl rfl (by decide) (by decide) (Or.inr rfl) wr13 rfl ?_
    refine we_if_eq (t := 22) (p := 20) dX12_named_17 (by decide) rfl rfl (fun hc17 => absurd hc17 (by decide)) (fun hc17 => ?_)
    refine we_iconst (v := 0) (p := 21) dX12_named_20 (by decide) rfl ?_
    exact wi_ret dX12_named_21 rfl rfl (by decide) (⟨_, rfl, FrT.wr, Or.inr ⟨by rw [hE]; show ¬ (1 : Nat) = 0; decide, rfl, by rw [hE]; exact mF.wr (k := 1) rfl rfl⟩⟩)
set_option maxRecDepth 10000 in
theorem y_new_L {J : Nat → Nat → Int64} {F : Nat → Nat → Option Nat} {nc ns : Nat} {I0 : Nat → Nat → Int32} {t c : Nat} (hF : RFok F) (ht : t < 19) (hc8 : c ≤ 8) (hc : I0 95 8 = nI c)  {Q : Option Value → hp_H → Prop} : ∀ (m j : Nat) (I : Nat → Nat → Int32), j + m = c → ((∀ a, a ≠ 99 → I a = I0 a) ∧ (∀ i, (i < 124 + 8 * t ∨ 132 + 8 * t ≤ i) → I 99 i = I0 99 i) ∧ ∀ k, k < j → I 99 (124 + 8 * t + k) = I0 97 k) → (∀ (I : Nat → Nat → Int32), ((∀ a, a ≠ 99 → I a = I0 a) ∧ (∀ i, (i < 124 + 8 * t ∨ 132 + 8 * t ≤ i) → I 99 i = I0 99 i) ∧ ∀ k, k < c → I 99 (124 + 8 * t + k) = I0 97 k) → Ew 4 mX12_newName 79 [.ref 95, .int (nI t), .int (nI c)] [] ((SH, nc, ns), I, J, F) Q) → Ew 4 mX12_newName 45 [.ref 95, .int (nI t), .int (nI j)] [] ((SH, nc, ns), I, J, F) Q
  | 0, j, I, hj, hI, hq => by
    obtain rfl : j = c := by omega
    refine we_iload_n (p := 46) dX12_newName_45 rfl rfl ?_
    refine we_aload_n (p := 47) dX12_newName_46 rfl rfl ?_
    refine wf_getI (c := 11) (j := 8) (n := 37) (v := nI j) (p := 50) dX12_newName_47 rfl rfl (by decide) (by decide) (Or.inl rfl) ((congrFun (hI.1 95 (by decide)) 8).trans hc) rfl ?_
    refine we_icmp_ge (t := 79) (p := 53) dX12_newName_50 (by decide) rfl rfl (fun hc50 => ?_) (fun hc50 => absurd (nle (by omega) (by omega)) hc50)
    exact hq _  hI
  | m + 1, j, I, hj, hI, hq => by
    refine we_iload_n (p := 46) dX12_newName_45 rfl rfl ?_
    refine we_aload_n (p := 47) dX12_newName_46 rfl rfl ?_
    refine wf_getI (c := 11) (j := 8) (n := 37) (v := nI c) (p := 50) dX12_newName_47 rfl rfl (by decide) (by decide) (Or.inl rfl) ((congrFun (hI.1 95 (by decide)) 8).trans hc) rfl ?_
    refine we_icmp_ge (t := 79) (p := 53) dX12_newName_50 (by decide) rfl rfl (fun hc50 => absurd hc50 (nge (by omega) (by omega))) (fun hc50 => ?_)
    refine we_aload_n (p := 54) dX12_newName_53 rfl rfl ?_
    refine we_getR (c := 11) (j := 16) (n := 37) (b := 99) (p := 57) dX12_newName_54 rfl rfl (by decide) (by decide) rfl (r_95_16 hF) rfl ?_
    refine we_bipush (v := 124) (p := 59) dX12_newName_57 (by decide) rfl ?_
    refine we_bipush (v := 8) (p := 61) dX12_newName_59 (by decide) rfl ?_
    refine we_iload_n (p := 62) dX12_newName_61 rfl rfl ?_
    refine we_imul (p := 63) dX12_newName_62 rfl ?_
    refine we_iadd (p := 64) dX12_newName_63 rfl ?_
    refine we_iload_n (p := 65) dX12_newName_64 rfl rfl ?_
    refine we_iadd (p := 66) dX12_newName_65 rfl ?_
    refine we_aload_n (p := 67) dX12_newName_66 rfl rfl ?_
    refine we_getR (c := 11) (j := 12) (n := 37) (b := 97) (p := 70) dX12_newName_67 rfl rfl (by decide) (by decide) rfl (r_95_12 hF) rfl ?_
    refine we_iload_n (p := 71) dX12_newName_70 rfl rfl ?_
    refine wf_iald (n := 8) (i := j) (v := I0 97 j) (p := 72) dX12_newName_71 rfl (by decide) (in_nJ (by omega) (by decide)) (nI_cl (by omega)) (congrFun (hI.1 97 (by decide)) j) rfl ?_
    rw [ix124]
    refine wf_iast (n := 276) (i := (124 + 8 * t + j)) (p := 73) dX12_newName_72 rfl (by decide) (in_nJ (by omega) (by decide)) (nI_cl (by omega)) rfl ?_
    refine we_iinc (ls1 := [.ref 95, .int (nI t), .int ((nI j) + 1)]) (p := 76) dX12_newName_73 rfl rfl rfl ?_
    refine we_goto (p := 45) dX12_newName_76 (by decide) rfl ?_
    rw [nI_1]
    refine y_new_L hF ht hc8 hc m (j + 1) _  (by omega) ?_ hq
    refine ⟨fun a h => (hu_ne h).trans (hI.1 a h), fun i hi => (hu_nj (by omega)).trans (hI.2.1 i hi), fun k hk => ?_⟩
    rw [hu_if]
    by_cases e : k = j
    · rw [if_pos (by omega), e]
    · rw [if_neg (by omega)]
      exact hI.2.2 k (by omega)
set_option maxRecDepth 10000 in
theorem y_newName_f {I : Nat → Nat → Int32} {J : Nat → Nat → Int64} {F : Nat → Nat → Option Nat} {nc ns : Nat} (hF : RFok F) (hf : I 95 13 = 1) {x : Int32}  : Ev 4 mX12_newName 0 [.ref 95, .int x, .null] [] ((SH, nc, ns), I, J, F) (none) ((SH, nc, ns), I, J, F) := by
  refine e_aload_n (p := 1) dX12_newName_0 rfl rfl ?_
  refine f_getI (c := 11) (j := 13) (n := 37) (v := 1) (p := 4) dX12_newName_1 rfl rfl (by decide) (by decide) (Or.inr rfl) hf rfl ?_
  refine e_if_eq (t := 8) (p := 7) dX12_newName_4 (by decide) rfl rfl (fun hc4 => absurd hc4 (by decide)) (fun hc4 => ?_)
  exact e_vretE dX12_newName_7 rfl rfl
set_option maxRecDepth 10000 in
theorem y_newName {I : Nat → Nat → Int32} {J : Nat → Nat → Int64} {F : Nat → Nat → Option Nat} {nc ns : Nat} {T : Nat → Nat} {n : Nat} {S : pZ} (hF : RFok F) (hm : tM T n (zP S) I) (hz : zF S = 0) (hc : cM T S I) {so row t : Nat} (ht : slO so row = t) (hrow : rwO so row) (hfree : ∀ i, i < zC S → ¬ slt (zN S i) = slO so row) (hD : WFc (zD S)) : Ew 4 mX12_newName 0 [.ref 95, .int (nI t), .null] [] ((SH, nc, ns), I, J, F) (RmN nc ns T n I J F (pNw T n so row S)) := by
  have h19 : t < 19 := by rw [← ht]; exact slO_lt hrow
  by_cases hn : isNm T n (zP S)
  · obtain ⟨k1, k2, k3, k4⟩ := tK1 hn.1
    cases hK : zK T n S with
    | none =>
      have hE : pNw T n so row S = pAv T n (pAd T n so row S) := by
        unfold pNw
        rw [if_pos hn, hK]
      refine we_aload_n (p := 1) dX12_newName_0 rfl rfl ?_
      refine wf_getI (c := 11) (j := 13) (n := 37) (v := 0) (p := 4) dX12_newName_1 rfl rfl (by decide) (by decide) (Or.inr rfl) hm.2.2.2.1 rfl ?_
      refine we_if_eq (t := 8) (p := 7) dX12_newName_4 (by decide) rfl rfl (fun hc4 => ?_) (fun hc4 => absurd (by decide) hc4)
      refine we_aload_n (p := 9) dX12_newName_8 rfl rfl ?_
      refine we_callV_v (p := 12) (k' := 3) (a := [.ref 95]) (rr := []) dX12_newName_9 rfl rfl rfl rfl (rc_of rfl rfl (by decide) ⟨rfl, by decide⟩) (Nat.le_of_ble_eq_true rfl) (Nat.le_of_ble_eq_true rfl) (by decide) (y_mustName hF hm hn) (Or.inl rfl) rfl ?_
      refine we_aload_n (p := 13) dX12_newName_12 rfl rfl ?_
      refine wf_getI (c := 11) (j := 13) (n := 37) (v := 0) (p := 16) dX12_newName_13 rfl rfl (by decide) (by decide) (Or.inr rfl) hm.2.2.2.1 rfl ?_
      refine we_if_ne (t := 35) (p := 19) dX12_newName_16 (by decide) rfl rfl (fun hc16 => absurd (by decide) hc16) (fun hc16 => ?_)
      refine we_aload_n (p := 20) dX12_newName_19 rfl rfl ?_
      refine we_callV_int (p := 23) (k' := 0) (a := [.ref 95]) (rr := []) dX12_newName_20 rfl rfl rfl rfl (rc_of rfl rfl (by decide) ⟨rfl, by decide⟩) (Nat.le_of_ble_eq_true rfl) (Nat.le_of_ble_eq_true rfl) (by decide) (Ev.i ((fd_zK hm hc hn.1).trans (show plM S (zK T n S) = -1 from congrArg (plM S) hK)) (y_find hF (hm.2.2.1.2.2.2.1 hn.1).1 (by omega) (by omega))) (Or.inl rfl) rfl ?_
      refine we_if_lt (t := 35) (p := 26) dX12_newName_23 (by decide) rfl rfl (fun hc23 => ?_) (fun hc23 => absurd (by decide) hc23)
      refine we_aload_n (p := 36) dX12_newName_35 rfl rfl ?_
      refine wf_getI (c := 11) (j := 13) (n := 37) (v := 0) (p := 39) dX12_newName_36 rfl rfl (by decide) (by decide) (Or.inr rfl) hm.2.2.2.1 rfl ?_
      refine we_if_eq (t := 43) (p := 42) dX12_newName_39 (by decide) rfl rfl (fun hc39 => ?_) (fun hc39 => absurd (by decide) hc39)
      refine we_iconst (v := 0) (p := 44) dX12_newName_43 (by decide) rfl ?_
      refine we_istore_n (ls1 := [.ref 95, .int (nI t), .int 0]) (p := 45) dX12_newName_44 rfl rfl ?_
      refine y_new_L (I0 := I) (t := t) (c := (rn isLt T n (tS T n (zP S)) - tS T n (zP S))) hF h19 (by omega) (hm.2.2.1.2.2.2.1 hn.1).1 (rn isLt T n (tS T n (zP S)) - tS T n (zP S)) 0 _ (by omega) ⟨fun _ _ => rfl, fun _ _ => rfl, fun k hk => absurd hk (by omega)⟩ (fun I1 h1 => ?_)
      refine we_aload_n (p := 80) dX12_newName_79 rfl rfl ?_
      refine we_getR (c := 11) (j := 16) (n := 37) (b := 99) (p := 83) dX12_newName_80 rfl rfl (by decide) (by decide) rfl (r_95_16 hF) rfl ?_
      refine we_bipush (v := 105) (p := 85) dX12_newName_83 (by decide) rfl ?_
      refine we_iload_n (p := 86) dX12_newName_85 rfl rfl ?_
      refine we_iadd (p := 87) dX12_newName_86 rfl ?_
      rw [ix5]
      refine we_aload_n (p := 88) dX12_newName_87 rfl rfl ?_
      refine wf_getI (c := 11) (j := 8) (n := 37) (v := nI (rn isLt T n (tS T n (zP S)) - tS T n (zP S))) (p := 91) dX12_newName_88 rfl rfl (by decide) (by decide) (Or.inl rfl) ((congrFun (h1.1 95 (by decide)) 8).trans (hm.2.2.1.2.2.2.1 hn.1).1) rfl ?_
      refine wf_iast (n := 276) (i := (105 + t)) (p := 92) dX12_newName_91 rfl (by decide) (in_nJ (by omega) (by decide)) (nI_cl (by omega)) rfl ?_
      have tm1 : tM T n (zP S) (hp_u I1 99 (105 + t) (nI (rn isLt T n (tS T n (zP S)) - tS T n (zP S)))) := ⟨⟨hm.1.1, (congrFun ((hu_ne (by decide)).trans (h1.1 95 (by decide))) 3).trans hm.1.2.1, fun i hi => by rw [hu_ne (by decide), h1.1 96 (by decide)]; exact hm.1.2.2 i hi⟩, hm.2.1, by
        have e5 : ∀ a, a ≠ 99 → hp_u I1 99 (105 + t) (nI (rn isLt T n (tS T n (zP S)) - tS T n (zP S))) a = I a := fun a h => (hu_ne h).trans (h1.1 a h)
        unfold rkM
        rw [e5 95 (by decide), e5 97 (by decide)]
        exact hm.2.2.1, (congrFun ((hu_ne (by decide)).trans (h1.1 95 (by decide))) 13).trans hm.2.2.2.1, (congrFun ((hu_ne (by decide)).trans (h1.1 95 (by decide))) 9).trans hm.2.2.2.2.1, (congrFun ((hu_ne (by decide)).trans (h1.1 95 (by decide))) 10).trans hm.2.2.2.2.2⟩
      have fT1 : FrL I (hp_u I1 99 (105 + t) (nI (rn isLt T n (tS T n (zP S)) - tS T n (zP S)))) := ⟨fun k _ _ c => (hu_ne c).trans (h1.1 k c), fun j _ _ => congrFun ((hu_ne (by decide)).trans (h1.1 95 (by decide))) j⟩
      refine we_aload_n (p := 93) dX12_newName_92 rfl rfl ?_
      obtain ⟨_, _, e1, rfl, I1, J1, F1, rfl, rfl, rfl, f1, r1⟩ := y_next hF tm1.1 (tE_le tm1.2.1).1 tm1.2.2.1.2.1
      refine we_callV_v (p := 96) (k' := 1) (a := [.ref 95]) (rr := []) dX12_newName_93 rfl rfl rfl rfl (rc_of rfl rfl (by decide) ⟨rfl, by decide⟩) (Nat.le_of_ble_eq_true rfl) (Nat.le_of_ble_eq_true rfl) (by decide) e1 (Or.inl rfl) rfl ?_
      have e99 := f1.1 99 (by decide) (by omega)
      exact wv_ret dX12_newName_96 rfl (⟨_, rfl, fT1.tr (FrT.fm f1).l, Or.inl ⟨by rw [hE]; exact hz, rfl, by rw [hE]; exact tM.nx tm1 f1 r1, by
      rw [hE]
      subst ht
      exact cM_add hm hc hn.1 hK hrow hfree hD (fun i hi => by rw [e99, hu_nj (by omega)]; exact h1.2.1 i (by omega)) (fun i a b c => by rw [e99, hu_nj c]; exact h1.2.1 i (by omega)) (fun i a b => by rw [e99, hu_nj (by omega)]; exact h1.2.1 i b) (by rw [e99, hu_eq]) (fun k hk => by rw [e99, hu_nj (by omega), h1.2.2 k hk]; exact (hm.2.2.1.2.2.2.1 hn.1).2 k hk), fun i hi => by rw [e99, hu_nj (by omega)]; exact h1.2.1 i (by omega)⟩⟩)
    | some i =>
      obtain ⟨-, hi2, -⟩ := fnd_lt _ _ _ hK
      rw [Nat.zero_add] at hi2
      have hs19 := slt_lt hc.2.2 hi2
      have hE : pNw T n so row S = pFl 3 S := by
        unfold pNw
        rw [if_pos hn, hK]
      refine we_aload_n (p := 1) dX12_newName_0 rfl rfl ?_
      refine wf_getI (c := 11) (j := 13) (n := 37) (v := 0) (p := 4) dX12_newName_1 rfl rfl (by decide) (by decide) (Or.inr rfl) hm.2.2.2.1 rfl ?_
      refine we_if_eq (t := 8) (p := 7) dX12_newName_4 (by decide) rfl rfl (fun hc4 => ?_) (fun hc4 => absurd (by decide) hc4)
      refine we_aload_n (p := 9) dX12_newName_8 rfl rfl ?_
      refine we_callV_v (p := 12) (k' := 3) (a := [.ref 95]) (rr := []) dX12_newName_9 rfl rfl rfl rfl (rc_of rfl rfl (by decide) ⟨rfl, by decide⟩) (Nat.le_of_ble_eq_true rfl) (Nat.le_of_ble_eq_true rfl) (by decide) (y_mustName hF hm hn) (Or.inl rfl) rfl ?_
      refine we_aload_n (p := 13) dX12_newName_12 rfl rfl ?_
      refine wf_getI (c := 11) (j := 13) (n := 37) (v := 0) (p := 16) dX12_newName_13 rfl rfl (by decide) (by decide) (Or.inr rfl) hm.2.2.2.1 rfl ?_
      refine we_if_ne (t := 35) (p := 19) dX12_newName_16 (by decide) rfl rfl (fun hc16 => absurd (by decide) hc16) (fun hc16 => ?_)
      refine we_aload_n (p := 20) dX12_newName_19 rfl rfl ?_
      refine we_callV_int (p := 23) (k' := 0) (a := [.ref 95]) (rr := []) dX12_newName_20 rfl rfl rfl rfl (rc_of rfl rfl (by decide) ⟨rfl, by decide⟩) (Nat.le_of_ble_eq_true rfl) (Nat.le_of_ble_eq_true rfl) (by decide) (Ev.i ((fd_zK hm hc hn.1).trans (show plM S (zK T n S) = nI (slt (zN S i)) from congrArg (plM S) hK)) (y_find hF (hm.2.2.1.2.2.2.1 hn.1).1 (by omega) (by omega))) (Or.inl rfl) rfl ?_
      refine we_if_lt (t := 35) (p := 26) dX12_newName_23 (by decide) rfl rfl (fun hc23 => absurd hc23 (nI_nlt (a := slt (zN S i)) (b := 0) (by omega) (by omega))) (fun hc23 => ?_)
      refine we_aload_n (p := 27) dX12_newName_26 rfl rfl ?_
      refine we_iconst (v := 3) (p := 28) dX12_newName_27 (by decide) rfl ?_
      refine we_aload_n (p := 29) dX12_newName_28 rfl rfl ?_
      refine wf_getI (c := 11) (j := 4) (n := 37) (v := nI (tS T n (zP S))) (p := 32) dX12_newName_29 rfl rfl (by decide) (by decide) (Or.inl rfl) hm.2.2.1.1 rfl ?_
      refine we_callV_v (p := 35) (k' := 0) (a := [.ref 95, .int 3, .int (nI (tS T n (zP S)))]) (rr := []) dX12_newName_32 rfl rfl rfl rfl (rc_of rfl rfl (by decide) ⟨rfl, by decide⟩) (Nat.le_of_ble_eq_true rfl) (Nat.le_of_ble_eq_true rfl) (by decide) (y_wrong hF hm.2.2.2.1) (Or.inl rfl) rfl ?_
      refine we_aload_n (p := 36) dX12_newName_35 rfl rfl ?_
      refine wf_getI (c := 11) (j := 13) (n := 37) (v := 1) (p := 39) dX12_newName_36 rfl rfl (by decide) (by decide) (Or.inr rfl) wr13 rfl ?_
      refine we_if_eq (t := 43) (p := 42) dX12_newName_39 (by decide) rfl rfl (fun hc39 => absurd hc39 (by decide)) (fun hc39 => ?_)
      exact wv_ret dX12_newName_42 rfl (⟨_, rfl, FrT.wr.l, Or.inr ⟨by rw [hE]; show ¬ (3 : Nat) = 0; decide, rfl, by rw [hE]; exact mF.wr (k := 3) rfl rfl⟩⟩)
  · have hE : pNw T n so row S = pFl 1 S := by
      unfold pNw
      rw [if_neg hn]
    refine we_aload_n (p := 1) dX12_newName_0 rfl rfl ?_
    refine wf_getI (c := 11) (j := 13) (n := 37) (v := 0) (p := 4) dX12_newName_1 rfl rfl (by decide) (by decide) (Or.inr rfl) hm.2.2.2.1 rfl ?_
    refine we_if_eq (t := 8) (p := 7) dX12_newName_4 (by decide) rfl rfl (fun hc4 => ?_) (fun hc4 => absurd (by decide) hc4)
    refine we_aload_n (p := 9) dX12_newName_8 rfl rfl ?_
    refine we_callV_v (p := 12) (k' := 3) (a := [.ref 95]) (rr := []) dX12_newName_9 rfl rfl rfl rfl (rc_of rfl rfl (by decide) ⟨rfl, by decide⟩) (Nat.le_of_ble_eq_true rfl) (Nat.le_of_ble_eq_true rfl) (by decide) (y_mustName_n hF hm hn) (Or.inl rfl) rfl ?_
    refine we_aload_n (p := 13) dX12_newName_12 rfl rfl ?_
    refine wf_getI (c := 11) (j := 13) (n := 37) (v := 1) (p := 16) dX12_newName_13 rfl rfl (by decide) (by decide) (Or.inr rfl) wr13 rfl ?_
    refine we_if_ne (t := 35) (p := 19) dX12_newName_16 (by decide) rfl rfl (fun hc16 => ?_) (fun hc16 => absurd hc16 (by decide))
    refine we_aload_n (p := 36) dX12_newName_35 rfl rfl ?_
    refine wf_getI (c := 11) (j := 13) (n := 37) (v := 1) (p := 39) dX12_newName_36 rfl rfl (by decide) (by decide) (Or.inr rfl) wr13 rfl ?_
    refine we_if_eq (t := 43) (p := 42) dX12_newName_39 (by decide) rfl rfl (fun hc39 => absurd hc39 (by decide)) (fun hc39 => ?_)
    exact wv_ret dX12_newName_42 rfl (⟨_, rfl, FrT.wr.l, Or.inr ⟨by rw [hE]; show ¬ (1 : Nat) = 0; decide, rfl, by rw [hE]; exact mF.wr (k := 1) rfl rfl⟩⟩)
