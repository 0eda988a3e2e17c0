set_option maxRecDepth 10000 in
theorem y_in {I : Nat → Nat → Int32} {J : Nat → Nat → Int64} {F : Nat → Nat → Option Nat} {nc ns : Nat} {v a b : Int32} : Ev 0 mX12_in 0 [.int v, .int a, .int b] [] ((SH, nc, ns), I, J, F) (some (.int (inS v a b))) ((SH, nc, ns), I, J, F) := by
  refine e_iload_n (p := 1) dX12_in_0 rfl rfl ?_
  refine e_iload_n (p := 2) dX12_in_1 rfl rfl ?_
  refine e_icmp_lt (t := 14) (p := 5) dX12_in_2 (by decide) rfl rfl (fun hc2 => ?_) (fun hc2 => ?_)
  · skip
    refine e_iconst (v := 0) (p := 15) dX12_in_14 (by decide) rfl ?_
    exact e_iretE dX12_in_15 rfl (by decide) (by decide) ⟨by simp only [*, inS, hbS, ↓reduceIte], rfl⟩
  · skip
    refine e_iload_n (p := 6) dX12_in_5 rfl rfl ?_
    refine e_iload_n (p := 7) dX12_in_6 rfl rfl ?_
    refine e_icmp_gt (t := 14) (p := 10) dX12_in_7 (by decide) rfl rfl (fun hc7 => ?_) (fun hc7 => ?_)
    · skip
      refine e_iconst (v := 0) (p := 15) dX12_in_14 (by decide) rfl ?_
      exact e_iretE dX12_in_15 rfl (by decide) (by decide) ⟨by simp only [*, inS, hbS, ↓reduceIte], rfl⟩
    · skip
      refine e_iconst (v := 1) (p := 11) dX12_in_10 (by decide) rfl ?_
      refine e_goto (p := 15) dX12_in_11 (by decide) rfl ?_
      exact e_iretE dX12_in_15 rfl (by decide) (by decide) ⟨by simp only [*, inS, hbS, ↓reduceIte], rfl⟩
set_option maxRecDepth 10000 in
theorem y_hasBit {I : Nat → Nat → Int32} {J : Nat → Nat → Int64} {F : Nat → Nat → Option Nat} {nc ns : Nat} {s k : Int32} : Ev 0 mX12_hasBit 0 [.int s, .int k] [] ((SH, nc, ns), I, J, F) (some (.int (hbS s k))) ((SH, nc, ns), I, J, F) := by
  refine e_iload_n (p := 1) dX12_hasBit_0 rfl rfl ?_
  refine e_iload_n (p := 2) dX12_hasBit_1 rfl rfl ?_
  refine e_ishr (p := 3) dX12_hasBit_2 rfl ?_
  refine e_iconst (v := 1) (p := 4) dX12_hasBit_3 (by decide) rfl ?_
  refine e_iand (p := 5) dX12_hasBit_4 rfl ?_
  refine e_iconst (v := 1) (p := 6) dX12_hasBit_5 (by decide) rfl ?_
  refine e_icmp_ne (t := 13) (p := 9) dX12_hasBit_6 (by decide) rfl rfl (fun hc6 => ?_) (fun hc6 => ?_)
  · skip
    refine e_iconst (v := 0) (p := 14) dX12_hasBit_13 (by decide) rfl ?_
    exact e_iretE dX12_hasBit_14 rfl (by decide) (by decide) ⟨by simp only [*, inS, hbS, ↓reduceIte], rfl⟩
  · skip
    refine e_iconst (v := 1) (p := 10) dX12_hasBit_9 (by decide) rfl ?_
    refine e_goto (p := 14) dX12_hasBit_10 (by decide) rfl ?_
    exact e_iretE dX12_hasBit_14 rfl (by decide) (by decide) ⟨by simp only [*, inS, hbS, ↓reduceIte], rfl⟩
set_option maxRecDepth 10000 in
theorem y_ofHarbour {I : Nat → Nat → Int32} {J : Nat → Nat → Int64} {F : Nat → Nat → Option Nat} {nc ns : Nat} {x k : Nat} {v : Int32} (hF : RFok F) (hv : I 98 (9 + 3 * x + k) = v) (hx : x < 8) (hk : k < 4) : Ev 0 mX12_ofHarbour 0 [.ref 95, .int (nI x), .int (nI k)] [] ((SH, nc, ns), I, J, F) (some (.int v)) ((SH, nc, ns), I, J, F) := by
  refine e_aload_n (p := 1) dX12_ofHarbour_0 rfl rfl ?_
  refine e_getR (c := 11) (j := 15) (n := 37) (b := 98) (p := 4) dX12_ofHarbour_1 rfl rfl (by decide) (by decide) rfl (r_95_15 hF) rfl ?_
  refine e_bipush (v := 9) (p := 6) dX12_ofHarbour_4 (by decide) rfl ?_
  refine e_iconst (v := 3) (p := 7) dX12_ofHarbour_6 (by decide) rfl ?_
  refine e_iload_n (p := 8) dX12_ofHarbour_7 rfl rfl ?_
  refine e_imul (p := 9) dX12_ofHarbour_8 rfl ?_
  refine e_iadd (p := 10) dX12_ofHarbour_9 rfl ?_
  refine e_iload_n (p := 11) dX12_ofHarbour_10 rfl rfl ?_
  refine e_iadd (p := 12) dX12_ofHarbour_11 rfl ?_
  refine f_iald (n := 276) (i := (9 + 3 * x + k)) (v := I 98 (9 + 3 * x + k)) (p := 13) dX12_ofHarbour_12 rfl (by decide) (in_ix (ix3 9 3 x k) (by omega) (by decide)) (cl_ix (ix3 9 3 x k) (by omega)) rfl rfl ?_
  exact e_iretE dX12_ofHarbour_13 rfl rfl (by decide) ⟨hv, rfl⟩
set_option maxRecDepth 10000 in
theorem y_ofWoman {I : Nat → Nat → Int32} {J : Nat → Nat → Int64} {F : Nat → Nat → Option Nat} {nc ns : Nat} {x k : Nat} {v : Int32} (hF : RFok F) (hv : I 98 (27 + 4 * x + k) = v) (hx : x < 8) (hk : k < 4) : Ev 0 mX12_ofWoman 0 [.ref 95, .int (nI x), .int (nI k)] [] ((SH, nc, ns), I, J, F) (some (.int v)) ((SH, nc, ns), I, J, F) := by
  refine e_aload_n (p := 1) dX12_ofWoman_0 rfl rfl ?_
  refine e_getR (c := 11) (j := 15) (n := 37) (b := 98) (p := 4) dX12_ofWoman_1 rfl rfl (by decide) (by decide) rfl (r_95_15 hF) rfl ?_
  refine e_bipush (v := 27) (p := 6) dX12_ofWoman_4 (by decide) rfl ?_
  refine e_iconst (v := 4) (p := 7) dX12_ofWoman_6 (by decide) rfl ?_
  refine e_iload_n (p := 8) dX12_ofWoman_7 rfl rfl ?_
  refine e_imul (p := 9) dX12_ofWoman_8 rfl ?_
  refine e_iadd (p := 10) dX12_ofWoman_9 rfl ?_
  refine e_iload_n (p := 11) dX12_ofWoman_10 rfl rfl ?_
  refine e_iadd (p := 12) dX12_ofWoman_11 rfl ?_
  refine f_iald (n := 276) (i := (27 + 4 * x + k)) (v := I 98 (27 + 4 * x + k)) (p := 13) dX12_ofWoman_12 rfl (by decide) (in_ix (ix3 27 4 x k) (by omega) (by decide)) (cl_ix (ix3 27 4 x k) (by omega)) rfl rfl ?_
  exact e_iretE dX12_ofWoman_13 rfl rfl (by decide) ⟨hv, rfl⟩
theorem hm_eq {D : oD} {w : Nat} (hD : WFc D) (hH : WFh D) (hw : w < dN D 2) : D 7 w = nI (D 7 w).toNatClampNeg := by
  obtain ⟨q, h1, h2⟩ := hH w hw
  rw [h2, nI_clamp (by have := hD.2.1; omega)]
set_option maxRecDepth 10000 in
theorem y_isLanding {I : Nat → Nat → Int32} {J : Nat → Nat → Int64} {F : Nat → Nat → Option Nat} {nc ns : Nat} {l : Int32} : Ev 1 mX12_isLanding 0 [.int l] [] ((SH, nc, ns), I, J, F) (some (.int (inS l 0 30))) ((SH, nc, ns), I, J, F) := by
  refine e_iload_n (p := 1) dX12_isLanding_0 rfl rfl ?_
  refine e_iconst (v := 0) (p := 2) dX12_isLanding_1 (by decide) rfl ?_
  refine e_bipush (v := 30) (p := 4) dX12_isLanding_2 (by decide) rfl ?_
  refine e_callS_int (p := 7) (k' := 0) (a := [.int l, .int 0, .int 30]) (rr := []) dX12_isLanding_4 rfl rfl rfl rfl rfl (rc_st rfl) (Nat.le_of_ble_eq_true rfl) (Nat.le_of_ble_eq_true rfl) (by decide) (y_in  ) (Or.inl rfl) rfl ?_
  exact e_iretE dX12_isLanding_7 rfl (nzb in01) (by decide) ⟨rfl, rfl⟩
set_option maxRecDepth 10000 in
theorem y_ageAt {I : Nat → Nat → Int32} {J : Nat → Nat → Int64} {F : Nat → Nat → Option Nat} {nc ns : Nat} {D : oD} (hF : RFok F) (hM : oM I 98 D) (hW : WF D) {w : Nat} {l y : Int32} (hw : w < dN D 2) : Ev 1 mX12_ageAt 0 [.ref 95, .int (nI w), .int l, .int y] [] ((SH, nc, ns), I, J, F) (some (.int (l * y - D 9 w))) ((SH, nc, ns), I, J, F) := by
  have hD := hW.c
  have hH := hW.h
  have hT := hW.t
  have bt := hT.2
  obtain ⟨b0, b1, b2, b3, b4, b5, b6⟩ := hD.2
  refine e_iload_n (p := 1) dX12_ageAt_0 rfl rfl ?_
  refine e_iload_n (p := 2) dX12_ageAt_1 rfl rfl ?_
  refine e_imul (p := 3) dX12_ageAt_2 rfl ?_
  refine e_aload_n (p := 4) dX12_ageAt_3 rfl rfl ?_
  refine e_iload_n (p := 5) dX12_ageAt_4 rfl rfl ?_
  refine e_iconst (v := 3) (p := 6) dX12_ageAt_5 (by decide) rfl ?_
  refine e_callV_int (p := 9) (k' := 0) (a := [.ref 95, .int (nI w), .int 3]) (rr := [.int (l * y)]) dX12_ageAt_6 rfl rfl rfl rfl (rc_of rfl rfl (by decide) ⟨rfl, by decide⟩) (Nat.le_of_ble_eq_true rfl) (Nat.le_of_ble_eq_true rfl) (by decide) (y_ofWoman (x := w) (k := 3) hF (m9 hM (by omega)) (by omega) (by omega)) (Or.inl rfl) rfl ?_
  refine e_isub (p := 10) dX12_ageAt_9 rfl ?_
  exact e_iretE dX12_ageAt_10 rfl rfl (by decide) ⟨rfl, rfl⟩
def onesS (x : Int32) : Int32 := gN (fun k a => a + ((x >>> (nI k &&& 31)) &&& 1)) 0 8 0
set_option maxRecDepth 10000 in
theorem y_ones_L {I : Nat → Nat → Int32} {J : Nat → Nat → Int64} {F : Nat → Nat → Option Nat} {nc ns : Nat} {x : Int32} : ∀ (m j : Nat) (acc : Int32), j + m = 8 → Ev 0 mX12_ones 4 [.int x, .int acc, .int (nI j)] [] ((SH, nc, ns), I, J, F) (some (.int (gN (fun k a => a + ((x >>> (nI k &&& 31)) &&& 1)) j m acc))) ((SH, nc, ns), I, J, F)
  | 0, j, acc, hj => by
    refine e_iload_n (p := 5) dX12_ones_4 rfl rfl ?_
    refine e_bipush (v := 8) (p := 7) dX12_ones_5 (by decide) rfl ?_
    refine e_icmp_ge (t := 24) (p := 10) dX12_ones_7 (by decide) rfl rfl (fun hc7 => ?_) (fun hc7 => absurd (nI_le (a := 8) (b := j) (by omega) (by omega)) hc7)
    refine e_iload_n (p := 25) dX12_ones_24 rfl rfl ?_
    exact e_iretE dX12_ones_25 rfl rfl (by decide) ⟨rfl, rfl⟩
  | m + 1, j, acc, hj => by
    refine e_iload_n (p := 5) dX12_ones_4 rfl rfl ?_
    refine e_bipush (v := 8) (p := 7) dX12_ones_5 (by decide) rfl ?_
    refine e_icmp_ge (t := 24) (p := 10) dX12_ones_7 (by decide) rfl rfl (fun hc7 => absurd hc7 (nI_ge (a := j) (b := 8) (by omega) (by omega))) (fun hc7 => ?_)
    refine e_iload_n (p := 11) dX12_ones_10 rfl rfl ?_
    refine e_iload_n (p := 12) dX12_ones_11 rfl rfl ?_
    refine e_iload_n (p := 13) dX12_ones_12 rfl rfl ?_
    refine e_ishr (p := 14) dX12_ones_13 rfl ?_
    refine e_iconst (v := 1) (p := 15) dX12_ones_14 (by decide) rfl ?_
    refine e_iand (p := 16) dX12_ones_15 rfl ?_
    refine e_iadd (p := 17) dX12_ones_16 rfl ?_
    refine e_istore_n (ls1 := [.int x, .int (acc + ((x >>> ((nI j) &&& 31)) &&& 1)), .int (nI j)]) (p := 18) dX12_ones_17 rfl rfl ?_
    refine e_iinc (ls1 := [.int x, .int (acc + ((x >>> ((nI j) &&& 31)) &&& 1)), .int ((nI j) + 1)]) (p := 21) dX12_ones_18 rfl rfl rfl ?_
    refine e_goto (p := 4) dX12_ones_21 (by decide) rfl ?_
    rw [nI_1]
    exact Ev.res (by simp only [gN_s, bit, Int32.or_zero, Int32.add_zero, ↓reduceIte]) (y_ones_L  m (j + 1) (acc + ((x >>> ((nI j) &&& 31)) &&& 1))  (by omega))
set_option maxRecDepth 10000 in
theorem y_ones {I : Nat → Nat → Int32} {J : Nat → Nat → Int64} {F : Nat → Nat → Option Nat} {nc ns : Nat} {x : Int32} : Ev 0 mX12_ones 0 [.int x, .null, .null] [] ((SH, nc, ns), I, J, F) (some (.int (onesS x))) ((SH, nc, ns), I, J, F) := by
  refine e_iconst (v := 0) (p := 1) dX12_ones_0 (by decide) rfl ?_
  refine e_istore_n (ls1 := [.int x, .int 0, .null]) (p := 2) dX12_ones_1 rfl rfl ?_
  refine e_iconst (v := 0) (p := 3) dX12_ones_2 (by decide) rfl ?_
  refine e_istore_n (ls1 := [.int x, .int 0, .int 0]) (p := 4) dX12_ones_3 rfl rfl ?_
  exact y_ones_L  _ 0 _ (by omega)
theorem in_ix1 {v : Int32} {n : Nat} (hn : n < 1000) : inS v 0 (nI n - 1) = ixB v n := by
  unfold inS ixB ixS
  by_cases c : v < 0
  · simp [c]
  · obtain ⟨j, hj, rfl⟩ := nI_of c
    rw [if_neg c, if_neg c]
    cases n with
    | zero =>
      have e : (nI 0 - 1 : Int32) < nI j := by
        have : (nI 0 - 1 : Int32) = -1 := by decide
        rw [this, Int32.lt_iff_toInt_lt, nI_toInt hj]
        simp
        omega
      rw [if_pos e, if_pos (nI_le (Nat.zero_le j) hj)]
      decide
    | succ n =>
      rw [nI_pred]
      by_cases d : n < j
      · rw [if_pos (nI_lt d hj), if_pos (nI_le d hj)]
        decide
      · rw [if_neg (nI_nlt (by omega) (by omega)), if_neg (nI_ge (by omega) (by omega))]
        decide
theorem tol_ix {D : oD} {v : Int32} {i : Nat} (hW : WF D) (t : tol D = 0) (hi : i < 7) : ixB v (dN D i) = 0 := by
  rw [tol_0 hW t hi]
  unfold ixB ixS
  by_cases c : v < 0
  · simp [c]
  · obtain ⟨j, hj, rfl⟩ := nI_of c
    rw [if_neg c, if_pos (nI_le (Nat.zero_le j) hj)]
    decide
set_option maxRecDepth 10000 in
theorem y_isHarbour {I : Nat → Nat → Int32} {J : Nat → Nat → Int64} {F : Nat → Nat → Option Nat} {nc ns : Nat} {D : oD} (hF : RFok F) (hM : oM I 98 D) (hW : WF D) (hO : I 95 14 = tol D) {v : Int32} : Ev 1 mX12_isHarbour 0 [.ref 95, .int v] [] ((SH, nc, ns), I, J, F) (some (.int (ixB v (dN D 0)))) ((SH, nc, ns), I, J, F) := by
  have hD := hW.c
  have hH := hW.h
  have hT := hW.t
  have bt := hT.2
  obtain ⟨b0, b1, b2, b3, b4, b5, b6⟩ := hD.2
  refine e_aload_n (p := 1) dX12_isHarbour_0 rfl rfl ?_
  refine f_getI (c := 11) (j := 14) (n := 37) (v := tol D) (p := 4) dX12_isHarbour_1 rfl rfl (by decide) (by decide) (Or.inr rfl) hO rfl ?_
  refine e_if_eq (t := 27) (p := 7) dX12_isHarbour_4 (by decide) rfl rfl (fun hc4 => ?_) (fun hc4 => ?_)
  · skip
    refine e_iconst (v := 0) (p := 28) dX12_isHarbour_27 (by decide) rfl ?_
    exact e_iretE dX12_isHarbour_28 rfl (by decide) (by decide) ⟨(tol_ix hW hc4 (by decide)).symm, rfl⟩
  · skip
    refine e_iload_n (p := 8) dX12_isHarbour_7 rfl rfl ?_
    refine e_iconst (v := 0) (p := 9) dX12_isHarbour_8 (by decide) rfl ?_
    refine e_aload_n (p := 10) dX12_isHarbour_9 rfl rfl ?_
    refine e_getR (c := 11) (j := 15) (n := 37) (b := 98) (p := 13) dX12_isHarbour_10 rfl rfl (by decide) (by decide) rfl (r_95_15 hF) rfl ?_
    refine e_iconst (v := 2) (p := 14) dX12_isHarbour_13 (by decide) rfl ?_
    refine f_iald (n := 276) (i := 2) (v := nI (dN D 0)) (p := 15) dX12_isHarbour_14 rfl (by decide) (by decide) (by decide) (mNn (i := 0) hM hD (by decide)) rfl ?_
    refine e_iconst (v := 1) (p := 16) dX12_isHarbour_15 (by decide) rfl ?_
    refine e_isub (p := 17) dX12_isHarbour_16 rfl ?_
    refine e_callS_int (p := 20) (k' := 0) (a := [.int v, .int 0, .int ((nI (dN D 0)) - 1)]) (rr := []) dX12_isHarbour_17 rfl rfl rfl rfl rfl (rc_st rfl) (Nat.le_of_ble_eq_true rfl) (Nat.le_of_ble_eq_true rfl) (by decide) (y_in  ) (Or.inl rfl) rfl ?_
    refine e_if_eq (t := 27) (p := 23) dX12_isHarbour_20 (by decide) rfl rfl (fun hc20 => ?_) (fun hc20 => ?_)
    · skip
      refine e_iconst (v := 0) (p := 28) dX12_isHarbour_27 (by decide) rfl ?_
      exact e_iretE dX12_isHarbour_28 rfl (by decide) (by decide) ⟨by rw [in_ix1 (by omega)] at hc20; simp [*], rfl⟩
    · skip
      refine e_iconst (v := 1) (p := 24) dX12_isHarbour_23 (by decide) rfl ?_
      refine e_goto (p := 28) dX12_isHarbour_24 (by decide) rfl ?_
      exact e_iretE dX12_isHarbour_28 rfl (by decide) (by decide) ⟨(ixB01.resolve_left (by rw [in_ix1 (by omega)] at hc20; exact hc20)).symm, rfl⟩
set_option maxRecDepth 10000 in
theorem y_isWoman {I : Nat → Nat → Int32} {J : Nat → Nat → Int64} {F : Nat → Nat → Option Nat} {nc ns : Nat} {D : oD} (hF : RFok F) (hM : oM I 98 D) (hW : WF D) (hO : I 95 14 = tol D) {v : Int32} : Ev 1 mX12_isWoman 0 [.ref 95, .int v] [] ((SH, nc, ns), I, J, F) (some (.int (ixB v (dN D 2)))) ((SH, nc, ns), I, J, F) := by
  have hD := hW.c
  have hH := hW.h
  have hT := hW.t
  have bt := hT.2
  obtain ⟨b0, b1, b2, b3, b4, b5, b6⟩ := hD.2
  refine e_aload_n (p := 1) dX12_isWoman_0 rfl rfl ?_
  refine f_getI (c := 11) (j := 14) (n := 37) (v := tol D) (p := 4) dX12_isWoman_1 rfl rfl (by decide) (by decide) (Or.inr rfl) hO rfl ?_
  refine e_if_eq (t := 27) (p := 7) dX12_isWoman_4 (by decide) rfl rfl (fun hc4 => ?_) (fun hc4 => ?_)
  · skip
    refine e_iconst (v := 0) (p := 28) dX12_isWoman_27 (by decide) rfl ?_
    exact e_iretE dX12_isWoman_28 rfl (by decide) (by decide) ⟨(tol_ix hW hc4 (by decide)).symm, rfl⟩
  · skip
    refine e_iload_n (p := 8) dX12_isWoman_7 rfl rfl ?_
    refine e_iconst (v := 0) (p := 9) dX12_isWoman_8 (by decide) rfl ?_
    refine e_aload_n (p := 10) dX12_isWoman_9 rfl rfl ?_
    refine e_getR (c := 11) (j := 15) (n := 37) (b := 98) (p := 13) dX12_isWoman_10 rfl rfl (by decide) (by decide) rfl (r_95_15 hF) rfl ?_
    refine e_iconst (v := 4) (p := 14) dX12_isWoman_13 (by decide) rfl ?_
    refine f_iald (n := 276) (i := 4) (v := nI (dN D 2)) (p := 15) dX12_isWoman_14 rfl (by decide) (by decide) (by decide) (mNn (i := 2) hM hD (by decide)) rfl ?_
    refine e_iconst (v := 1) (p := 16) dX12_isWoman_15 (by decide) rfl ?_
    refine e_isub (p := 17) dX12_isWoman_16 rfl ?_
    refine e_callS_int (p := 20) (k' := 0) (a := [.int v, .int 0, .int ((nI (dN D 2)) - 1)]) (rr := []) dX12_isWoman_17 rfl rfl rfl rfl rfl (rc_st rfl) (Nat.le_of_ble_eq_true rfl) (Nat.le_of_ble_eq_true rfl) (by decide) (y_in  ) (Or.inl rfl) rfl ?_
    refine e_if_eq (t := 27) (p := 23) dX12_isWoman_20 (by decide) rfl rfl (fun hc20 => ?_) (fun hc20 => ?_)
    · skip
      refine e_iconst (v := 0) (p := 28) dX12_isWoman_27 (by decide) rfl ?_
      exact e_iretE dX12_isWoman_28 rfl (by decide) (by decide) ⟨by rw [in_ix1 (by omega)] at hc20; simp [*], rfl⟩
    · skip
      refine e_iconst (v := 1) (p := 24) dX12_isWoman_23 (by decide) rfl ?_
      refine e_goto (p := 28) dX12_isWoman_24 (by decide) rfl ?_
      exact e_iretE dX12_isWoman_28 rfl (by decide) (by decide) ⟨(ixB01.resolve_left (by rw [in_ix1 (by omega)] at hc20; exact hc20)).symm, rfl⟩
set_option maxRecDepth 10000 in
theorem y_isNear {I : Nat → Nat → Int32} {J : Nat → Nat → Int64} {F : Nat → Nat → Option Nat} {nc ns : Nat} {D : oD} (hF : RFok F) (hM : oM I 98 D) (hW : WF D) (hO : I 95 14 = tol D) {v : Int32} : Ev 1 mX12_isNear 0 [.ref 95, .int v] [] ((SH, nc, ns), I, J, F) (some (.int (ixB v (dN D 6)))) ((SH, nc, ns), I, J, F) := by
  have hD := hW.c
  have hH := hW.h
  have hT := hW.t
  have bt := hT.2
  obtain ⟨b0, b1, b2, b3, b4, b5, b6⟩ := hD.2
  refine e_aload_n (p := 1) dX12_isNear_0 rfl rfl ?_
  refine f_getI (c := 11) (j := 14) (n := 37) (v := tol D) (p := 4) dX12_isNear_1 rfl rfl (by decide) (by decide) (Or.inr rfl) hO rfl ?_
  refine e_if_eq (t := 28) (p := 7) dX12_isNear_4 (by decide) rfl rfl (fun hc4 => ?_) (fun hc4 => ?_)
  · skip
    refine e_iconst (v := 0) (p := 29) dX12_isNear_28 (by decide) rfl ?_
    exact e_iretE dX12_isNear_29 rfl (by decide) (by decide) ⟨(tol_ix hW hc4 (by decide)).symm, rfl⟩
  · skip
    refine e_iload_n (p := 8) dX12_isNear_7 rfl rfl ?_
    refine e_iconst (v := 0) (p := 9) dX12_isNear_8 (by decide) rfl ?_
    refine e_aload_n (p := 10) dX12_isNear_9 rfl rfl ?_
    refine e_getR (c := 11) (j := 15) (n := 37) (b := 98) (p := 13) dX12_isNear_10 rfl rfl (by decide) (by decide) rfl (r_95_15 hF) rfl ?_
    refine e_bipush (v := 8) (p := 15) dX12_isNear_13 (by decide) rfl ?_
    refine f_iald (n := 276) (i := 8) (v := nI (dN D 6)) (p := 16) dX12_isNear_15 rfl (by decide) (by decide) (by decide) (mNn (i := 6) hM hD (by decide)) rfl ?_
    refine e_iconst (v := 1) (p := 17) dX12_isNear_16 (by decide) rfl ?_
    refine e_isub (p := 18) dX12_isNear_17 rfl ?_
    refine e_callS_int (p := 21) (k' := 0) (a := [.int v, .int 0, .int ((nI (dN D 6)) - 1)]) (rr := []) dX12_isNear_18 rfl rfl rfl rfl rfl (rc_st rfl) (Nat.le_of_ble_eq_true rfl) (Nat.le_of_ble_eq_true rfl) (by decide) (y_in  ) (Or.inl rfl) rfl ?_
    refine e_if_eq (t := 28) (p := 24) dX12_isNear_21 (by decide) rfl rfl (fun hc21 => ?_) (fun hc21 => ?_)
    · skip
      refine e_iconst (v := 0) (p := 29) dX12_isNear_28 (by decide) rfl ?_
      exact e_iretE dX12_isNear_29 rfl (by decide) (by decide) ⟨by rw [in_ix1 (by omega)] at hc21; simp [*], rfl⟩
    · skip
      refine e_iconst (v := 1) (p := 25) dX12_isNear_24 (by decide) rfl ?_
      refine e_goto (p := 29) dX12_isNear_25 (by decide) rfl ?_
      exact e_iretE dX12_isNear_29 rfl (by decide) (by decide) ⟨(ixB01.resolve_left (by rw [in_ix1 (by omega)] at hc21; exact hc21)).symm, rfl⟩
set_option maxRecDepth 10000 in
theorem y_womenIn_L {I : Nat → Nat → Int32} {J : Nat → Nat → Int64} {F : Nat → Nat → Option Nat} {nc ns : Nat} {D : oD} (hF : RFok F) (hM : oM I 98 D) (hW : WF D) {h : Int32} : ∀ (m j : Nat) (acc : Int32), j + m = dN D 2 → Ev 1 mX12_womenIn 4 [.ref 95, .int h, .int acc, .int (nI j)] [] ((SH, nc, ns), I, J, F) (some (.int (gN (fun w a => if D 7 w = h then a ||| bit w else a) j m acc))) ((SH, nc, ns), I, J, F)
  | 0, j, acc, hj => by
    have hD := hW.c
    have hH := hW.h
    have hT := hW.t
    have bt := hT.2
    obtain ⟨b0, b1, b2, b3, b4, b5, b6⟩ := hD.2
    refine e_iload_n (p := 5) dX12_womenIn_4 rfl rfl ?_
    refine e_aload_n (p := 6) dX12_womenIn_5 rfl rfl ?_
    refine e_getR (c := 11) (j := 15) (n := 37) (b := 98) (p := 9) dX12_womenIn_6 rfl rfl (by decide) (by decide) rfl (r_95_15 hF) rfl ?_
    refine e_iconst (v := 4) (p := 10) dX12_womenIn_9 (by decide) rfl ?_
    refine f_iald (n := 276) (i := 4) (v := nI (dN D 2)) (p := 11) dX12_womenIn_10 rfl (by decide) (by decide) (by decide) (mNn (i := 2) hM hD (by decide)) rfl ?_
    refine e_icmp_ge (t := 40) (p := 14) dX12_womenIn_11 (by decide) rfl rfl (fun hc11 => ?_) (fun hc11 => absurd (nle (by omega) (by omega)) hc11)
    refine e_iload_n (p := 41) dX12_womenIn_40 rfl rfl ?_
    exact e_iretE dX12_womenIn_41 rfl rfl (by decide) ⟨rfl, rfl⟩
  | m + 1, j, acc, hj => by
    have hD := hW.c
    have hH := hW.h
    have hT := hW.t
    have bt := hT.2
    obtain ⟨b0, b1, b2, b3, b4, b5, b6⟩ := hD.2
    refine e_iload_n (p := 5) dX12_womenIn_4 rfl rfl ?_
    refine e_aload_n (p := 6) dX12_womenIn_5 rfl rfl ?_
    refine e_getR (c := 11) (j := 15) (n := 37) (b := 98) (p := 9) dX12_womenIn_6 rfl rfl (by decide) (by decide) rfl (r_95_15 hF) rfl ?_
    refine e_iconst (v := 4) (p := 10) dX12_womenIn_9 (by decide) rfl ?_
    refine f_iald (n := 276) (i := 4) (v := nI (dN D 2)) (p := 11) dX12_womenIn_10 rfl (by decide) (by decide) (by decide) (mNn (i := 2) hM hD (by decide)) rfl ?_
    refine e_icmp_ge (t := 40) (p := 14) dX12_womenIn_11 (by decide) rfl rfl (fun hc11 => absurd hc11 (nge (by omega) (by omega))) (fun hc11 => ?_)
    refine e_iload_n (p := 15) dX12_womenIn_14 rfl rfl ?_
    refine e_aload_n (p := 16) dX12_womenIn_15 rfl rfl ?_
    refine e_iload_n (p := 17) dX12_womenIn_16 rfl rfl ?_
    refine e_iconst (v := 1) (p := 18) dX12_womenIn_17 (by decide) rfl ?_
    refine e_callV_int (p := 21) (k' := 0) (a := [.ref 95, .int (nI j), .int 1]) (rr := [.int acc]) dX12_womenIn_18 rfl rfl rfl rfl (rc_of rfl rfl (by decide) ⟨rfl, by decide⟩) (Nat.le_of_ble_eq_true rfl) (Nat.le_of_ble_eq_true rfl) (by decide) (y_ofWoman (x := j) (k := 1) hF (m7 hM (by omega)) (by omega) (by omega)) (Or.inl rfl) rfl ?_
    refine e_iload_n (p := 22) dX12_womenIn_21 rfl rfl ?_
    refine e_icmp_ne (t := 31) (p := 25) dX12_womenIn_22 (by decide) rfl rfl (fun hc22 => ?_) (fun hc22 => ?_)
    · skip
      refine e_iconst (v := 0) (p := 32) dX12_womenIn_31 (by decide) rfl ?_
      refine e_ior (p := 33) dX12_womenIn_32 rfl ?_
      refine e_istore_n (ls1 := [.ref 95, .int h, .int (acc ||| 0), .int (nI j)]) (p := 34) dX12_womenIn_33 rfl rfl ?_
      refine e_iinc (ls1 := [.ref 95, .int h, .int (acc ||| 0), .int ((nI j) + 1)]) (p := 37) dX12_womenIn_34 rfl rfl rfl ?_
      refine e_goto (p := 4) dX12_womenIn_37 (by decide) rfl ?_
      rw [nI_1]
      exact Ev.res (by simp only [gN_s, hc22, bit, Int32.or_zero, Int32.add_zero, ↓reduceIte]) (y_womenIn_L hF hM hW m (j + 1) (acc ||| 0)  (by omega))
    · skip
      refine e_iconst (v := 1) (p := 26) dX12_womenIn_25 (by decide) rfl ?_
      refine e_iload_n (p := 27) dX12_womenIn_26 rfl rfl ?_
      refine e_ishl (p := 28) dX12_womenIn_27 rfl ?_
      refine e_goto (p := 32) dX12_womenIn_28 (by decide) rfl ?_
      refine e_ior (p := 33) dX12_womenIn_32 rfl ?_
      refine e_istore_n (ls1 := [.ref 95, .int h, .int (acc ||| (1 <<< ((nI j) &&& 31))), .int (nI j)]) (p := 34) dX12_womenIn_33 rfl rfl ?_
      refine e_iinc (ls1 := [.ref 95, .int h, .int (acc ||| (1 <<< ((nI j) &&& 31))), .int ((nI j) + 1)]) (p := 37) dX12_womenIn_34 rfl rfl rfl ?_
      refine e_goto (p := 4) dX12_womenIn_37 (by decide) rfl ?_
      rw [nI_1]
      exact Ev.res (by simp only [gN_s, hc22, bit, Int32.or_zero, Int32.add_zero, ↓reduceIte]) (y_womenIn_L hF hM hW m (j + 1) (acc ||| (1 <<< ((nI j) &&& 31)))  (by omega))
set_option maxRecDepth 10000 in
theorem y_womenIn {I : Nat → Nat → Int32} {J : Nat → Nat → Int64} {F : Nat → Nat → Option Nat} {nc ns : Nat} {D : oD} (hF : RFok F) (hM : oM I 98 D) (hW : WF D) {h : Int32} : Ev 1 mX12_womenIn 0 [.ref 95, .int h, .null, .null] [] ((SH, nc, ns), I, J, F) (some (.int (womenInS D h))) ((SH, nc, ns), I, J, F) := by
  have hD := hW.c
  have hH := hW.h
  have hT := hW.t
  have bt := hT.2
  obtain ⟨b0, b1, b2, b3, b4, b5, b6⟩ := hD.2
  refine e_iconst (v := 0) (p := 1) dX12_womenIn_0 (by decide) rfl ?_
  refine e_istore_n (ls1 := [.ref 95, .int h, .int 0, .null]) (p := 2) dX12_womenIn_1 rfl rfl ?_
  refine e_iconst (v := 0) (p := 3) dX12_womenIn_2 (by decide) rfl ?_
  refine e_istore_n (ls1 := [.ref 95, .int h, .int 0, .int 0]) (p := 4) dX12_womenIn_3 rfl rfl ?_
  exact y_womenIn_L hF hM hW _ 0 _ (by omega)
set_option maxRecDepth 10000 in
theorem y_rivalsOf_L {I : Nat → Nat → Int32} {J : Nat → Nat → Int64} {F : Nat → Nat → Option Nat} {nc ns : Nat} {D : oD} (hF : RFok F) (hM : oM I 98 D) (hW : WF D) {h : Int32} : ∀ (m j : Nat) (acc : Int32), j + m = dN D 3 → Ev 0 mX12_rivalsOf 4 [.ref 95, .int h, .int acc, .int (nI j)] [] ((SH, nc, ns), I, J, F) (some (.int (gN (fun k a => if D 10 k = h then a + 1 else a) j m acc))) ((SH, nc, ns), I, J, F)
  | 0, j, acc, hj => by
    have hD := hW.c
    have hH := hW.h
    have hT := hW.t
    have bt := hT.2
    obtain ⟨b0, b1, b2, b3, b4, b5, b6⟩ := hD.2
    refine e_iload_n (p := 5) dX12_rivalsOf_4 rfl rfl ?_
    refine e_aload_n (p := 6) dX12_rivalsOf_5 rfl rfl ?_
    refine e_getR (c := 11) (j := 15) (n := 37) (b := 98) (p := 9) dX12_rivalsOf_6 rfl rfl (by decide) (by decide) rfl (r_95_15 hF) rfl ?_
    refine e_iconst (v := 5) (p := 10) dX12_rivalsOf_9 (by decide) rfl ?_
    refine f_iald (n := 276) (i := 5) (v := nI (dN D 3)) (p := 11) dX12_rivalsOf_10 rfl (by decide) (by decide) (by decide) (mNn (i := 3) hM hD (by decide)) rfl ?_
    refine e_icmp_ge (t := 43) (p := 14) dX12_rivalsOf_11 (by decide) rfl rfl (fun hc11 => ?_) (fun hc11 => absurd (nle (by omega) (by omega)) hc11)
    refine e_iload_n (p := 44) dX12_rivalsOf_43 rfl rfl ?_
    exact e_iretE dX12_rivalsOf_44 rfl rfl (by decide) ⟨rfl, rfl⟩
  | m + 1, j, acc, hj => by
    have hD := hW.c
    have hH := hW.h
    have hT := hW.t
    have bt := hT.2
    obtain ⟨b0, b1, b2, b3, b4, b5, b6⟩ := hD.2
    refine e_iload_n (p := 5) dX12_rivalsOf_4 rfl rfl ?_
    refine e_aload_n (p := 6) dX12_rivalsOf_5 rfl rfl ?_
    refine e_getR (c := 11) (j := 15) (n := 37) (b := 98) (p := 9) dX12_rivalsOf_6 rfl rfl (by decide) (by decide) rfl (r_95_15 hF) rfl ?_
    refine e_iconst (v := 5) (p := 10) dX12_rivalsOf_9 (by decide) rfl ?_
    refine f_iald (n := 276) (i := 5) (v := nI (dN D 3)) (p := 11) dX12_rivalsOf_10 rfl (by decide) (by decide) (by decide) (mNn (i := 3) hM hD (by decide)) rfl ?_
    refine e_icmp_ge (t := 43) (p := 14) dX12_rivalsOf_11 (by decide) rfl rfl (fun hc11 => absurd hc11 (nge (by omega) (by omega))) (fun hc11 => ?_)
    refine e_iload_n (p := 15) dX12_rivalsOf_14 rfl rfl ?_
    refine e_aload_n (p := 16) dX12_rivalsOf_15 rfl rfl ?_
    refine e_getR (c := 11) (j := 15) (n := 37) (b := 98) (p := 19) dX12_rivalsOf_16 rfl rfl (by decide) (by decide) rfl (r_95_15 hF) rfl ?_
    refine e_bipush (v := 59) (p := 21) dX12_rivalsOf_19 (by decide) rfl ?_
    refine e_iconst (v := 2) (p := 22) dX12_rivalsOf_21 (by decide) rfl ?_
    refine e_iload_n (p := 23) dX12_rivalsOf_22 rfl rfl ?_
    refine e_imul (p := 24) dX12_rivalsOf_23 rfl ?_
    refine e_iadd (p := 25) dX12_rivalsOf_24 rfl ?_
    refine f_iald (n := 276) (i := (59 + 2 * j)) (v := D 10 j) (p := 26) dX12_rivalsOf_25 rfl (by decide) (in_ix (ix2 59 2 j) (by omega) (by decide)) (cl_ix (ix2 59 2 j) (by omega)) (m10 hM (by omega)) rfl ?_
    refine e_iload_n (p := 27) dX12_rivalsOf_26 rfl rfl ?_
    refine e_icmp_ne (t := 34) (p := 30) dX12_rivalsOf_27 (by decide) rfl rfl (fun hc27 => ?_) (fun hc27 => ?_)
    · skip
      refine e_iconst (v := 0) (p := 35) dX12_rivalsOf_34 (by decide) rfl ?_
      refine e_iadd (p := 36) dX12_rivalsOf_35 rfl ?_
      refine e_istore_n (ls1 := [.ref 95, .int h, .int (acc + 0), .int (nI j)]) (p := 37) dX12_rivalsOf_36 rfl rfl ?_
      refine e_iinc (ls1 := [.ref 95, .int h, .int (acc + 0), .int ((nI j) + 1)]) (p := 40) dX12_rivalsOf_37 rfl rfl rfl ?_
      refine e_goto (p := 4) dX12_rivalsOf_40 (by decide) rfl ?_
      rw [nI_1]
      exact Ev.res (by simp only [gN_s, hc27, bit, Int32.or_zero, Int32.add_zero, ↓reduceIte]) (y_rivalsOf_L hF hM hW m (j + 1) (acc + 0)  (by omega))
    · skip
      refine e_iconst (v := 1) (p := 31) dX12_rivalsOf_30 (by decide) rfl ?_
      refine e_goto (p := 35) dX12_rivalsOf_31 (by decide) rfl ?_
      refine e_iadd (p := 36) dX12_rivalsOf_35 rfl ?_
      refine e_istore_n (ls1 := [.ref 95, .int h, .int (acc + 1), .int (nI j)]) (p := 37) dX12_rivalsOf_36 rfl rfl ?_
      refine e_iinc (ls1 := [.ref 95, .int h, .int (acc + 1), .int ((nI j) + 1)]) (p := 40) dX12_rivalsOf_37 rfl rfl rfl ?_
      refine e_goto (p := 4) dX12_rivalsOf_40 (by decide) rfl ?_
      rw [nI_1]
      exact Ev.res (by simp only [gN_s, hc27, bit, Int32.or_zero, Int32.add_zero, ↓reduceIte]) (y_rivalsOf_L hF hM hW m (j + 1) (acc + 1)  (by omega))
set_option maxRecDepth 10000 in
theorem y_rivalsOf {I : Nat → Nat → Int32} {J : Nat → Nat → Int64} {F : Nat → Nat → Option Nat} {nc ns : Nat} {D : oD} (hF : RFok F) (hM : oM I 98 D) (hW : WF D) {h : Int32} : Ev 0 mX12_rivalsOf 0 [.ref 95, .int h, .null, .null] [] ((SH, nc, ns), I, J, F) (some (.int (rivalsS D h))) ((SH, nc, ns), I, J, F) := by
  have hD := hW.c
  have hH := hW.h
  have hT := hW.t
  have bt := hT.2
  obtain ⟨b0, b1, b2, b3, b4, b5, b6⟩ := hD.2
  refine e_iconst (v := 0) (p := 1) dX12_rivalsOf_0 (by decide) rfl ?_
  refine e_istore_n (ls1 := [.ref 95, .int h, .int 0, .null]) (p := 2) dX12_rivalsOf_1 rfl rfl ?_
  refine e_iconst (v := 0) (p := 3) dX12_rivalsOf_2 (by decide) rfl ?_
  refine e_istore_n (ls1 := [.ref 95, .int h, .int 0, .int 0]) (p := 4) dX12_rivalsOf_3 rfl rfl ?_
  exact y_rivalsOf_L hF hM hW _ 0 _ (by omega)
def whS (v l : Int32) : Int32 := if v = 0 then 1 else nuS l 0 30
theorem nu_in {v a b : Int32} : nuS v a b = if inS v a b = 0 then 2 else 0 := by
  unfold inS nuS
  by_cases c : v < a
  · simp [c]
  · by_cases c2 : b < v
    · simp [c, c2]
    · simp [c, c2]
theorem wh_ix {v l : Int32} {n : Nat} : whS (ixB v n) l = eiS (ixS v n) (nuS l 0 30) := by
  unfold whS eiS ixB
  rcases ix01 (v := v) (n := n) with e | e <;> rw [e] <;> rfl
set_option maxRecDepth 10000 in
theorem y_why {I : Nat → Nat → Int32} {J : Nat → Nat → Int64} {F : Nat → Nat → Option Nat} {nc ns : Nat} {v l : Int32} : Ev 2 mX12_why 0 [.ref 95, .int v, .int l] [] ((SH, nc, ns), I, J, F) (some (.int (whS v l))) ((SH, nc, ns), I, J, F) := by
  refine e_iload_n (p := 1) dX12_why_0 rfl rfl ?_
  refine e_if_ne (t := 8) (p := 4) dX12_why_1 (by decide) rfl rfl (fun hc1 => ?_) (fun hc1 => ?_)
  · skip
    refine e_iload_n (p := 9) dX12_why_8 rfl rfl ?_
    refine e_callS_int (p := 12) (k' := 1) (a := [.int l]) (rr := []) dX12_why_9 rfl rfl rfl rfl rfl (rc_st rfl) (Nat.le_of_ble_eq_true rfl) (Nat.le_of_ble_eq_true rfl) (by decide) (y_isLanding  ) (Or.inl rfl) rfl ?_
    refine e_if_eq (t := 19) (p := 15) dX12_why_12 (by decide) rfl rfl (fun hc12 => ?_) (fun hc12 => ?_)
    · skip
      refine e_iconst (v := 2) (p := 20) dX12_why_19 (by decide) rfl ?_
      exact e_iretE dX12_why_20 rfl rfl (by decide) ⟨by simp only [whS, nu_in, *, ↓reduceIte], rfl⟩
    · skip
      refine e_iconst (v := 0) (p := 16) dX12_why_15 (by decide) rfl ?_
      refine e_goto (p := 20) dX12_why_16 (by decide) rfl ?_
      exact e_iretE dX12_why_20 rfl rfl (by decide) ⟨by simp only [whS, nu_in, *, ↓reduceIte], rfl⟩
  · skip
    refine e_iconst (v := 1) (p := 5) dX12_why_4 (by decide) rfl ?_
    refine e_goto (p := 20) dX12_why_5 (by decide) rfl ?_
    exact e_iretE dX12_why_20 rfl rfl (by decide) ⟨by simp only [whS, nu_in, *, ↓reduceIte], rfl⟩
theorem ageOk_in {a : Int32} : ageOk a = inS a 16 40 := rfl
set_option maxRecDepth 10000 in
theorem y_heartAt {I : Nat → Nat → Int32} {J : Nat → Nat → Int64} {F : Nat → Nat → Option Nat} {nc ns : Nat} {D : oD} (hF : RFok F) (hM : oM I 98 D) (hW : WF D) {w : Nat} {l y : Int32} (hw : w < dN D 2) : Ev 2 mX12_heartAt 0 [.ref 95, .int (nI w), .int l, .int y, .null, .null, .null] [] ((SH, nc, ns), I, J, F) (some (.int (heartS D w (l * y)))) ((SH, nc, ns), I, J, F) := by
  have hD := hW.c
  have hH := hW.h
  have hT := hW.t
  have bt := hT.2
  obtain ⟨b0, b1, b2, b3, b4, b5, b6⟩ := hD.2
  refine e_aload_n (p := 1) dX12_heartAt_0 rfl rfl ?_
  refine e_iload_n (p := 2) dX12_heartAt_1 rfl rfl ?_
  refine e_iload_n (p := 3) dX12_heartAt_2 rfl rfl ?_
  refine e_iload_n (p := 4) dX12_heartAt_3 rfl rfl ?_
  refine e_callV_int (p := 7) (k' := 1) (a := [.ref 95, .int (nI w), .int l, .int y]) (rr := []) dX12_heartAt_4 rfl rfl rfl rfl (rc_of rfl rfl (by decide) ⟨rfl, by decide⟩) (Nat.le_of_ble_eq_true rfl) (Nat.le_of_ble_eq_true rfl) (by decide) (y_ageAt hF hM hW (by omega)) (Or.inl rfl) rfl ?_
  refine e_bipush (v := 16) (p := 9) dX12_heartAt_7 (by decide) rfl ?_
  refine e_bipush (v := 40) (p := 11) dX12_heartAt_9 (by decide) rfl ?_
  refine e_callS_int (p := 14) (k' := 0) (a := [.int (l * y - D 9 w), .int 16, .int 40]) (rr := []) dX12_heartAt_11 rfl rfl rfl rfl rfl (rc_st rfl) (Nat.le_of_ble_eq_true rfl) (Nat.le_of_ble_eq_true rfl) (by decide) (y_in  ) (Or.inl rfl) rfl ?_
  refine e_if_ne (t := 19) (p := 17) dX12_heartAt_14 (by decide) rfl rfl (fun hc14 => ?_) (fun hc14 => ?_)
  · skip
    refine e_aload_n (p := 20) dX12_heartAt_19 rfl rfl ?_
    refine e_iload_n (p := 21) dX12_heartAt_20 rfl rfl ?_
    refine e_iconst (v := 1) (p := 22) dX12_heartAt_21 (by decide) rfl ?_
    refine e_callV_int (p := 25) (k' := 0) (a := [.ref 95, .int (nI w), .int 1]) (rr := []) dX12_heartAt_22 rfl rfl rfl rfl (rc_of rfl rfl (by decide) ⟨rfl, by decide⟩) (Nat.le_of_ble_eq_true rfl) (Nat.le_of_ble_eq_true rfl) (by decide) (y_ofWoman (x := w) (k := 1) hF (m7 hM (by omega)) (by omega) (by omega)) (Or.inl rfl) rfl ?_
    refine e_istore (ls1 := [.ref 95, .int (nI w), .int l, .int y, .int (D 7 w), .null, .null]) (p := 27) dX12_heartAt_25 rfl rfl ?_
    refine e_aload_n (p := 28) dX12_heartAt_27 rfl rfl ?_
    refine e_iload_n (p := 29) dX12_heartAt_28 rfl rfl ?_
    refine e_iconst (v := 0) (p := 30) dX12_heartAt_29 (by decide) rfl ?_
    refine e_callV_int (p := 33) (k' := 0) (a := [.ref 95, .int (nI w), .int 0]) (rr := []) dX12_heartAt_30 rfl rfl rfl rfl (rc_of rfl rfl (by decide) ⟨rfl, by decide⟩) (Nat.le_of_ble_eq_true rfl) (Nat.le_of_ble_eq_true rfl) (by decide) (y_ofWoman (x := w) (k := 0) hF (m6 hM (by omega)) (by omega) (by omega)) (Or.inl rfl) rfl ?_
    refine e_istore (ls1 := [.ref 95, .int (nI w), .int l, .int y, .int (D 7 w), .int (D 6 w), .null]) (p := 35) dX12_heartAt_33 rfl rfl ?_
    refine e_iload (p := 37) dX12_heartAt_35 rfl rfl ?_
    refine e_iconst (v := 1) (p := 38) dX12_heartAt_37 (by decide) rfl ?_
    refine e_icmp_ne (t := 50) (p := 41) dX12_heartAt_38 (by decide) rfl rfl (fun hc38 => ?_) (fun hc38 => ?_)
    · skip
      refine e_aload_n (p := 51) dX12_heartAt_50 rfl rfl ?_
      refine e_iload_n (p := 52) dX12_heartAt_51 rfl rfl ?_
      refine e_iconst (v := 2) (p := 53) dX12_heartAt_52 (by decide) rfl ?_
      refine e_callV_int (p := 56) (k' := 0) (a := [.ref 95, .int (nI w), .int 2]) (rr := []) dX12_heartAt_53 rfl rfl rfl rfl (rc_of rfl rfl (by decide) ⟨rfl, by decide⟩) (Nat.le_of_ble_eq_true rfl) (Nat.le_of_ble_eq_true rfl) (by decide) (y_ofWoman (x := w) (k := 2) hF (m8 hM (by omega)) (by omega) (by omega)) (Or.inl rfl) rfl ?_
      refine e_sipush (v := 200) (p := 59) dX12_heartAt_56 (by decide) rfl ?_
      refine e_aload_n (p := 60) dX12_heartAt_59 rfl rfl ?_
      refine e_iload (p := 62) dX12_heartAt_60 rfl rfl ?_
      refine e_iconst (v := 0) (p := 63) dX12_heartAt_62 (by decide) rfl ?_
      refine e_callV_int (p := 66) (k' := 0) (a := [.ref 95, .int (D 7 w), .int 0]) (rr := [.int 200, .int (D 8 w)]) dX12_heartAt_63 rfl rfl rfl rfl (rc_of rfl rfl (by decide) ⟨rfl, by decide⟩) (Nat.le_of_ble_eq_true rfl) (Nat.le_of_ble_eq_true rfl) (by decide) ((hm_eq hD hH (show w < dN D 2 by omega)).symm ▸ y_ofHarbour (x := (D 7 w).toNatClampNeg) (k := 0) hF (m3 hM (hm_lt hD hH (show w < dN D 2 by omega))) (by have := hm_lt hD hH (show w < dN D 2 by omega); omega) (by omega)) (Or.inl rfl) rfl ?_
      refine e_isub (p := 67) dX12_heartAt_66 rfl ?_
      refine e_imul (p := 68) dX12_heartAt_67 rfl ?_
      refine e_sipush (v := 200) (p := 71) dX12_heartAt_68 (by decide) rfl ?_
      refine e_idiv (p := 72) dX12_heartAt_71 (by decide) rfl ?_
      refine e_istore (ls1 := [.ref 95, .int (nI w), .int l, .int y, .int (D 7 w), .int (D 6 w), .int (((D 8 w) * (200 - (D 3 (D 7 w).toNatClampNeg))) / 200)]) (p := 74) dX12_heartAt_72 rfl rfl ?_
      refine e_iload (p := 76) dX12_heartAt_74 rfl rfl ?_
      refine e_iconst (v := 3) (p := 77) dX12_heartAt_76 (by decide) rfl ?_
      refine e_icmp_ne (t := 86) (p := 80) dX12_heartAt_77 (by decide) rfl rfl (fun hc77 => ?_) (fun hc77 => ?_)
      · skip
        refine e_iload (p := 88) dX12_heartAt_86 rfl rfl ?_
        refine e_iconst (v := 2) (p := 89) dX12_heartAt_88 (by decide) rfl ?_
        refine e_icmp_ne (t := 117) (p := 92) dX12_heartAt_89 (by decide) rfl rfl (fun hc89 => ?_) (fun hc89 => ?_)
        · skip
          refine e_iload (p := 119) dX12_heartAt_117 rfl rfl ?_
          exact e_iretE dX12_heartAt_119 rfl rfl (by decide) ⟨by first | (simp [heartS, ageOk_in, ← Int32.not_le, *]; done) | (exfalso; simp_all; done), rfl⟩
        · skip
          refine e_aload_n (p := 93) dX12_heartAt_92 rfl rfl ?_
          refine e_iload (p := 95) dX12_heartAt_93 rfl rfl ?_
          refine e_iconst (v := 1) (p := 96) dX12_heartAt_95 (by decide) rfl ?_
          refine e_callV_int (p := 99) (k' := 0) (a := [.ref 95, .int (D 7 w), .int 1]) (rr := []) dX12_heartAt_96 rfl rfl rfl rfl (rc_of rfl rfl (by decide) ⟨rfl, by decide⟩) (Nat.le_of_ble_eq_true rfl) (Nat.le_of_ble_eq_true rfl) (by decide) ((hm_eq hD hH (show w < dN D 2 by omega)).symm ▸ y_ofHarbour (x := (D 7 w).toNatClampNeg) (k := 1) hF (m4 hM (hm_lt hD hH (show w < dN D 2 by omega))) (by have := hm_lt hD hH (show w < dN D 2 by omega); omega) (by omega)) (Or.inl rfl) rfl ?_
          refine e_iconst (v := 2) (p := 100) dX12_heartAt_99 (by decide) rfl ?_
          refine e_idiv (p := 101) dX12_heartAt_100 (by decide) rfl ?_
          refine e_iload (p := 103) dX12_heartAt_101 rfl rfl ?_
          refine e_icmp_le (t := 117) (p := 106) dX12_heartAt_103 (by decide) rfl rfl (fun hc103 => ?_) (fun hc103 => ?_)
          · skip
            refine e_iload (p := 119) dX12_heartAt_117 rfl rfl ?_
            exact e_iretE dX12_heartAt_119 rfl rfl (by decide) ⟨by first | (simp [heartS, ageOk_in, ← Int32.not_le, *]; done) | (exfalso; simp_all; done), rfl⟩
          · skip
            refine e_aload_n (p := 107) dX12_heartAt_106 rfl rfl ?_
            refine e_iload (p := 109) dX12_heartAt_107 rfl rfl ?_
            refine e_iconst (v := 1) (p := 110) dX12_heartAt_109 (by decide) rfl ?_
            refine e_callV_int (p := 113) (k' := 0) (a := [.ref 95, .int (D 7 w), .int 1]) (rr := []) dX12_heartAt_110 rfl rfl rfl rfl (rc_of rfl rfl (by decide) ⟨rfl, by decide⟩) (Nat.le_of_ble_eq_true rfl) (Nat.le_of_ble_eq_true rfl) (by decide) ((hm_eq hD hH (show w < dN D 2 by omega)).symm ▸ y_ofHarbour (x := (D 7 w).toNatClampNeg) (k := 1) hF (m4 hM (hm_lt hD hH (show w < dN D 2 by omega))) (by have := hm_lt hD hH (show w < dN D 2 by omega); omega) (by omega)) (Or.inl rfl) rfl ?_
            refine e_iconst (v := 2) (p := 114) dX12_heartAt_113 (by decide) rfl ?_
            refine e_idiv (p := 115) dX12_heartAt_114 (by decide) rfl ?_
            refine e_istore (ls1 := [.ref 95, .int (nI w), .int l, .int y, .int (D 7 w), .int (D 6 w), .int ((D 4 (D 7 w).toNatClampNeg) / 2)]) (p := 117) dX12_heartAt_115 rfl rfl ?_
            refine e_iload (p := 119) dX12_heartAt_117 rfl rfl ?_
            exact e_iretE dX12_heartAt_119 rfl rfl (by decide) ⟨by first | (simp [heartS, ageOk_in, ← Int32.not_le, *]; done) | (exfalso; simp_all; done), rfl⟩
      · skip
        refine e_iload (p := 82) dX12_heartAt_80 rfl rfl ?_
        refine e_iconst (v := 2) (p := 83) dX12_heartAt_82 (by decide) rfl ?_
        refine e_idiv (p := 84) dX12_heartAt_83 (by decide) rfl ?_
        refine e_istore (ls1 := [.ref 95, .int (nI w), .int l, .int y, .int (D 7 w), .int (D 6 w), .int ((((D 8 w) * (200 - (D 3 (D 7 w).toNatClampNeg))) / 200) / 2)]) (p := 86) dX12_heartAt_84 rfl rfl ?_
        refine e_iload (p := 88) dX12_heartAt_86 rfl rfl ?_
        refine e_iconst (v := 2) (p := 89) dX12_heartAt_88 (by decide) rfl ?_
        refine e_icmp_ne (t := 117) (p := 92) dX12_heartAt_89 (by decide) rfl rfl (fun hc89 => ?_) (fun hc89 => ?_)
        · skip
          refine e_iload (p := 119) dX12_heartAt_117 rfl rfl ?_
          exact e_iretE dX12_heartAt_119 rfl rfl (by decide) ⟨by first | (simp [heartS, ageOk_in, ← Int32.not_le, *]; done) | (exfalso; simp_all; done), rfl⟩
        · skip
          refine e_aload_n (p := 93) dX12_heartAt_92 rfl rfl ?_
          refine e_iload (p := 95) dX12_heartAt_93 rfl rfl ?_
          refine e_iconst (v := 1) (p := 96) dX12_heartAt_95 (by decide) rfl ?_
          refine e_callV_int (p := 99) (k' := 0) (a := [.ref 95, .int (D 7 w), .int 1]) (rr := []) dX12_heartAt_96 rfl rfl rfl rfl (rc_of rfl rfl (by decide) ⟨rfl, by decide⟩) (Nat.le_of_ble_eq_true rfl) (Nat.le_of_ble_eq_true rfl) (by decide) ((hm_eq hD hH (show w < dN D 2 by omega)).symm ▸ y_ofHarbour (x := (D 7 w).toNatClampNeg) (k := 1) hF (m4 hM (hm_lt hD hH (show w < dN D 2 by omega))) (by have := hm_lt hD hH (show w < dN D 2 by omega); omega) (by omega)) (Or.inl rfl) rfl ?_
          refine e_iconst (v := 2) (p := 100) dX12_heartAt_99 (by decide) rfl ?_
          refine e_idiv (p := 101) dX12_heartAt_100 (by decide) rfl ?_
          refine e_iload (p := 103) dX12_heartAt_101 rfl rfl ?_
          refine e_icmp_le (t := 117) (p := 106) dX12_heartAt_103 (by decide) rfl rfl (fun hc103 => ?_) (fun hc103 => ?_)
          · skip
            refine e_iload (p := 119) dX12_heartAt_117 rfl rfl ?_
            exact e_iretE dX12_heartAt_119 rfl rfl (by decide) ⟨by first | (simp [heartS, ageOk_in, ← Int32.not_le, *]; done) | (exfalso; simp_all; done), rfl⟩
          · skip
            refine e_aload_n (p := 107) dX12_heartAt_106 rfl rfl ?_
            refine e_iload (p := 109) dX12_heartAt_107 rfl rfl ?_
            refine e_iconst (v := 1) (p := 110) dX12_heartAt_109 (by decide) rfl ?_
            refine e_callV_int (p := 113) (k' := 0) (a := [.ref 95, .int (D 7 w), .int 1]) (rr := []) dX12_heartAt_110 rfl rfl rfl rfl (rc_of rfl rfl (by decide) ⟨rfl, by decide⟩) (Nat.le_of_ble_eq_true rfl) (Nat.le_of_ble_eq_true rfl) (by decide) ((hm_eq hD hH (show w < dN D 2 by omega)).symm ▸ y_ofHarbour (x := (D 7 w).toNatClampNeg) (k := 1) hF (m4 hM (hm_lt hD hH (show w < dN D 2 by omega))) (by have := hm_lt hD hH (show w < dN D 2 by omega); omega) (by omega)) (Or.inl rfl) rfl ?_
            refine e_iconst (v := 2) (p := 114) dX12_heartAt_113 (by decide) rfl ?_
            refine e_idiv (p := 115) dX12_heartAt_114 (by decide) rfl ?_
            refine e_istore (ls1 := [.ref 95, .int (nI w), .int l, .int y, .int (D 7 w), .int (D 6 w), .int ((D 4 (D 7 w).toNatClampNeg) / 2)]) (p := 117) dX12_heartAt_115 rfl rfl ?_
            refine e_iload (p := 119) dX12_heartAt_117 rfl rfl ?_
            exact e_iretE dX12_heartAt_119 rfl rfl (by decide) ⟨by first | (simp [heartS, ageOk_in, ← Int32.not_le, *]; done) | (exfalso; simp_all; done), rfl⟩
    · skip
      refine e_aload_n (p := 42) dX12_heartAt_41 rfl rfl ?_
      refine e_iload_n (p := 43) dX12_heartAt_42 rfl rfl ?_
      refine e_iconst (v := 2) (p := 44) dX12_heartAt_43 (by decide) rfl ?_
      refine e_callV_int (p := 47) (k' := 0) (a := [.ref 95, .int (nI w), .int 2]) (rr := []) dX12_heartAt_44 rfl rfl rfl rfl (rc_of rfl rfl (by decide) ⟨rfl, by decide⟩) (Nat.le_of_ble_eq_true rfl) (Nat.le_of_ble_eq_true rfl) (by decide) (y_ofWoman (x := w) (k := 2) hF (m8 hM (by omega)) (by omega) (by omega)) (Or.inl rfl) rfl ?_
      refine e_goto (p := 72) dX12_heartAt_47 (by decide) rfl ?_
      refine e_istore (ls1 := [.ref 95, .int (nI w), .int l, .int y, .int (D 7 w), .int (D 6 w), .int (D 8 w)]) (p := 74) dX12_heartAt_72 rfl rfl ?_
      refine e_iload (p := 76) dX12_heartAt_74 rfl rfl ?_
      refine e_iconst (v := 3) (p := 77) dX12_heartAt_76 (by decide) rfl ?_
      refine e_icmp_ne (t := 86) (p := 80) dX12_heartAt_77 (by decide) rfl rfl (fun hc77 => ?_) (fun hc77 => ?_)
      · skip
        refine e_iload (p := 88) dX12_heartAt_86 rfl rfl ?_
        refine e_iconst (v := 2) (p := 89) dX12_heartAt_88 (by decide) rfl ?_
        refine e_icmp_ne (t := 117) (p := 92) dX12_heartAt_89 (by decide) rfl rfl (fun hc89 => ?_) (fun hc89 => ?_)
        · skip
          refine e_iload (p := 119) dX12_heartAt_117 rfl rfl ?_
          exact e_iretE dX12_heartAt_119 rfl rfl (by decide) ⟨by first | (simp [heartS, ageOk_in, ← Int32.not_le, *]; done) | (exfalso; simp_all; done), rfl⟩
        · skip
          refine e_aload_n (p := 93) dX12_heartAt_92 rfl rfl ?_
          refine e_iload (p := 95) dX12_heartAt_93 rfl rfl ?_
          refine e_iconst (v := 1) (p := 96) dX12_heartAt_95 (by decide) rfl ?_
          refine e_callV_int (p := 99) (k' := 0) (a := [.ref 95, .int (D 7 w), .int 1]) (rr := []) dX12_heartAt_96 rfl rfl rfl rfl (rc_of rfl rfl (by decide) ⟨rfl, by decide⟩) (Nat.le_of_ble_eq_true rfl) (Nat.le_of_ble_eq_true rfl) (by decide) ((hm_eq hD hH (show w < dN D 2 by omega)).symm ▸ y_ofHarbour (x := (D 7 w).toNatClampNeg) (k := 1) hF (m4 hM (hm_lt hD hH (show w < dN D 2 by omega))) (by have := hm_lt hD hH (show w < dN D 2 by omega); omega) (by omega)) (Or.inl rfl) rfl ?_
          refine e_iconst (v := 2) (p := 100) dX12_heartAt_99 (by decide) rfl ?_
          refine e_idiv (p := 101) dX12_heartAt_100 (by decide) rfl ?_
          refine e_iload (p := 103) dX12_heartAt_101 rfl rfl ?_
          refine e_icmp_le (t := 117) (p := 106) dX12_heartAt_103 (by decide) rfl rfl (fun hc103 => ?_) (fun hc103 => ?_)
          · skip
            refine e_iload (p := 119) dX12_heartAt_117 rfl rfl ?_
            exact e_iretE dX12_heartAt_119 rfl rfl (by decide) ⟨by first | (simp [heartS, ageOk_in, ← Int32.not_le, *]; done) | (exfalso; simp_all; done), rfl⟩
          · skip
            refine e_aload_n (p := 107) dX12_heartAt_106 rfl rfl ?_
            refine e_iload (p := 109) dX12_heartAt_107 rfl rfl ?_
            refine e_iconst (v := 1) (p := 110) dX12_heartAt_109 (by decide) rfl ?_
            refine e_callV_int (p := 113) (k' := 0) (a := [.ref 95, .int (D 7 w), .int 1]) (rr := []) dX12_heartAt_110 rfl rfl rfl rfl (rc_of rfl rfl (by decide) ⟨rfl, by decide⟩) (Nat.le_of_ble_eq_true rfl) (Nat.le_of_ble_eq_true rfl) (by decide) ((hm_eq hD hH (show w < dN D 2 by omega)).symm ▸ y_ofHarbour (x := (D 7 w).toNatClampNeg) (k := 1) hF (m4 hM (hm_lt hD hH (show w < dN D 2 by omega))) (by have := hm_lt hD hH (show w < dN D 2 by omega); omega) (by omega)) (Or.inl rfl) rfl ?_
            refine e_iconst (v := 2) (p := 114) dX12_heartAt_113 (by decide) rfl ?_
            refine e_idiv (p := 115) dX12_heartAt_114 (by decide) rfl ?_
            refine e_istore (ls1 := [.ref 95, .int (nI w), .int l, .int y, .int (D 7 w), .int (D 6 w), .int ((D 4 (D 7 w).toNatClampNeg) / 2)]) (p := 117) dX12_heartAt_115 rfl rfl ?_
            refine e_iload (p := 119) dX12_heartAt_117 rfl rfl ?_
            exact e_iretE dX12_heartAt_119 rfl rfl (by decide) ⟨by first | (simp [heartS, ageOk_in, ← Int32.not_le, *]; done) | (exfalso; simp_all; done), rfl⟩
      · skip
        refine e_iload (p := 82) dX12_heartAt_80 rfl rfl ?_
        refine e_iconst (v := 2) (p := 83) dX12_heartAt_82 (by decide) rfl ?_
        refine e_idiv (p := 84) dX12_heartAt_83 (by decide) rfl ?_
        refine e_istore (ls1 := [.ref 95, .int (nI w), .int l, .int y, .int (D 7 w), .int (D 6 w), .int ((D 8 w) / 2)]) (p := 86) dX12_heartAt_84 rfl rfl ?_
        refine e_iload (p := 88) dX12_heartAt_86 rfl rfl ?_
        refine e_iconst (v := 2) (p := 89) dX12_heartAt_88 (by decide) rfl ?_
        refine e_icmp_ne (t := 117) (p := 92) dX12_heartAt_89 (by decide) rfl rfl (fun hc89 => ?_) (fun hc89 => ?_)
        · skip
          refine e_iload (p := 119) dX12_heartAt_117 rfl rfl ?_
          exact e_iretE dX12_heartAt_119 rfl rfl (by decide) ⟨by first | (simp [heartS, ageOk_in, ← Int32.not_le, *]; done) | (exfalso; simp_all; done), rfl⟩
        · skip
          refine e_aload_n (p := 93) dX12_heartAt_92 rfl rfl ?_
          refine e_iload (p := 95) dX12_heartAt_93 rfl rfl ?_
          refine e_iconst (v := 1) (p := 96) dX12_heartAt_95 (by decide) rfl ?_
          refine e_callV_int (p := 99) (k' := 0) (a := [.ref 95, .int (D 7 w), .int 1]) (rr := []) dX12_heartAt_96 rfl rfl rfl rfl (rc_of rfl rfl (by decide) ⟨rfl, by decide⟩) (Nat.le_of_ble_eq_true rfl) (Nat.le_of_ble_eq_true rfl) (by decide) ((hm_eq hD hH (show w < dN D 2 by omega)).symm ▸ y_ofHarbour (x := (D 7 w).toNatClampNeg) (k := 1) hF (m4 hM (hm_lt hD hH (show w < dN D 2 by omega))) (by have := hm_lt hD hH (show w < dN D 2 by omega); omega) (by omega)) (Or.inl rfl) rfl ?_
          refine e_iconst (v := 2) (p := 100) dX12_heartAt_99 (by decide) rfl ?_
          refine e_idiv (p := 101) dX12_heartAt_100 (by decide) rfl ?_
          refine e_iload (p := 103) dX12_heartAt_101 rfl rfl ?_
          refine e_icmp_le (t := 117) (p := 106) dX12_heartAt_103 (by decide) rfl rfl (fun hc103 => ?_) (fun hc103 => ?_)
          · skip
            refine e_iload (p := 119) dX12_heartAt_117 rfl rfl ?_
            exact e_iretE dX12_heartAt_119 rfl rfl (by decide) ⟨by first | (simp [heartS, ageOk_in, ← Int32.not_le, *]; done) | (exfalso; simp_all; done), rfl⟩
          · skip
            refine e_aload_n (p := 107) dX12_heartAt_106 rfl rfl ?_
            refine e_iload (p := 109) dX12_heartAt_107 rfl rfl ?_
            refine e_iconst (v := 1) (p := 110) dX12_heartAt_109 (by decide) rfl ?_
            refine e_callV_int (p := 113) (k' := 0) (a := [.ref 95, .int (D 7 w), .int 1]) (rr := []) dX12_heartAt_110 rfl rfl rfl rfl (rc_of rfl rfl (by decide) ⟨rfl, by decide⟩) (Nat.le_of_ble_eq_true rfl) (Nat.le_of_ble_eq_true rfl) (by decide) ((hm_eq hD hH (show w < dN D 2 by omega)).symm ▸ y_ofHarbour (x := (D 7 w).toNatClampNeg) (k := 1) hF (m4 hM (hm_lt hD hH (show w < dN D 2 by omega))) (by have := hm_lt hD hH (show w < dN D 2 by omega); omega) (by omega)) (Or.inl rfl) rfl ?_
            refine e_iconst (v := 2) (p := 114) dX12_heartAt_113 (by decide) rfl ?_
            refine e_idiv (p := 115) dX12_heartAt_114 (by decide) rfl ?_
            refine e_istore (ls1 := [.ref 95, .int (nI w), .int l, .int y, .int (D 7 w), .int (D 6 w), .int ((D 4 (D 7 w).toNatClampNeg) / 2)]) (p := 117) dX12_heartAt_115 rfl rfl ?_
            refine e_iload (p := 119) dX12_heartAt_117 rfl rfl ?_
            exact e_iretE dX12_heartAt_119 rfl rfl (by decide) ⟨by first | (simp [heartS, ageOk_in, ← Int32.not_le, *]; done) | (exfalso; simp_all; done), rfl⟩
  · skip
    refine e_iconst (v := 0) (p := 18) dX12_heartAt_17 (by decide) rfl ?_
    exact e_iretE dX12_heartAt_18 rfl rfl (by decide) ⟨by first | (simp [heartS, ageOk_in, ← Int32.not_le, *]; done) | (exfalso; simp_all; done), rfl⟩
set_option maxRecDepth 10000 in
theorem y_loveAt_L {I : Nat → Nat → Int32} {J : Nat → Nat → Int64} {F : Nat → Nat → Option Nat} {nc ns : Nat} {D : oD} (hF : RFok F) (hM : oM I 98 D) (hW : WF D) {w : Nat} {l y : Int32} : ∀ (m j : Nat) (acc : Int32), j + m = dN D 3 → Ev 3 mX12_loveAt 12 [.ref 95, .int (nI w), .int l, .int y, .int acc, .int (nI j)] [] ((SH, nc, ns), I, J, F) (some (.int (gN (fun r a => if D 10 r = nI w then a * (100 - D 11 r) / 100 else a) j m acc))) ((SH, nc, ns), I, J, F)
  | 0, j, acc, hj => by
    have hD := hW.c
    have hH := hW.h
    have hT := hW.t
    have bt := hT.2
    obtain ⟨b0, b1, b2, b3, b4, b5, b6⟩ := hD.2
    refine e_iload (p := 14) dX12_loveAt_12 rfl rfl ?_
    refine e_aload_n (p := 15) dX12_loveAt_14 rfl rfl ?_
    refine e_getR (c := 11) (j := 15) (n := 37) (b := 98) (p := 18) dX12_loveAt_15 rfl rfl (by decide) (by decide) rfl (r_95_15 hF) rfl ?_
    refine e_iconst (v := 5) (p := 19) dX12_loveAt_18 (by decide) rfl ?_
    refine f_iald (n := 276) (i := 5) (v := nI (dN D 3)) (p := 20) dX12_loveAt_19 rfl (by decide) (by decide) (by decide) (mNn (i := 3) hM hD (by decide)) rfl ?_
    refine e_icmp_ge (t := 70) (p := 23) dX12_loveAt_20 (by decide) rfl rfl (fun hc20 => ?_) (fun hc20 => absurd (nle (by omega) (by omega)) hc20)
    refine e_iload (p := 72) dX12_loveAt_70 rfl rfl ?_
    exact e_iretE dX12_loveAt_72 rfl rfl (by decide) ⟨rfl, rfl⟩
  | m + 1, j, acc, hj => by
    have hD := hW.c
    have hH := hW.h
    have hT := hW.t
    have bt := hT.2
    obtain ⟨b0, b1, b2, b3, b4, b5, b6⟩ := hD.2
    refine e_iload (p := 14) dX12_loveAt_12 rfl rfl ?_
    refine e_aload_n (p := 15) dX12_loveAt_14 rfl rfl ?_
    refine e_getR (c := 11) (j := 15) (n := 37) (b := 98) (p := 18) dX12_loveAt_15 rfl rfl (by decide) (by decide) rfl (r_95_15 hF) rfl ?_
    refine e_iconst (v := 5) (p := 19) dX12_loveAt_18 (by decide) rfl ?_
    refine f_iald (n := 276) (i := 5) (v := nI (dN D 3)) (p := 20) dX12_loveAt_19 rfl (by decide) (by decide) (by decide) (mNn (i := 3) hM hD (by decide)) rfl ?_
    refine e_icmp_ge (t := 70) (p := 23) dX12_loveAt_20 (by decide) rfl rfl (fun hc20 => absurd hc20 (nge (by omega) (by omega))) (fun hc20 => ?_)
    refine e_aload_n (p := 24) dX12_loveAt_23 rfl rfl ?_
    refine e_getR (c := 11) (j := 15) (n := 37) (b := 98) (p := 27) dX12_loveAt_24 rfl rfl (by decide) (by decide) rfl (r_95_15 hF) rfl ?_
    refine e_bipush (v := 59) (p := 29) dX12_loveAt_27 (by decide) rfl ?_
    refine e_iconst (v := 2) (p := 30) dX12_loveAt_29 (by decide) rfl ?_
    refine e_iload (p := 32) dX12_loveAt_30 rfl rfl ?_
    refine e_imul (p := 33) dX12_loveAt_32 rfl ?_
    refine e_iadd (p := 34) dX12_loveAt_33 rfl ?_
    refine f_iald (n := 276) (i := (59 + 2 * j)) (v := D 10 j) (p := 35) dX12_loveAt_34 rfl (by decide) (in_ix (ix2 59 2 j) (by omega) (by decide)) (cl_ix (ix2 59 2 j) (by omega)) (m10 hM (by omega)) rfl ?_
    refine e_iload_n (p := 36) dX12_loveAt_35 rfl rfl ?_
    refine e_icmp_ne (t := 64) (p := 39) dX12_loveAt_36 (by decide) rfl rfl (fun hc36 => ?_) (fun hc36 => ?_)
    · skip
      refine e_iinc (ls1 := [.ref 95, .int (nI w), .int l, .int y, .int acc, .int ((nI j) + 1)]) (p := 67) dX12_loveAt_64 rfl rfl rfl ?_
      refine e_goto (p := 12) dX12_loveAt_67 (by decide) rfl ?_
      rw [nI_1]
      exact Ev.res (by simp only [gN_s, hc36, bit, Int32.or_zero, Int32.add_zero, ↓reduceIte]) (y_loveAt_L hF hM hW m (j + 1) acc  (by omega))
    · skip
      refine e_iload (p := 41) dX12_loveAt_39 rfl rfl ?_
      refine e_bipush (v := 100) (p := 43) dX12_loveAt_41 (by decide) rfl ?_
      refine e_aload_n (p := 44) dX12_loveAt_43 rfl rfl ?_
      refine e_getR (c := 11) (j := 15) (n := 37) (b := 98) (p := 47) dX12_loveAt_44 rfl rfl (by decide) (by decide) rfl (r_95_15 hF) rfl ?_
      refine e_bipush (v := 59) (p := 49) dX12_loveAt_47 (by decide) rfl ?_
      refine e_iconst (v := 2) (p := 50) dX12_loveAt_49 (by decide) rfl ?_
      refine e_iload (p := 52) dX12_loveAt_50 rfl rfl ?_
      refine e_imul (p := 53) dX12_loveAt_52 rfl ?_
      refine e_iadd (p := 54) dX12_loveAt_53 rfl ?_
      refine e_iconst (v := 1) (p := 55) dX12_loveAt_54 (by decide) rfl ?_
      refine e_iadd (p := 56) dX12_loveAt_55 rfl ?_
      refine f_iald (n := 276) (i := (59 + 2 * j + 1)) (v := D 11 j) (p := 57) dX12_loveAt_56 rfl (by decide) (in_ix (ix3 59 2 j 1) (by omega) (by decide)) (cl_ix (ix3 59 2 j 1) (by omega)) (m11 hM (by omega)) rfl ?_
      refine e_isub (p := 58) dX12_loveAt_57 rfl ?_
      refine e_imul (p := 59) dX12_loveAt_58 rfl ?_
      refine e_bipush (v := 100) (p := 61) dX12_loveAt_59 (by decide) rfl ?_
      refine e_idiv (p := 62) dX12_loveAt_61 (by decide) rfl ?_
      refine e_istore (ls1 := [.ref 95, .int (nI w), .int l, .int y, .int ((acc * (100 - (D 11 j))) / 100), .int (nI j)]) (p := 64) dX12_loveAt_62 rfl rfl ?_
      refine e_iinc (ls1 := [.ref 95, .int (nI w), .int l, .int y, .int ((acc * (100 - (D 11 j))) / 100), .int ((nI j) + 1)]) (p := 67) dX12_loveAt_64 rfl rfl rfl ?_
      refine e_goto (p := 12) dX12_loveAt_67 (by decide) rfl ?_
      rw [nI_1]
      exact Ev.res (by simp only [gN_s, hc36, bit, Int32.or_zero, Int32.add_zero, ↓reduceIte]) (y_loveAt_L hF hM hW m (j + 1) ((acc * (100 - (D 11 j))) / 100)  (by omega))
set_option maxRecDepth 10000 in
theorem y_loveAt {I : Nat → Nat → Int32} {J : Nat → Nat → Int64} {F : Nat → Nat → Option Nat} {nc ns : Nat} {D : oD} (hF : RFok F) (hM : oM I 98 D) (hW : WF D) {w : Nat} {l y : Int32} (hw : w < dN D 2) : Ev 3 mX12_loveAt 0 [.ref 95, .int (nI w), .int l, .int y, .null, .null] [] ((SH, nc, ns), I, J, F) (some (.int (loveS D w (l * y)))) ((SH, nc, ns), I, J, F) := by
  have hD := hW.c
  have hH := hW.h
  have hT := hW.t
  have bt := hT.2
  obtain ⟨b0, b1, b2, b3, b4, b5, b6⟩ := hD.2
  refine e_aload_n (p := 1) dX12_loveAt_0 rfl rfl ?_
  refine e_iload_n (p := 2) dX12_loveAt_1 rfl rfl ?_
  refine e_iload_n (p := 3) dX12_loveAt_2 rfl rfl ?_
  refine e_iload_n (p := 4) dX12_loveAt_3 rfl rfl ?_
  refine e_callV_int (p := 7) (k' := 2) (a := [.ref 95, .int (nI w), .int l, .int y]) (rr := []) dX12_loveAt_4 rfl rfl rfl rfl (rc_of rfl rfl (by decide) ⟨rfl, by decide⟩) (Nat.le_of_ble_eq_true rfl) (Nat.le_of_ble_eq_true rfl) (by decide) (y_heartAt hF hM hW (by omega)) (Or.inl rfl) rfl ?_
  refine e_istore (ls1 := [.ref 95, .int (nI w), .int l, .int y, .int (heartS D w (l * y)), .null]) (p := 9) dX12_loveAt_7 rfl rfl ?_
  refine e_iconst (v := 0) (p := 10) dX12_loveAt_9 (by decide) rfl ?_
  refine e_istore (ls1 := [.ref 95, .int (nI w), .int l, .int y, .int (heartS D w (l * y)), .int 0]) (p := 12) dX12_loveAt_10 rfl rfl ?_
  exact y_loveAt_L hF hM hW _ 0 _ (by omega)
set_option maxRecDepth 10000 in
theorem y_loveOf {I : Nat → Nat → Int32} {J : Nat → Nat → Int64} {F : Nat → Nat → Option Nat} {nc ns : Nat} {D : oD} (hF : RFok F) (hM : oM I 98 D) (hW : WF D) {w : Nat} {l : Int32} (hw : w < dN D 2) : Ev 4 mX12_loveOf 0 [.ref 95, .int (nI w), .int l] [] ((SH, nc, ns), I, J, F) (some (.int (loveS D w (l * D 0 0)))) ((SH, nc, ns), I, J, F) := by
  have hD := hW.c
  have hH := hW.h
  have hT := hW.t
  have bt := hT.2
  obtain ⟨b0, b1, b2, b3, b4, b5, b6⟩ := hD.2
  refine e_aload_n (p := 1) dX12_loveOf_0 rfl rfl ?_
  refine e_iload_n (p := 2) dX12_loveOf_1 rfl rfl ?_
  refine e_iload_n (p := 3) dX12_loveOf_2 rfl rfl ?_
  refine e_aload_n (p := 4) dX12_loveOf_3 rfl rfl ?_
  refine e_getR (c := 11) (j := 15) (n := 37) (b := 98) (p := 7) dX12_loveOf_4 rfl rfl (by decide) (by decide) rfl (r_95_15 hF) rfl ?_
  refine e_iconst (v := 0) (p := 8) dX12_loveOf_7 (by decide) rfl ?_
  refine f_iald (n := 276) (i := 0) (v := D 0 0) (p := 9) dX12_loveOf_8 rfl (by decide) (by decide) (by decide) hM.1 rfl ?_
  refine e_callV_int (p := 12) (k' := 3) (a := [.ref 95, .int (nI w), .int l, .int (D 0 0)]) (rr := []) dX12_loveOf_9 rfl rfl rfl rfl (rc_of rfl rfl (by decide) ⟨rfl, by decide⟩) (Nat.le_of_ble_eq_true rfl) (Nat.le_of_ble_eq_true rfl) (by decide) (y_loveAt hF hM hW (by omega)) (Or.inl rfl) rfl ?_
  exact e_iretE dX12_loveOf_12 rfl rfl (by decide) ⟨rfl, rfl⟩
set_option maxRecDepth 10000 in
theorem y_trials_L {I : Nat → Nat → Int32} {J : Nat → Nat → Int64} {F : Nat → Nat → Option Nat} {nc ns : Nat} {D : oD} (hF : RFok F) (hM : oM I 98 D) (hW : WF D) {x : Int64} : ∀ (m j : Nat) (acc : Int64), j + m = tN D → Ev 0 mX12_trials 5 [.ref 95, .long x, .null, .long acc, .null, .int (nI j)] [] ((SH, nc, ns), I, J, F) (some (.long (gN (fun _ a => a * x) j m acc))) ((SH, nc, ns), I, J, F)
  | 0, j, acc, hj => by
    have hD := hW.c
    have hH := hW.h
    have hT := hW.t
    have bt := hT.2
    obtain ⟨b0, b1, b2, b3, b4, b5, b6⟩ := hD.2
    refine e_iload (p := 7) dX12_trials_5 rfl rfl ?_
    refine e_aload_n (p := 8) dX12_trials_7 rfl rfl ?_
    refine e_getR (c := 11) (j := 15) (n := 37) (b := 98) (p := 11) dX12_trials_8 rfl rfl (by decide) (by decide) rfl (r_95_15 hF) rfl ?_
    refine e_iconst (v := 1) (p := 12) dX12_trials_11 (by decide) rfl ?_
    refine f_iald (n := 276) (i := 1) (v := nI (tN D)) (p := 13) dX12_trials_12 rfl (by decide) (by decide) (by decide) (hM.2.1.trans hT.1) rfl ?_
    refine e_icmp_ge (t := 26) (p := 16) dX12_trials_13 (by decide) rfl rfl (fun hc13 => ?_) (fun hc13 => absurd (nle (by omega) (by omega)) hc13)
    refine e_lload_n (p := 27) dX12_trials_26 rfl rfl ?_
    exact e_lretE dX12_trials_27 rfl ⟨rfl, rfl⟩
  | m + 1, j, acc, hj => by
    have hD := hW.c
    have hH := hW.h
    have hT := hW.t
    have bt := hT.2
    obtain ⟨b0, b1, b2, b3, b4, b5, b6⟩ := hD.2
    refine e_iload (p := 7) dX12_trials_5 rfl rfl ?_
    refine e_aload_n (p := 8) dX12_trials_7 rfl rfl ?_
    refine e_getR (c := 11) (j := 15) (n := 37) (b := 98) (p := 11) dX12_trials_8 rfl rfl (by decide) (by decide) rfl (r_95_15 hF) rfl ?_
    refine e_iconst (v := 1) (p := 12) dX12_trials_11 (by decide) rfl ?_
    refine f_iald (n := 276) (i := 1) (v := nI (tN D)) (p := 13) dX12_trials_12 rfl (by decide) (by decide) (by decide) (hM.2.1.trans hT.1) rfl ?_
    refine e_icmp_ge (t := 26) (p := 16) dX12_trials_13 (by decide) rfl rfl (fun hc13 => absurd hc13 (nge (by omega) (by omega))) (fun hc13 => ?_)
    refine e_lload_n (p := 17) dX12_trials_16 rfl rfl ?_
    refine e_lload_n (p := 18) dX12_trials_17 rfl rfl ?_
    refine e_lmul (p := 19) dX12_trials_18 rfl ?_
    refine e_lstore_n (ls1 := [.ref 95, .long x, .null, .long (acc * x), .null, .int (nI j)]) (p := 20) dX12_trials_19 rfl rfl ?_
    refine e_iinc (ls1 := [.ref 95, .long x, .null, .long (acc * x), .null, .int ((nI j) + 1)]) (p := 23) dX12_trials_20 rfl rfl rfl ?_
    refine e_goto (p := 5) dX12_trials_23 (by decide) rfl ?_
    rw [nI_1]
    exact Ev.res (by simp only [gN_s, bit, Int32.or_zero, Int32.add_zero, ↓reduceIte]) (y_trials_L hF hM hW m (j + 1) (acc * x)  (by omega))
set_option maxRecDepth 10000 in
theorem y_trials {I : Nat → Nat → Int32} {J : Nat → Nat → Int64} {F : Nat → Nat → Option Nat} {nc ns : Nat} {D : oD} (hF : RFok F) (hM : oM I 98 D) (hW : WF D) {x : Int64} : Ev 0 mX12_trials 0 [.ref 95, .long x, .null, .null, .null, .null] [] ((SH, nc, ns), I, J, F) (some (.long (powS D x))) ((SH, nc, ns), I, J, F) := by
  have hD := hW.c
  have hH := hW.h
  have hT := hW.t
  have bt := hT.2
  obtain ⟨b0, b1, b2, b3, b4, b5, b6⟩ := hD.2
  refine e_lconst (v := 1) (p := 1) dX12_trials_0 (by decide) rfl ?_
  refine e_lstore_n (ls1 := [.ref 95, .long x, .null, .long 1, .null, .null]) (p := 2) dX12_trials_1 rfl rfl ?_
  refine e_iconst (v := 0) (p := 3) dX12_trials_2 (by decide) rfl ?_
  refine e_istore (ls1 := [.ref 95, .long x, .null, .long 1, .null, .int 0]) (p := 5) dX12_trials_3 rfl rfl ?_
  exact y_trials_L hF hM hW _ 0 _ (by omega)
set_option maxRecDepth 10000 in
theorem y_sumBy_L {I : Nat → Nat → Int32} {J : Nat → Nat → Int64} {F : Nat → Nat → Option Nat} {nc ns : Nat} {D : oD} (hF : RFok F) (hM : oM I 98 D) (hW : WF D) {l y : Int32} : ∀ (m j : Nat) (acc : Int32), j + m = dN D 2 → Ev 4 mX12_sumBy 5 [.ref 95, .int l, .int y, .int acc, .int (nI j)] [] ((SH, nc, ns), I, J, F) (some (.int (gN (fun w a => a + loveS D w (l * y)) j m acc))) ((SH, nc, ns), I, J, F)
  | 0, j, acc, hj => by
    have hD := hW.c
    have hH := hW.h
    have hT := hW.t
    have bt := hT.2
    obtain ⟨b0, b1, b2, b3, b4, b5, b6⟩ := hD.2
    refine e_iload (p := 7) dX12_sumBy_5 rfl rfl ?_
    refine e_aload_n (p := 8) dX12_sumBy_7 rfl rfl ?_
    refine e_getR (c := 11) (j := 15) (n := 37) (b := 98) (p := 11) dX12_sumBy_8 rfl rfl (by decide) (by decide) rfl (r_95_15 hF) rfl ?_
    refine e_iconst (v := 4) (p := 12) dX12_sumBy_11 (by decide) rfl ?_
    refine f_iald (n := 276) (i := 4) (v := nI (dN D 2)) (p := 13) dX12_sumBy_12 rfl (by decide) (by decide) (by decide) (mNn (i := 2) hM hD (by decide)) rfl ?_
    refine e_icmp_ge (t := 33) (p := 16) dX12_sumBy_13 (by decide) rfl rfl (fun hc13 => ?_) (fun hc13 => absurd (nle (by omega) (by omega)) hc13)
    refine e_iload_n (p := 34) dX12_sumBy_33 rfl rfl ?_
    exact e_iretE dX12_sumBy_34 rfl rfl (by decide) ⟨rfl, rfl⟩
  | m + 1, j, acc, hj => by
    have hD := hW.c
    have hH := hW.h
    have hT := hW.t
    have bt := hT.2
    obtain ⟨b0, b1, b2, b3, b4, b5, b6⟩ := hD.2
    refine e_iload (p := 7) dX12_sumBy_5 rfl rfl ?_
    refine e_aload_n (p := 8) dX12_sumBy_7 rfl rfl ?_
    refine e_getR (c := 11) (j := 15) (n := 37) (b := 98) (p := 11) dX12_sumBy_8 rfl rfl (by decide) (by decide) rfl (r_95_15 hF) rfl ?_
    refine e_iconst (v := 4) (p := 12) dX12_sumBy_11 (by decide) rfl ?_
    refine f_iald (n := 276) (i := 4) (v := nI (dN D 2)) (p := 13) dX12_sumBy_12 rfl (by decide) (by decide) (by decide) (mNn (i := 2) hM hD (by decide)) rfl ?_
    refine e_icmp_ge (t := 33) (p := 16) dX12_sumBy_13 (by decide) rfl rfl (fun hc13 => absurd hc13 (nge (by omega) (by omega))) (fun hc13 => ?_)
    refine e_iload_n (p := 17) dX12_sumBy_16 rfl rfl ?_
    refine e_aload_n (p := 18) dX12_sumBy_17 rfl rfl ?_
    refine e_iload (p := 20) dX12_sumBy_18 rfl rfl ?_
    refine e_iload_n (p := 21) dX12_sumBy_20 rfl rfl ?_
    refine e_iload_n (p := 22) dX12_sumBy_21 rfl rfl ?_
    refine e_callV_int (p := 25) (k' := 3) (a := [.ref 95, .int (nI j), .int l, .int y]) (rr := [.int acc]) dX12_sumBy_22 rfl rfl rfl rfl (rc_of rfl rfl (by decide) ⟨rfl, by decide⟩) (Nat.le_of_ble_eq_true rfl) (Nat.le_of_ble_eq_true rfl) (by decide) (y_loveAt hF hM hW (by omega)) (Or.inl rfl) rfl ?_
    refine e_iadd (p := 26) dX12_sumBy_25 rfl ?_
    refine e_istore_n (ls1 := [.ref 95, .int l, .int y, .int (acc + (loveS D j (l * y))), .int (nI j)]) (p := 27) dX12_sumBy_26 rfl rfl ?_
    refine e_iinc (ls1 := [.ref 95, .int l, .int y, .int (acc + (loveS D j (l * y))), .int ((nI j) + 1)]) (p := 30) dX12_sumBy_27 rfl rfl rfl ?_
    refine e_goto (p := 5) dX12_sumBy_30 (by decide) rfl ?_
    rw [nI_1]
    exact Ev.res (by simp only [gN_s, bit, Int32.or_zero, Int32.add_zero, ↓reduceIte]) (y_sumBy_L hF hM hW m (j + 1) (acc + (loveS D j (l * y)))  (by omega))
set_option maxRecDepth 10000 in
theorem y_sumBy {I : Nat → Nat → Int32} {J : Nat → Nat → Int64} {F : Nat → Nat → Option Nat} {nc ns : Nat} {D : oD} (hF : RFok F) (hM : oM I 98 D) (hW : WF D) {l y : Int32} : Ev 4 mX12_sumBy 0 [.ref 95, .int l, .int y, .null, .null] [] ((SH, nc, ns), I, J, F) (some (.int (yS D (l * y)))) ((SH, nc, ns), I, J, F) := by
  have hD := hW.c
  have hH := hW.h
  have hT := hW.t
  have bt := hT.2
  obtain ⟨b0, b1, b2, b3, b4, b5, b6⟩ := hD.2
  refine e_iconst (v := 0) (p := 1) dX12_sumBy_0 (by decide) rfl ?_
  refine e_istore_n (ls1 := [.ref 95, .int l, .int y, .int 0, .null]) (p := 2) dX12_sumBy_1 rfl rfl ?_
  refine e_iconst (v := 0) (p := 3) dX12_sumBy_2 (by decide) rfl ?_
  refine e_istore (ls1 := [.ref 95, .int l, .int y, .int 0, .int 0]) (p := 5) dX12_sumBy_3 rfl rfl ?_
  exact y_sumBy_L hF hM hW _ 0 _ (by omega)
set_option maxRecDepth 10000 in
theorem y_lettersTo_L {I : Nat → Nat → Int32} {J : Nat → Nat → Int64} {F : Nat → Nat → Option Nat} {nc ns : Nat} {D : oD} (hF : RFok F) (hM : oM I 98 D) (hW : WF D) {h l : Int32} : ∀ (m j : Nat) (acc : Int32), j + m = dN D 4 → Ev 0 mX12_lettersTo 5 [.ref 95, .int h, .int l, .int acc, .int (nI j)] [] ((SH, nc, ns), I, J, F) (some (.int (gN (fun k a => if D 12 k = h then (if D 13 k < l then a else a ||| bit k) else a) j m acc))) ((SH, nc, ns), I, J, F)
  | 0, j, acc, hj => by
    have hD := hW.c
    have hH := hW.h
    have hT := hW.t
    have bt := hT.2
    obtain ⟨b0, b1, b2, b3, b4, b5, b6⟩ := hD.2
    refine e_iload (p := 7) dX12_lettersTo_5 rfl rfl ?_
    refine e_aload_n (p := 8) dX12_lettersTo_7 rfl rfl ?_
    refine e_getR (c := 11) (j := 15) (n := 37) (b := 98) (p := 11) dX12_lettersTo_8 rfl rfl (by decide) (by decide) rfl (r_95_15 hF) rfl ?_
    refine e_bipush (v := 6) (p := 13) dX12_lettersTo_11 (by decide) rfl ?_
    refine f_iald (n := 276) (i := 6) (v := nI (dN D 4)) (p := 14) dX12_lettersTo_13 rfl (by decide) (by decide) (by decide) (mNn (i := 4) hM hD (by decide)) rfl ?_
    refine e_icmp_ge (t := 68) (p := 17) dX12_lettersTo_14 (by decide) rfl rfl (fun hc14 => ?_) (fun hc14 => absurd (nle (by omega) (by omega)) hc14)
    refine e_iload_n (p := 69) dX12_lettersTo_68 rfl rfl ?_
    exact e_iretE dX12_lettersTo_69 rfl rfl (by decide) ⟨rfl, rfl⟩
  | m + 1, j, acc, hj => by
    have hD := hW.c
    have hH := hW.h
    have hT := hW.t
    have bt := hT.2
    obtain ⟨b0, b1, b2, b3, b4, b5, b6⟩ := hD.2
    refine e_iload (p := 7) dX12_lettersTo_5 rfl rfl ?_
    refine e_aload_n (p := 8) dX12_lettersTo_7 rfl rfl ?_
    refine e_getR (c := 11) (j := 15) (n := 37) (b := 98) (p := 11) dX12_lettersTo_8 rfl rfl (by decide) (by decide) rfl (r_95_15 hF) rfl ?_
    refine e_bipush (v := 6) (p := 13) dX12_lettersTo_11 (by decide) rfl ?_
    refine f_iald (n := 276) (i := 6) (v := nI (dN D 4)) (p := 14) dX12_lettersTo_13 rfl (by decide) (by decide) (by decide) (mNn (i := 4) hM hD (by decide)) rfl ?_
    refine e_icmp_ge (t := 68) (p := 17) dX12_lettersTo_14 (by decide) rfl rfl (fun hc14 => absurd hc14 (nge (by omega) (by omega))) (fun hc14 => ?_)
    refine e_iload_n (p := 18) dX12_lettersTo_17 rfl rfl ?_
    refine e_aload_n (p := 19) dX12_lettersTo_18 rfl rfl ?_
    refine e_getR (c := 11) (j := 15) (n := 37) (b := 98) (p := 22) dX12_lettersTo_19 rfl rfl (by decide) (by decide) rfl (r_95_15 hF) rfl ?_
    refine e_bipush (v := 75) (p := 24) dX12_lettersTo_22 (by decide) rfl ?_
    refine e_iconst (v := 2) (p := 25) dX12_lettersTo_24 (by decide) rfl ?_
    refine e_iload (p := 27) dX12_lettersTo_25 rfl rfl ?_
    refine e_imul (p := 28) dX12_lettersTo_27 rfl ?_
    refine e_iadd (p := 29) dX12_lettersTo_28 rfl ?_
    refine f_iald (n := 276) (i := (75 + 2 * j)) (v := D 12 j) (p := 30) dX12_lettersTo_29 rfl (by decide) (in_ix (ix2 75 2 j) (by omega) (by decide)) (cl_ix (ix2 75 2 j) (by omega)) (m12 hM (by omega)) rfl ?_
    refine e_iload_n (p := 31) dX12_lettersTo_30 rfl rfl ?_
    refine e_icmp_ne (t := 59) (p := 34) dX12_lettersTo_31 (by decide) rfl rfl (fun hc31 => ?_) (fun hc31 => ?_)
    · skip
      refine e_iconst (v := 0) (p := 60) dX12_lettersTo_59 (by decide) rfl ?_
      refine e_ior (p := 61) dX12_lettersTo_60 rfl ?_
      refine e_istore_n (ls1 := [.ref 95, .int h, .int l, .int (acc ||| 0), .int (nI j)]) (p := 62) dX12_lettersTo_61 rfl rfl ?_
      refine e_iinc (ls1 := [.ref 95, .int h, .int l, .int (acc ||| 0), .int ((nI j) + 1)]) (p := 65) dX12_lettersTo_62 rfl rfl rfl ?_
      refine e_goto (p := 5) dX12_lettersTo_65 (by decide) rfl ?_
      rw [nI_1]
      exact Ev.res (by simp only [gN_s, hc31, bit, Int32.or_zero, Int32.add_zero, ↓reduceIte]) (y_lettersTo_L hF hM hW m (j + 1) (acc ||| 0)  (by omega))
    · skip
      refine e_aload_n (p := 35) dX12_lettersTo_34 rfl rfl ?_
      refine e_getR (c := 11) (j := 15) (n := 37) (b := 98) (p := 38) dX12_lettersTo_35 rfl rfl (by decide) (by decide) rfl (r_95_15 hF) rfl ?_
      refine e_bipush (v := 75) (p := 40) dX12_lettersTo_38 (by decide) rfl ?_
      refine e_iconst (v := 2) (p := 41) dX12_lettersTo_40 (by decide) rfl ?_
      refine e_iload (p := 43) dX12_lettersTo_41 rfl rfl ?_
      refine e_imul (p := 44) dX12_lettersTo_43 rfl ?_
      refine e_iadd (p := 45) dX12_lettersTo_44 rfl ?_
      refine e_iconst (v := 1) (p := 46) dX12_lettersTo_45 (by decide) rfl ?_
      refine e_iadd (p := 47) dX12_lettersTo_46 rfl ?_
      refine f_iald (n := 276) (i := (75 + 2 * j + 1)) (v := D 13 j) (p := 48) dX12_lettersTo_47 rfl (by decide) (in_ix (ix3 75 2 j 1) (by omega) (by decide)) (cl_ix (ix3 75 2 j 1) (by omega)) (m13 hM (by omega)) rfl ?_
      refine e_iload_n (p := 49) dX12_lettersTo_48 rfl rfl ?_
      refine e_icmp_lt (t := 59) (p := 52) dX12_lettersTo_49 (by decide) rfl rfl (fun hc49 => ?_) (fun hc49 => ?_)
      · skip
        refine e_iconst (v := 0) (p := 60) dX12_lettersTo_59 (by decide) rfl ?_
        refine e_ior (p := 61) dX12_lettersTo_60 rfl ?_
        refine e_istore_n (ls1 := [.ref 95, .int h, .int l, .int (acc ||| 0), .int (nI j)]) (p := 62) dX12_lettersTo_61 rfl rfl ?_
        refine e_iinc (ls1 := [.ref 95, .int h, .int l, .int (acc ||| 0), .int ((nI j) + 1)]) (p := 65) dX12_lettersTo_62 rfl rfl rfl ?_
        refine e_goto (p := 5) dX12_lettersTo_65 (by decide) rfl ?_
        rw [nI_1]
        exact Ev.res (by simp only [gN_s, hc31, hc49, (Int32.not_le.mpr hc49), bit, Int32.or_zero, Int32.add_zero, ↓reduceIte]) (y_lettersTo_L hF hM hW m (j + 1) (acc ||| 0)  (by omega))
      · skip
        refine e_iconst (v := 1) (p := 53) dX12_lettersTo_52 (by decide) rfl ?_
        refine e_iload (p := 55) dX12_lettersTo_53 rfl rfl ?_
        refine e_ishl (p := 56) dX12_lettersTo_55 rfl ?_
        refine e_goto (p := 60) dX12_lettersTo_56 (by decide) rfl ?_
        refine e_ior (p := 61) dX12_lettersTo_60 rfl ?_
        refine e_istore_n (ls1 := [.ref 95, .int h, .int l, .int (acc ||| (1 <<< ((nI j) &&& 31))), .int (nI j)]) (p := 62) dX12_lettersTo_61 rfl rfl ?_
        refine e_iinc (ls1 := [.ref 95, .int h, .int l, .int (acc ||| (1 <<< ((nI j) &&& 31))), .int ((nI j) + 1)]) (p := 65) dX12_lettersTo_62 rfl rfl rfl ?_
        refine e_goto (p := 5) dX12_lettersTo_65 (by decide) rfl ?_
        rw [nI_1]
        exact Ev.res (by simp only [gN_s, hc31, hc49, (Int32.not_lt.mp hc49), bit, Int32.or_zero, Int32.add_zero, ↓reduceIte]) (y_lettersTo_L hF hM hW m (j + 1) (acc ||| (1 <<< ((nI j) &&& 31)))  (by omega))
set_option maxRecDepth 10000 in
theorem y_lettersTo {I : Nat → Nat → Int32} {J : Nat → Nat → Int64} {F : Nat → Nat → Option Nat} {nc ns : Nat} {D : oD} (hF : RFok F) (hM : oM I 98 D) (hW : WF D) {h l : Int32} : Ev 0 mX12_lettersTo 0 [.ref 95, .int h, .int l, .null, .null] [] ((SH, nc, ns), I, J, F) (some (.int (dueS D h l))) ((SH, nc, ns), I, J, F) := by
  have hD := hW.c
  have hH := hW.h
  have hT := hW.t
  have bt := hT.2
  obtain ⟨b0, b1, b2, b3, b4, b5, b6⟩ := hD.2
  refine e_iconst (v := 0) (p := 1) dX12_lettersTo_0 (by decide) rfl ?_
  refine e_istore_n (ls1 := [.ref 95, .int h, .int l, .int 0, .null]) (p := 2) dX12_lettersTo_1 rfl rfl ?_
  refine e_iconst (v := 0) (p := 3) dX12_lettersTo_2 (by decide) rfl ?_
  refine e_istore (ls1 := [.ref 95, .int h, .int l, .int 0, .int 0]) (p := 5) dX12_lettersTo_3 rfl rfl ?_
  exact y_lettersTo_L hF hM hW _ 0 _ (by omega)
set_option maxRecDepth 10000 in
theorem y_weight {I : Nat → Nat → Int32} {J : Nat → Nat → Int64} {F : Nat → Nat → Option Nat} {nc ns : Nat} {D : oD} (hF : RFok F) (hM : oM I 98 D) (hW : WF D) {k : Nat} {l : Int32} (hk : k < dN D 5) : Ev 0 mX12_weight 0 [.ref 95, .int (nI k), .int l, .null] [] ((SH, nc, ns), I, J, F) (some (.int (servedS D k (l * D 0 0)))) ((SH, nc, ns), I, J, F) := by
  have hD := hW.c
  have hH := hW.h
  have hT := hW.t
  have bt := hT.2
  obtain ⟨b0, b1, b2, b3, b4, b5, b6⟩ := hD.2
  refine e_iload_n (p := 1) dX12_weight_0 rfl rfl ?_
  refine e_aload_n (p := 2) dX12_weight_1 rfl rfl ?_
  refine e_getR (c := 11) (j := 15) (n := 37) (b := 98) (p := 5) dX12_weight_2 rfl rfl (by decide) (by decide) rfl (r_95_15 hF) rfl ?_
  refine e_iconst (v := 0) (p := 6) dX12_weight_5 (by decide) rfl ?_
  refine f_iald (n := 276) (i := 0) (v := D 0 0) (p := 7) dX12_weight_6 rfl (by decide) (by decide) (by decide) hM.1 rfl ?_
  refine e_imul (p := 8) dX12_weight_7 rfl ?_
  refine e_aload_n (p := 9) dX12_weight_8 rfl rfl ?_
  refine e_getR (c := 11) (j := 15) (n := 37) (b := 98) (p := 12) dX12_weight_9 rfl rfl (by decide) (by decide) rfl (r_95_15 hF) rfl ?_
  refine e_bipush (v := 87) (p := 14) dX12_weight_12 (by decide) rfl ?_
  refine e_iconst (v := 2) (p := 15) dX12_weight_14 (by decide) rfl ?_
  refine e_iload_n (p := 16) dX12_weight_15 rfl rfl ?_
  refine e_imul (p := 17) dX12_weight_16 rfl ?_
  refine e_iadd (p := 18) dX12_weight_17 rfl ?_
  refine f_iald (n := 276) (i := (87 + 2 * k)) (v := D 14 k) (p := 19) dX12_weight_18 rfl (by decide) (in_ix (ix2 87 2 k) (by omega) (by decide)) (cl_ix (ix2 87 2 k) (by omega)) (m14 hM (by omega)) rfl ?_
  refine e_isub (p := 20) dX12_weight_19 rfl ?_
  refine e_istore_n (ls1 := [.ref 95, .int (nI k), .int l, .int ((l * (D 0 0)) - (D 14 k))]) (p := 21) dX12_weight_20 rfl rfl ?_
  refine e_iload_n (p := 22) dX12_weight_21 rfl rfl ?_
  refine e_if_le (t := 43) (p := 25) dX12_weight_22 (by decide) rfl rfl (fun hc22 => ?_) (fun hc22 => ?_)
  · skip
    refine e_iconst (v := 0) (p := 44) dX12_weight_43 (by decide) rfl ?_
    exact e_iretE dX12_weight_44 rfl rfl (by decide) ⟨by simp [servedS, ← Int32.not_le, *, Int32.mul_comm], rfl⟩
  · skip
    refine e_iload_n (p := 26) dX12_weight_25 rfl rfl ?_
    refine e_aload_n (p := 27) dX12_weight_26 rfl rfl ?_
    refine e_getR (c := 11) (j := 15) (n := 37) (b := 98) (p := 30) dX12_weight_27 rfl rfl (by decide) (by decide) rfl (r_95_15 hF) rfl ?_
    refine e_bipush (v := 87) (p := 32) dX12_weight_30 (by decide) rfl ?_
    refine e_iconst (v := 2) (p := 33) dX12_weight_32 (by decide) rfl ?_
    refine e_iload_n (p := 34) dX12_weight_33 rfl rfl ?_
    refine e_imul (p := 35) dX12_weight_34 rfl ?_
    refine e_iadd (p := 36) dX12_weight_35 rfl ?_
    refine e_iconst (v := 1) (p := 37) dX12_weight_36 (by decide) rfl ?_
    refine e_iadd (p := 38) dX12_weight_37 rfl ?_
    refine f_iald (n := 276) (i := (87 + 2 * k + 1)) (v := D 15 k) (p := 39) dX12_weight_38 rfl (by decide) (in_ix (ix3 87 2 k 1) (by omega) (by decide)) (cl_ix (ix3 87 2 k 1) (by omega)) (m15 hM (by omega)) rfl ?_
    refine e_imul (p := 40) dX12_weight_39 rfl ?_
    refine e_goto (p := 44) dX12_weight_40 (by decide) rfl ?_
    exact e_iretE dX12_weight_44 rfl rfl (by decide) ⟨by simp [servedS, ← Int32.not_le, *, Int32.mul_comm], rfl⟩
def wasS (D : oD) (k w : Nat) : Int32 := if D 16 k * D 0 0 - D 9 w = D 17 k then 1 else 0
set_option maxRecDepth 10000 in
theorem y_wasNear {I : Nat → Nat → Int32} {J : Nat → Nat → Int64} {F : Nat → Nat → Option Nat} {nc ns : Nat} {D : oD} (hF : RFok F) (hM : oM I 98 D) (hW : WF D) {k w : Nat} (hk : k < dN D 6) (hw : w < dN D 2) : Ev 2 mX12_wasNear 0 [.ref 95, .int (nI k), .int (nI w)] [] ((SH, nc, ns), I, J, F) (some (.int (wasS D k w))) ((SH, nc, ns), I, J, F) := by
  have hD := hW.c
  have hH := hW.h
  have hT := hW.t
  have bt := hT.2
  obtain ⟨b0, b1, b2, b3, b4, b5, b6⟩ := hD.2
  refine e_aload_n (p := 1) dX12_wasNear_0 rfl rfl ?_
  refine e_iload_n (p := 2) dX12_wasNear_1 rfl rfl ?_
  refine e_aload_n (p := 3) dX12_wasNear_2 rfl rfl ?_
  refine e_getR (c := 11) (j := 15) (n := 37) (b := 98) (p := 6) dX12_wasNear_3 rfl rfl (by decide) (by decide) rfl (r_95_15 hF) rfl ?_
  refine e_bipush (v := 97) (p := 8) dX12_wasNear_6 (by decide) rfl ?_
  refine e_iconst (v := 2) (p := 9) dX12_wasNear_8 (by decide) rfl ?_
  refine e_iload_n (p := 10) dX12_wasNear_9 rfl rfl ?_
  refine e_imul (p := 11) dX12_wasNear_10 rfl ?_
  refine e_iadd (p := 12) dX12_wasNear_11 rfl ?_
  refine f_iald (n := 276) (i := (97 + 2 * k)) (v := D 16 k) (p := 13) dX12_wasNear_12 rfl (by decide) (in_ix (ix2 97 2 k) (by omega) (by decide)) (cl_ix (ix2 97 2 k) (by omega)) (m16 hM (by omega)) rfl ?_
  refine e_aload_n (p := 14) dX12_wasNear_13 rfl rfl ?_
  refine e_getR (c := 11) (j := 15) (n := 37) (b := 98) (p := 17) dX12_wasNear_14 rfl rfl (by decide) (by decide) rfl (r_95_15 hF) rfl ?_
  refine e_iconst (v := 0) (p := 18) dX12_wasNear_17 (by decide) rfl ?_
  refine f_iald (n := 276) (i := 0) (v := D 0 0) (p := 19) dX12_wasNear_18 rfl (by decide) (by decide) (by decide) hM.1 rfl ?_
  refine e_callV_int (p := 22) (k' := 1) (a := [.ref 95, .int (nI w), .int (D 16 k), .int (D 0 0)]) (rr := []) dX12_wasNear_19 rfl rfl rfl rfl (rc_of rfl rfl (by decide) ⟨rfl, by decide⟩) (Nat.le_of_ble_eq_true rfl) (Nat.le_of_ble_eq_true rfl) (by decide) (y_ageAt hF hM hW (by omega)) (Or.inl rfl) rfl ?_
  refine e_aload_n (p := 23) dX12_wasNear_22 rfl rfl ?_
  refine e_getR (c := 11) (j := 15) (n := 37) (b := 98) (p := 26) dX12_wasNear_23 rfl rfl (by decide) (by decide) rfl (r_95_15 hF) rfl ?_
  refine e_bipush (v := 97) (p := 28) dX12_wasNear_26 (by decide) rfl ?_
  refine e_iconst (v := 2) (p := 29) dX12_wasNear_28 (by decide) rfl ?_
  refine e_iload_n (p := 30) dX12_wasNear_29 rfl rfl ?_
  refine e_imul (p := 31) dX12_wasNear_30 rfl ?_
  refine e_iadd (p := 32) dX12_wasNear_31 rfl ?_
  refine e_iconst (v := 1) (p := 33) dX12_wasNear_32 (by decide) rfl ?_
  refine e_iadd (p := 34) dX12_wasNear_33 rfl ?_
  refine f_iald (n := 276) (i := (97 + 2 * k + 1)) (v := D 17 k) (p := 35) dX12_wasNear_34 rfl (by decide) (in_ix (ix3 97 2 k 1) (by omega) (by decide)) (cl_ix (ix3 97 2 k 1) (by omega)) (m17 hM (by omega)) rfl ?_
  refine e_icmp_ne (t := 42) (p := 38) dX12_wasNear_35 (by decide) rfl rfl (fun hc35 => ?_) (fun hc35 => ?_)
  · skip
    refine e_iconst (v := 0) (p := 43) dX12_wasNear_42 (by decide) rfl ?_
    exact e_iretE dX12_wasNear_43 rfl (by decide) (by decide) ⟨by simp [wasS, *], rfl⟩
  · skip
    refine e_iconst (v := 1) (p := 39) dX12_wasNear_38 (by decide) rfl ?_
    refine e_goto (p := 43) dX12_wasNear_39 (by decide) rfl ?_
    exact e_iretE dX12_wasNear_43 rfl (by decide) (by decide) ⟨by simp [wasS, *], rfl⟩
def bidS (v a b c : Int32) : Int32 := if a ≤ b then (if c = 0 then b else v - b) else 0
set_option maxRecDepth 10000 in
theorem y_bidOf {I : Nat → Nat → Int32} {J : Nat → Nat → Int64} {F : Nat → Nat → Option Nat} {nc ns : Nat} {v a b c : Int32} : Ev 0 mX12_bidOf 0 [.int v, .int a, .int b, .int c] [] ((SH, nc, ns), I, J, F) (some (.int (bidS v a b c))) ((SH, nc, ns), I, J, F) := by
  refine e_iload_n (p := 1) dX12_bidOf_0 rfl rfl ?_
  refine e_iload_n (p := 2) dX12_bidOf_1 rfl rfl ?_
  refine e_icmp_ge (t := 9) (p := 5) dX12_bidOf_2 (by decide) rfl rfl (fun hc2 => ?_) (fun hc2 => ?_)
  · skip
    refine e_iload_n (p := 10) dX12_bidOf_9 rfl rfl ?_
    refine e_if_eq (t := 19) (p := 13) dX12_bidOf_10 (by decide) rfl rfl (fun hc10 => ?_) (fun hc10 => ?_)
    · skip
      refine e_iload_n (p := 20) dX12_bidOf_19 rfl rfl ?_
      exact e_iretE dX12_bidOf_20 rfl rfl (by decide) ⟨by simp [bidS, *], rfl⟩
    · skip
      refine e_iload_n (p := 14) dX12_bidOf_13 rfl rfl ?_
      refine e_iload_n (p := 15) dX12_bidOf_14 rfl rfl ?_
      refine e_isub (p := 16) dX12_bidOf_15 rfl ?_
      refine e_goto (p := 20) dX12_bidOf_16 (by decide) rfl ?_
      exact e_iretE dX12_bidOf_20 rfl rfl (by decide) ⟨by simp [bidS, *], rfl⟩
  · skip
    refine e_iconst (v := 0) (p := 6) dX12_bidOf_5 (by decide) rfl ?_
    refine e_goto (p := 20) dX12_bidOf_6 (by decide) rfl ?_
    exact e_iretE dX12_bidOf_20 rfl rfl (by decide) ⟨by simp [bidS, *], rfl⟩
def resF (v a b : Int32) (k : Nat) (z : Int32) : Int32 := if z = 0 then 0 else if bidS v a b 0 < bidS v (nI k) b 0 then 0 else if bidS v a b 1 < bidS v a (nI k) 1 then 0 else 1
def resS (v a b : Int32) : Int32 := gN (resF v a b) 0 10 1
theorem gN01 {f : Nat → Int32 → Int32} (hf : ∀ k z, f k z = 0 ∨ f k z = 1) : ∀ m j z, z = 0 ∨ z = 1 → gN f j m z = 0 ∨ gN f j m z = 1
  | 0, _, _, h => h
  | m + 1, j, z, _ => gN01 hf m (j + 1) _ (hf j z)
theorem res01 {v a b : Int32} : resS v a b = 0 ∨ resS v a b = 1 := gN01 (fun k z => if01 z0 (if01 z0 (if01 z0 z1))) 10 0 1 z1
set_option maxRecDepth 10000 in
theorem y_isRest_L {I : Nat → Nat → Int32} {J : Nat → Nat → Int64} {F : Nat → Nat → Option Nat} {nc ns : Nat} {v a b : Int32} : ∀ (m j : Nat) (acc : Int32), (acc = 0 ∨ acc = 1) ∧ j + m = 10 → Ev 1 mX12_isRest 5 [.int v, .int a, .int b, .int acc, .int (nI j)] [] ((SH, nc, ns), I, J, F) (some (.int (gN (resF v a b) j m acc))) ((SH, nc, ns), I, J, F)
  | 0, j, acc, hj => by
    refine e_iload (p := 7) dX12_isRest_5 rfl rfl ?_
    refine e_bipush (v := 9) (p := 9) dX12_isRest_7 (by decide) rfl ?_
    refine e_icmp_gt (t := 64) (p := 12) dX12_isRest_9 (by decide) rfl rfl (fun hc9 => ?_) (fun hc9 => absurd (nI_lt (a := 9) (b := j) (by omega) (by omega)) hc9)
    refine e_iload_n (p := 65) dX12_isRest_64 rfl rfl ?_
    exact e_iretE dX12_isRest_65 rfl (nzb hj.1) (by decide) ⟨rfl, rfl⟩
  | m + 1, j, acc, hj => by
    refine e_iload (p := 7) dX12_isRest_5 rfl rfl ?_
    refine e_bipush (v := 9) (p := 9) dX12_isRest_7 (by decide) rfl ?_
    refine e_icmp_gt (t := 64) (p := 12) dX12_isRest_9 (by decide) rfl rfl (fun hc9 => absurd hc9 (nI_nlt (a := 9) (b := j) (by omega) (by omega))) (fun hc9 => ?_)
    refine e_iload_n (p := 13) dX12_isRest_12 rfl rfl ?_
    refine e_if_eq (t := 56) (p := 16) dX12_isRest_13 (by decide) rfl rfl (fun hc13 => ?_) (fun hc13 => ?_)
    · skip
      refine e_iconst (v := 0) (p := 57) dX12_isRest_56 (by decide) rfl ?_
      refine e_istore_n (ls1 := [.int v, .int a, .int b, .int 0, .int (nI j)]) (p := 58) dX12_isRest_57 rfl rfl ?_
      refine e_iinc (ls1 := [.int v, .int a, .int b, .int 0, .int ((nI j) + 1)]) (p := 61) dX12_isRest_58 rfl rfl rfl ?_
      refine e_goto (p := 5) dX12_isRest_61 (by decide) rfl ?_
      rw [nI_1]
      exact Ev.res (by simp only [gN_s, resF, hc13, bit, Int32.or_zero, Int32.add_zero, ↓reduceIte]) (y_isRest_L  m (j + 1) 0  ⟨by first | exact z0 | exact z1, by omega⟩)
    · skip
      refine e_iload_n (p := 17) dX12_isRest_16 rfl rfl ?_
      refine e_iload (p := 19) dX12_isRest_17 rfl rfl ?_
      refine e_iload_n (p := 20) dX12_isRest_19 rfl rfl ?_
      refine e_iconst (v := 0) (p := 21) dX12_isRest_20 (by decide) rfl ?_
      refine e_callS_int (p := 24) (k' := 0) (a := [.int v, .int (nI j), .int b, .int 0]) (rr := []) dX12_isRest_21 rfl rfl rfl rfl rfl (rc_st rfl) (Nat.le_of_ble_eq_true rfl) (Nat.le_of_ble_eq_true rfl) (by decide) (y_bidOf  ) (Or.inl rfl) rfl ?_
      refine e_iload_n (p := 25) dX12_isRest_24 rfl rfl ?_
      refine e_iload_n (p := 26) dX12_isRest_25 rfl rfl ?_
      refine e_iload_n (p := 27) dX12_isRest_26 rfl rfl ?_
      refine e_iconst (v := 0) (p := 28) dX12_isRest_27 (by decide) rfl ?_
      refine e_callS_int (p := 31) (k' := 0) (a := [.int v, .int a, .int b, .int 0]) (rr := [.int (bidS v (nI j) b 0)]) dX12_isRest_28 rfl rfl rfl rfl rfl (rc_st rfl) (Nat.le_of_ble_eq_true rfl) (Nat.le_of_ble_eq_true rfl) (by decide) (y_bidOf  ) (Or.inl rfl) rfl ?_
      refine e_icmp_gt (t := 56) (p := 34) dX12_isRest_31 (by decide) rfl rfl (fun hc31 => ?_) (fun hc31 => ?_)
      · skip
        refine e_iconst (v := 0) (p := 57) dX12_isRest_56 (by decide) rfl ?_
        refine e_istore_n (ls1 := [.int v, .int a, .int b, .int 0, .int (nI j)]) (p := 58) dX12_isRest_57 rfl rfl ?_
        refine e_iinc (ls1 := [.int v, .int a, .int b, .int 0, .int ((nI j) + 1)]) (p := 61) dX12_isRest_58 rfl rfl rfl ?_
        refine e_goto (p := 5) dX12_isRest_61 (by decide) rfl ?_
        rw [nI_1]
        exact Ev.res (by simp only [gN_s, resF, hc13, hc31, (Int32.not_le.mpr hc31), bit, Int32.or_zero, Int32.add_zero, ↓reduceIte]) (y_isRest_L  m (j + 1) 0  ⟨by first | exact z0 | exact z1, by omega⟩)
      · skip
        refine e_iload_n (p := 35) dX12_isRest_34 rfl rfl ?_
        refine e_iload_n (p := 36) dX12_isRest_35 rfl rfl ?_
        refine e_iload (p := 38) dX12_isRest_36 rfl rfl ?_
        refine e_iconst (v := 1) (p := 39) dX12_isRest_38 (by decide) rfl ?_
        refine e_callS_int (p := 42) (k' := 0) (a := [.int v, .int a, .int (nI j), .int 1]) (rr := []) dX12_isRest_39 rfl rfl rfl rfl rfl (rc_st rfl) (Nat.le_of_ble_eq_true rfl) (Nat.le_of_ble_eq_true rfl) (by decide) (y_bidOf  ) (Or.inl rfl) rfl ?_
        refine e_iload_n (p := 43) dX12_isRest_42 rfl rfl ?_
        refine e_iload_n (p := 44) dX12_isRest_43 rfl rfl ?_
        refine e_iload_n (p := 45) dX12_isRest_44 rfl rfl ?_
        refine e_iconst (v := 1) (p := 46) dX12_isRest_45 (by decide) rfl ?_
        refine e_callS_int (p := 49) (k' := 0) (a := [.int v, .int a, .int b, .int 1]) (rr := [.int (bidS v a (nI j) 1)]) dX12_isRest_46 rfl rfl rfl rfl rfl (rc_st rfl) (Nat.le_of_ble_eq_true rfl) (Nat.le_of_ble_eq_true rfl) (by decide) (y_bidOf  ) (Or.inl rfl) rfl ?_
        refine e_icmp_gt (t := 56) (p := 52) dX12_isRest_49 (by decide) rfl rfl (fun hc49 => ?_) (fun hc49 => ?_)
        · skip
          refine e_iconst (v := 0) (p := 57) dX12_isRest_56 (by decide) rfl ?_
          refine e_istore_n (ls1 := [.int v, .int a, .int b, .int 0, .int (nI j)]) (p := 58) dX12_isRest_57 rfl rfl ?_
          refine e_iinc (ls1 := [.int v, .int a, .int b, .int 0, .int ((nI j) + 1)]) (p := 61) dX12_isRest_58 rfl rfl rfl ?_
          refine e_goto (p := 5) dX12_isRest_61 (by decide) rfl ?_
          rw [nI_1]
          exact Ev.res (by simp only [gN_s, resF, hc13, hc31, hc49, (Int32.not_lt.mp hc31), (Int32.not_le.mpr hc49), bit, Int32.or_zero, Int32.add_zero, ↓reduceIte]) (y_isRest_L  m (j + 1) 0  ⟨by first | exact z0 | exact z1, by omega⟩)
        · skip
          refine e_iconst (v := 1) (p := 53) dX12_isRest_52 (by decide) rfl ?_
          refine e_goto (p := 57) dX12_isRest_53 (by decide) rfl ?_
          refine e_istore_n (ls1 := [.int v, .int a, .int b, .int 1, .int (nI j)]) (p := 58) dX12_isRest_57 rfl rfl ?_
          refine e_iinc (ls1 := [.int v, .int a, .int b, .int 1, .int ((nI j) + 1)]) (p := 61) dX12_isRest_58 rfl rfl rfl ?_
          refine e_goto (p := 5) dX12_isRest_61 (by decide) rfl ?_
          rw [nI_1]
          exact Ev.res (by simp only [gN_s, resF, hc13, hc31, hc49, (Int32.not_lt.mp hc31), (Int32.not_lt.mp hc49), bit, Int32.or_zero, Int32.add_zero, ↓reduceIte]) (y_isRest_L  m (j + 1) 1  ⟨by first | exact z0 | exact z1, by omega⟩)
set_option maxRecDepth 10000 in
theorem y_isRest {I : Nat → Nat → Int32} {J : Nat → Nat → Int64} {F : Nat → Nat → Option Nat} {nc ns : Nat} {v a b : Int32} : Ev 1 mX12_isRest 0 [.int v, .int a, .int b, .null, .null] [] ((SH, nc, ns), I, J, F) (some (.int (resS v a b))) ((SH, nc, ns), I, J, F) := by
  refine e_iconst (v := 1) (p := 1) dX12_isRest_0 (by decide) rfl ?_
  refine e_istore_n (ls1 := [.int v, .int a, .int b, .int 1, .null]) (p := 2) dX12_isRest_1 rfl rfl ?_
  refine e_iconst (v := 0) (p := 3) dX12_isRest_2 (by decide) rfl ?_
  refine e_istore (ls1 := [.int v, .int a, .int b, .int 1, .int 0]) (p := 5) dX12_isRest_3 rfl rfl ?_
  exact y_isRest_L _ 0 _ ⟨z1, by omega⟩
set_option maxRecDepth 10000 in
theorem y_canBe {I : Nat → Nat → Int32} {J : Nat → Nat → Int64} {F : Nat → Nat → Option Nat} {nc ns : Nat} {D : oD} (hF : RFok F) (hM : oM I 98 D) (hW : WF D) {a b : Nat} {x y : Int32} (hx : x = nI a) (hy : y = nI b) (ha : a < 6) (hb : b < 32) : Ev 1 mX12_canBe 0 [.ref 95, .int x, .int y] [] ((SH, nc, ns), I, J, F) (some (.int (canS D a y))) ((SH, nc, ns), I, J, F) := by
  have hD := hW.c
  have hH := hW.h
  have hT := hW.t
  have bt := hT.2
  obtain ⟨b0, b1, b2, b3, b4, b5, b6⟩ := hD.2
  refine e_iload_n (p := 1) dX12_canBe_0 rfl rfl ?_
  refine e_iload_n (p := 2) dX12_canBe_1 rfl rfl ?_
  refine e_icmp_eq (t := 18) (p := 5) dX12_canBe_2 (by decide) rfl rfl (fun hc2 => ?_) (fun hc2 => ?_)
  · skip
    refine e_iconst (v := 1) (p := 19) dX12_canBe_18 (by decide) rfl ?_
    refine e_goto (p := 23) dX12_canBe_19 (by decide) rfl ?_
    exact e_iretE dX12_canBe_23 rfl (by decide) (by decide) ⟨by subst hx hy; simp only [can_eq (show a < 32 by omega) hb, *, ↓reduceIte] <;> (rcases hb01 (s := D 5 a) (k := nI b) with e | e <;> simp_all), rfl⟩
  · skip
    refine e_aload_n (p := 6) dX12_canBe_5 rfl rfl ?_
    refine e_iload_n (p := 7) dX12_canBe_6 rfl rfl ?_
    refine e_iconst (v := 2) (p := 8) dX12_canBe_7 (by decide) rfl ?_
    refine e_callV_int (p := 11) (k' := 0) (a := [.ref 95, .int x, .int 2]) (rr := []) dX12_canBe_8 rfl rfl rfl rfl (rc_of rfl rfl (by decide) ⟨rfl, by decide⟩) (Nat.le_of_ble_eq_true rfl) (Nat.le_of_ble_eq_true rfl) (by decide) (hx ▸ y_ofHarbour (x := a) (k := 2) hF (m5 hM ha) (by omega) (by omega)) (Or.inl rfl) rfl ?_
    refine e_iload_n (p := 12) dX12_canBe_11 rfl rfl ?_
    refine e_callS_int (p := 15) (k' := 0) (a := [.int (D 5 a), .int y]) (rr := []) dX12_canBe_12 rfl rfl rfl rfl rfl (rc_st rfl) (Nat.le_of_ble_eq_true rfl) (Nat.le_of_ble_eq_true rfl) (by decide) (y_hasBit  ) (Or.inl rfl) rfl ?_
    refine e_if_eq (t := 22) (p := 18) dX12_canBe_15 (by decide) rfl rfl (fun hc15 => ?_) (fun hc15 => ?_)
    · skip
      refine e_iconst (v := 0) (p := 23) dX12_canBe_22 (by decide) rfl ?_
      exact e_iretE dX12_canBe_23 rfl (by decide) (by decide) ⟨by subst hx hy; simp only [can_eq (show a < 32 by omega) hb, *, ↓reduceIte] <;> (rcases hb01 (s := D 5 a) (k := nI b) with e | e <;> simp_all), rfl⟩
    · skip
      refine e_iconst (v := 1) (p := 19) dX12_canBe_18 (by decide) rfl ?_
      refine e_goto (p := 23) dX12_canBe_19 (by decide) rfl ?_
      exact e_iretE dX12_canBe_23 rfl (by decide) (by decide) ⟨by subst hx hy; simp only [can_eq (show a < 32 by omega) hb, *, ↓reduceIte] <;> (rcases hb01 (s := D 5 a) (k := nI b) with e | e <;> simp_all), rfl⟩
set_option maxRecDepth 10000 in
theorem y_sevensOf_i {I : Nat → Nat → Int32} {J : Nat → Nat → Int64} {F : Nat → Nat → Option Nat} {nc ns : Nat} {D : oD} (hF : RFok F) (hM : oM I 98 D) (hW : WF D) {x y s z : Int32} {r : Option Value} {h' : hp_H} : ∀ (m j : Nat) (acc : Int32), j + m = dN D 0 → Ev 2 mX12_sevensOf 73 [.ref 95, .int x, .int y, .int s, .int z, .int (gN (fun k a => a ||| (if hbS s (nI k) = 0 then 0 else D 5 k)) j m acc), .int (nI (dN D 0))] [] ((SH, nc, ns), I, J, F) r h' → Ev 2 mX12_sevensOf 31 [.ref 95, .int x, .int y, .int s, .int z, .int acc, .int (nI j)] [] ((SH, nc, ns), I, J, F) r h'
  | 0, j, acc, hj => fun q => by
    have hD := hW.c
    have hH := hW.h
    have hT := hW.t
    have bt := hT.2
    obtain ⟨b0, b1, b2, b3, b4, b5, b6⟩ := hD.2
    obtain rfl : j = dN D 0 := by omega
    refine e_iload (p := 33) dX12_sevensOf_31 rfl rfl ?_
    refine e_aload_n (p := 34) dX12_sevensOf_33 rfl rfl ?_
    refine e_getR (c := 11) (j := 15) (n := 37) (b := 98) (p := 37) dX12_sevensOf_34 rfl rfl (by decide) (by decide) rfl (r_95_15 hF) rfl ?_
    refine e_iconst (v := 2) (p := 38) dX12_sevensOf_37 (by decide) rfl ?_
    refine f_iald (n := 276) (i := 2) (v := nI (dN D 0)) (p := 39) dX12_sevensOf_38 rfl (by decide) (by decide) (by decide) (mNn (i := 0) hM hD (by decide)) rfl ?_
    refine e_icmp_ge (t := 73) (p := 42) dX12_sevensOf_39 (by decide) rfl rfl (fun hc39 => ?_) (fun hc39 => absurd (nle (by omega) (by omega)) hc39)
    exact q
  | m + 1, j, acc, hj => fun q => by
    have hD := hW.c
    have hH := hW.h
    have hT := hW.t
    have bt := hT.2
    obtain ⟨b0, b1, b2, b3, b4, b5, b6⟩ := hD.2
    refine e_iload (p := 33) dX12_sevensOf_31 rfl rfl ?_
    refine e_aload_n (p := 34) dX12_sevensOf_33 rfl rfl ?_
    refine e_getR (c := 11) (j := 15) (n := 37) (b := 98) (p := 37) dX12_sevensOf_34 rfl rfl (by decide) (by decide) rfl (r_95_15 hF) rfl ?_
    refine e_iconst (v := 2) (p := 38) dX12_sevensOf_37 (by decide) rfl ?_
    refine f_iald (n := 276) (i := 2) (v := nI (dN D 0)) (p := 39) dX12_sevensOf_38 rfl (by decide) (by decide) (by decide) (mNn (i := 0) hM hD (by decide)) rfl ?_
    refine e_icmp_ge (t := 73) (p := 42) dX12_sevensOf_39 (by decide) rfl rfl (fun hc39 => absurd hc39 (nge (by omega) (by omega))) (fun hc39 => ?_)
    refine e_iload (p := 44) dX12_sevensOf_42 rfl rfl ?_
    refine e_iload_n (p := 45) dX12_sevensOf_44 rfl rfl ?_
    refine e_iload (p := 47) dX12_sevensOf_45 rfl rfl ?_
    refine e_callS_int (p := 50) (k' := 0) (a := [.int s, .int (nI j)]) (rr := [.int acc]) dX12_sevensOf_47 rfl rfl rfl rfl rfl (rc_st rfl) (Nat.le_of_ble_eq_true rfl) (Nat.le_of_ble_eq_true rfl) (by decide) (y_hasBit  ) (Or.inl rfl) rfl ?_
    refine e_if_eq (t := 63) (p := 53) dX12_sevensOf_50 (by decide) rfl rfl (fun hc50 => ?_) (fun hc50 => ?_)
    · skip
      refine e_iconst (v := 0) (p := 64) dX12_sevensOf_63 (by decide) rfl ?_
      refine e_ior (p := 65) dX12_sevensOf_64 rfl ?_
      refine e_istore (ls1 := [.ref 95, .int x, .int y, .int s, .int z, .int (acc ||| 0), .int (nI j)]) (p := 67) dX12_sevensOf_65 rfl rfl ?_
      refine e_iinc (ls1 := [.ref 95, .int x, .int y, .int s, .int z, .int (acc ||| 0), .int ((nI j) + 1)]) (p := 70) dX12_sevensOf_67 rfl rfl rfl ?_
      refine e_goto (p := 31) dX12_sevensOf_70 (by decide) rfl ?_
      rw [nI_1]
      refine y_sevensOf_i hF hM hW m (j + 1) (acc ||| 0)  (by omega) ?_
      simpa only [gN_s, hc50, bit, Int32.or_zero, Int32.add_zero, ↓reduceIte] using q
    · skip
      refine e_aload_n (p := 54) dX12_sevensOf_53 rfl rfl ?_
      refine e_iload (p := 56) dX12_sevensOf_54 rfl rfl ?_
      refine e_iconst (v := 2) (p := 57) dX12_sevensOf_56 (by decide) rfl ?_
      refine e_callV_int (p := 60) (k' := 0) (a := [.ref 95, .int (nI j), .int 2]) (rr := [.int acc]) dX12_sevensOf_57 rfl rfl rfl rfl (rc_of rfl rfl (by decide) ⟨rfl, by decide⟩) (Nat.le_of_ble_eq_true rfl) (Nat.le_of_ble_eq_true rfl) (by decide) (y_ofHarbour (x := j) (k := 2) hF (m5 hM (by omega)) (by omega) (by omega)) (Or.inl rfl) rfl ?_
      refine e_goto (p := 64) dX12_sevensOf_60 (by decide) rfl ?_
      refine e_ior (p := 65) dX12_sevensOf_64 rfl ?_
      refine e_istore (ls1 := [.ref 95, .int x, .int y, .int s, .int z, .int (acc ||| (D 5 j)), .int (nI j)]) (p := 67) dX12_sevensOf_65 rfl rfl ?_
      refine e_iinc (ls1 := [.ref 95, .int x, .int y, .int s, .int z, .int (acc ||| (D 5 j)), .int ((nI j) + 1)]) (p := 70) dX12_sevensOf_67 rfl rfl rfl ?_
      refine e_goto (p := 31) dX12_sevensOf_70 (by decide) rfl ?_
      rw [nI_1]
      refine y_sevensOf_i hF hM hW m (j + 1) (acc ||| (D 5 j))  (by omega) ?_
      simpa only [gN_s, hc50, bit, Int32.or_zero, Int32.add_zero, ↓reduceIte] using q
set_option maxRecDepth 10000 in
theorem y_sevensOf_L {I : Nat → Nat → Int32} {J : Nat → Nat → Int64} {F : Nat → Nat → Option Nat} {nc ns : Nat} {D : oD} (hF : RFok F) (hM : oM I 98 D) (hW : WF D) {x y : Int32} : ∀ (m j : Nat) (s : Int32) (z1 : Value) (z2 : Value), j + m = 6 → Ev 2 mX12_sevensOf 7 [.ref 95, .int x, .int y, .int s, .int (nI j), z1, z2] [] ((SH, nc, ns), I, J, F) (some (.int (apartM D y j m s))) ((SH, nc, ns), I, J, F)
  | 0, j, s, z1, z2, hj => by
    have hD := hW.c
    have hH := hW.h
    have hT := hW.t
    have bt := hT.2
    obtain ⟨b0, b1, b2, b3, b4, b5, b6⟩ := hD.2
    refine e_iload (p := 9) dX12_sevensOf_7 rfl rfl ?_
    refine e_bipush (v := 6) (p := 11) dX12_sevensOf_9 (by decide) rfl ?_
    refine e_icmp_ge (t := 82) (p := 14) dX12_sevensOf_11 (by decide) rfl rfl (fun hc11 => ?_) (fun hc11 => absurd (nI_le (a := 6) (b := j) (by omega) (by omega)) hc11)
    refine e_bipush (v := -2) (p := 84) dX12_sevensOf_82 (by decide) rfl ?_
    exact e_iretE dX12_sevensOf_84 rfl rfl (by decide) ⟨rfl, rfl⟩
  | m + 1, j, s, z1, z2, hj => by
    have hD := hW.c
    have hH := hW.h
    have hT := hW.t
    have bt := hT.2
    obtain ⟨b0, b1, b2, b3, b4, b5, b6⟩ := hD.2
    refine e_iload (p := 9) dX12_sevensOf_7 rfl rfl ?_
    refine e_bipush (v := 6) (p := 11) dX12_sevensOf_9 (by decide) rfl ?_
    refine e_icmp_ge (t := 82) (p := 14) dX12_sevensOf_11 (by decide) rfl rfl (fun hc11 => absurd hc11 (nI_ge (a := j) (b := 6) (by omega) (by omega))) (fun hc11 => ?_)
    refine e_iload_n (p := 15) dX12_sevensOf_14 rfl rfl ?_
    refine e_iload_n (p := 16) dX12_sevensOf_15 rfl rfl ?_
    refine e_callS_int (p := 19) (k' := 0) (a := [.int s, .int y]) (rr := []) dX12_sevensOf_16 rfl rfl rfl rfl rfl (rc_st rfl) (Nat.le_of_ble_eq_true rfl) (Nat.le_of_ble_eq_true rfl) (by decide) (y_hasBit  ) (Or.inl rfl) rfl ?_
    refine e_if_eq (t := 25) (p := 22) dX12_sevensOf_19 (by decide) rfl rfl (fun hc19 => ?_) (fun hc19 => ?_)
    · skip
      refine e_iload_n (p := 26) dX12_sevensOf_25 rfl rfl ?_
      refine e_istore (ls1 := [.ref 95, .int x, .int y, .int s, .int (nI j), .int s, z2]) (p := 28) dX12_sevensOf_26 rfl rfl ?_
      refine e_iconst (v := 0) (p := 29) dX12_sevensOf_28 (by decide) rfl ?_
      refine e_istore (ls1 := [.ref 95, .int x, .int y, .int s, .int (nI j), .int s, .int 0]) (p := 31) dX12_sevensOf_29 rfl rfl ?_
      refine y_sevensOf_i hF hM hW (dN D 0) 0 _ (by omega) ?_
      refine e_iload (p := 75) dX12_sevensOf_73 rfl rfl ?_
      refine e_istore_n (ls1 := [.ref 95, .int x, .int y, .int (stepM D s), .int (nI j), .int (stepM D s), .int (nI (dN D 0))]) (p := 76) dX12_sevensOf_75 rfl rfl ?_
      refine e_iinc (ls1 := [.ref 95, .int x, .int y, .int (stepM D s), .int ((nI j) + 1), .int (stepM D s), .int (nI (dN D 0))]) (p := 79) dX12_sevensOf_76 rfl rfl rfl ?_
      refine e_goto (p := 7) dX12_sevensOf_79 (by decide) rfl ?_
      rw [nI_1]
      exact Ev.res (by simp only [apartM, hc19, ↓reduceIte]) (y_sevensOf_L hF hM hW m (j + 1) _ _ _ (by omega))
    · skip
      refine e_iload (p := 24) dX12_sevensOf_22 rfl rfl ?_
      exact e_iretE dX12_sevensOf_24 rfl rfl (by decide) ⟨by simp only [apartM, hc19, ↓reduceIte], rfl⟩
set_option maxRecDepth 10000 in
theorem y_sevensOf {I : Nat → Nat → Int32} {J : Nat → Nat → Int64} {F : Nat → Nat → Option Nat} {nc ns : Nat} {D : oD} (hF : RFok F) (hM : oM I 98 D) (hW : WF D) {a b : Nat} {x y : Int32} (hx : x = nI a) (hy : y = nI b) (ha : a < dN D 0) (hb : b < 32) : Ev 2 mX12_sevensOf 0 [.ref 95, .int x, .int y, .null, .null, .null, .null] [] ((SH, nc, ns), I, J, F) (some (.int (apartS D a y))) ((SH, nc, ns), I, J, F) := by
  have hD := hW.c
  have hH := hW.h
  have hT := hW.t
  have bt := hT.2
  obtain ⟨b0, b1, b2, b3, b4, b5, b6⟩ := hD.2
  refine e_iconst (v := 1) (p := 1) dX12_sevensOf_0 (by decide) rfl ?_
  refine e_iload_n (p := 2) dX12_sevensOf_1 rfl rfl ?_
  refine e_ishl (p := 3) dX12_sevensOf_2 rfl ?_
  refine e_istore_n (ls1 := [.ref 95, .int x, .int y, .int (1 <<< (x &&& 31)), .null, .null, .null]) (p := 4) dX12_sevensOf_3 rfl rfl ?_
  refine e_iconst (v := 0) (p := 5) dX12_sevensOf_4 (by decide) rfl ?_
  refine e_istore (ls1 := [.ref 95, .int x, .int y, .int (1 <<< (x &&& 31)), .int 0, .null, .null]) (p := 7) dX12_sevensOf_5 rfl rfl ?_
  subst hx hy
  exact Ev.res (by rw [← apart_eq hW ha hb]; rfl) (y_sevensOf_L hF hM hW 6 0 _ _ _ (by omega))
