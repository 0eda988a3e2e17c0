def inS (v a b : Int32) : Int32 := if v < a then 0 else if b < v then 0 else 1
def hbS (s k : Int32) : Int32 := if (s >>> (k &&& 31)) &&& 1 = 1 then 1 else 0
set_option maxRecDepth 10000 in
theorem y_in {I : Nat → Nat → Int32} {J : Nat → Nat → Int64} {F : Nat → Nat → Option Nat} {nc ns : Nat} {v a b : Int32} : Ev 0 mX12_in 0 [.int v, .int a, .int b] [] ((SH, nc, ns), I, J, F) (some (.int (inS v a b))) ((SH, nc, ns), I, J, F) := by
  refine e_iload_n (p := 1) dX12_in_0 rfl rfl ?_
  refine e_iload_n (p := 2) dX12_in_1 rfl rfl ?_
  refine e_icmp_lt (t := 14) (p := 5) dX12_in_2 (by decide) rfl rfl (fun hc2 => ?_) (fun hc2 => ?_)
  · skip
    refine e_iconst (v := 0) (p := 15) dX12_in_14 (by decide) rfl ?_
    exact e_iretE dX12_in_15 rfl (by decide) (by decide) ⟨by simp only [*, inS, hbS, ↓reduceIte], rfl⟩
  · skip
    refine e_iload_n (p := 6) dX12_in_5 rfl rfl ?_
    refine e_iload_n (p := 7) dX12_in_6 rfl rfl ?_
    refine e_icmp_gt (t := 14) (p := 10) dX12_in_7 (by decide) rfl rfl (fun hc7 => ?_) (fun hc7 => ?_)
    · skip
      refine e_iconst (v := 0) (p := 15) dX12_in_14 (by decide) rfl ?_
      exact e_iretE dX12_in_15 rfl (by decide) (by decide) ⟨by simp only [*, inS, hbS, ↓reduceIte], rfl⟩
    · skip
      refine e_iconst (v := 1) (p := 11) dX12_in_10 (by decide) rfl ?_
      refine e_goto (p := 15) dX12_in_11 (by decide) rfl ?_
      exact e_iretE dX12_in_15 rfl (by decide) (by decide) ⟨by simp only [*, inS, hbS, ↓reduceIte], rfl⟩
set_option maxRecDepth 10000 in
theorem y_hasBit {I : Nat → Nat → Int32} {J : Nat → Nat → Int64} {F : Nat → Nat → Option Nat} {nc ns : Nat} {s k : Int32} : Ev 0 mX12_hasBit 0 [.int s, .int k] [] ((SH, nc, ns), I, J, F) (some (.int (hbS s k))) ((SH, nc, ns), I, J, F) := by
  refine e_iload_n (p := 1) dX12_hasBit_0 rfl rfl ?_
  refine e_iload_n (p := 2) dX12_hasBit_1 rfl rfl ?_
  refine e_ishr (p := 3) dX12_hasBit_2 rfl ?_
  refine e_iconst (v := 1) (p := 4) dX12_hasBit_3 (by decide) rfl ?_
  refine e_iand (p := 5) dX12_hasBit_4 rfl ?_
  refine e_iconst (v := 1) (p := 6) dX12_hasBit_5 (by decide) rfl ?_
  refine e_icmp_ne (t := 13) (p := 9) dX12_hasBit_6 (by decide) rfl rfl (fun hc6 => ?_) (fun hc6 => ?_)
  · skip
    refine e_iconst (v := 0) (p := 14) dX12_hasBit_13 (by decide) rfl ?_
    exact e_iretE dX12_hasBit_14 rfl (by decide) (by decide) ⟨by simp only [*, inS, hbS, ↓reduceIte], rfl⟩
  · skip
    refine e_iconst (v := 1) (p := 10) dX12_hasBit_9 (by decide) rfl ?_
    refine e_goto (p := 14) dX12_hasBit_10 (by decide) rfl ?_
    exact e_iretE dX12_hasBit_14 rfl (by decide) (by decide) ⟨by simp only [*, inS, hbS, ↓reduceIte], rfl⟩
set_option maxRecDepth 10000 in
theorem y_ofHarbour {I : Nat → Nat → Int32} {J : Nat → Nat → Int64} {F : Nat → Nat → Option Nat} {nc ns : Nat} {x k : Nat} {v : Int32} (hF : RFok F) (hv : I 98 (9 + 3 * x + k) = v) (hx : x < 8) (hk : k < 4) : Ev 0 mX12_ofHarbour 0 [.ref 95, .int (nI x), .int (nI k)] [] ((SH, nc, ns), I, J, F) (some (.int v)) ((SH, nc, ns), I, J, F) := by
  refine e_aload_n (p := 1) dX12_ofHarbour_0 rfl rfl ?_
  refine e_getR (c := 11) (j := 15) (n := 37) (b := 98) (p := 4) dX12_ofHarbour_1 rfl rfl (by decide) (by decide) rfl (r_95_15 hF) rfl ?_
  refine e_bipush (v := 9) (p := 6) dX12_ofHarbour_4 (by decide) rfl ?_
  refine e_iconst (v := 3) (p := 7) dX12_ofHarbour_6 (by decide) rfl ?_
  refine e_iload_n (p := 8) dX12_ofHarbour_7 rfl rfl ?_
  refine e_imul (p := 9) dX12_ofHarbour_8 rfl ?_
  refine e_iadd (p := 10) dX12_ofHarbour_9 rfl ?_
  refine e_iload_n (p := 11) dX12_ofHarbour_10 rfl rfl ?_
  refine e_iadd (p := 12) dX12_ofHarbour_11 rfl ?_
  refine f_iald (n := 276) (i := (9 + 3 * x + k)) (v := I 98 (9 + 3 * x + k)) (p := 13) dX12_ofHarbour_12 rfl (by decide) (in_ix (ix3 9 3 x k) (by omega) (by decide)) (cl_ix (ix3 9 3 x k) (by omega)) rfl rfl ?_
  exact e_iretE dX12_ofHarbour_13 rfl rfl (by decide) ⟨hv, rfl⟩
set_option maxRecDepth 10000 in
theorem y_ofWoman {I : Nat → Nat → Int32} {J : Nat → Nat → Int64} {F : Nat → Nat → Option Nat} {nc ns : Nat} {x k : Nat} {v : Int32} (hF : RFok F) (hv : I 98 (27 + 4 * x + k) = v) (hx : x < 8) (hk : k < 4) : Ev 0 mX12_ofWoman 0 [.ref 95, .int (nI x), .int (nI k)] [] ((SH, nc, ns), I, J, F) (some (.int v)) ((SH, nc, ns), I, J, F) := by
  refine e_aload_n (p := 1) dX12_ofWoman_0 rfl rfl ?_
  refine e_getR (c := 11) (j := 15) (n := 37) (b := 98) (p := 4) dX12_ofWoman_1 rfl rfl (by decide) (by decide) rfl (r_95_15 hF) rfl ?_
  refine e_bipush (v := 27) (p := 6) dX12_ofWoman_4 (by decide) rfl ?_
  refine e_iconst (v := 4) (p := 7) dX12_ofWoman_6 (by decide) rfl ?_
  refine e_iload_n (p := 8) dX12_ofWoman_7 rfl rfl ?_
  refine e_imul (p := 9) dX12_ofWoman_8 rfl ?_
  refine e_iadd (p := 10) dX12_ofWoman_9 rfl ?_
  refine e_iload_n (p := 11) dX12_ofWoman_10 rfl rfl ?_
  refine e_iadd (p := 12) dX12_ofWoman_11 rfl ?_
  refine f_iald (n := 276) (i := (27 + 4 * x + k)) (v := I 98 (27 + 4 * x + k)) (p := 13) dX12_ofWoman_12 rfl (by decide) (in_ix (ix3 27 4 x k) (by omega) (by decide)) (cl_ix (ix3 27 4 x k) (by omega)) rfl rfl ?_
  exact e_iretE dX12_ofWoman_13 rfl rfl (by decide) ⟨hv, rfl⟩
theorem hm_eq {D : oD} {w : Nat} (hD : WFc D) (hH : WFh D) (hw : w < dN D 2) : D 7 w = nI (D 7 w).toNatClampNeg := by
  obtain ⟨q, h1, h2⟩ := hH w hw
  rw [h2, nI_clamp (by have := hD.2.1; omega)]
set_option maxRecDepth 10000 in
theorem y_isLanding {I : Nat → Nat → Int32} {J : Nat → Nat → Int64} {F : Nat → Nat → Option Nat} {nc ns : Nat} {l : Int32} : Ev 1 mX12_isLanding 0 [.int l] [] ((SH, nc, ns), I, J, F) (some (.int (inS l 0 30))) ((SH, nc, ns), I, J, F) := by
  refine e_iload_n (p := 1) dX12_isLanding_0 rfl rfl ?_
  refine e_iconst (v := 0) (p := 2) dX12_isLanding_1 (by decide) rfl ?_
  refine e_bipush (v := 30) (p := 4) dX12_isLanding_2 (by decide) rfl ?_
  refine e_callS_int (p := 7) (k' := 0) (a := [.int l, .int 0, .int 30]) (rr := []) dX12_isLanding_4 rfl rfl rfl rfl rfl (rc_st rfl) (Nat.le_of_ble_eq_true rfl) (Nat.le_of_ble_eq_true rfl) (by decide) y_in (Or.inl rfl) rfl ?_
  exact e_iretE dX12_isLanding_7 rfl hz (by decide) ⟨rfl, rfl⟩
set_option maxRecDepth 10000 in
theorem y_ageAt {I : Nat → Nat → Int32} {J : Nat → Nat → Int64} {F : Nat → Nat → Option Nat} {nc ns : Nat} {D : oD} (hF : RFok F) (hM : oM I 98 D) (hD : WFc D) {w : Nat} {l y : Int32} (hw : w < dN D 2) : Ev 1 mX12_ageAt 0 [.ref 95, .int (nI w), .int l, .int y] [] ((SH, nc, ns), I, J, F) (some (.int (l * y - D 9 w))) ((SH, nc, ns), I, J, F) := by
  obtain ⟨b0, b1, b2, b3, b4, b5, b6⟩ := hD.2
  refine e_iload_n (p := 1) dX12_ageAt_0 rfl rfl ?_
  refine e_iload_n (p := 2) dX12_ageAt_1 rfl rfl ?_
  refine e_imul (p := 3) dX12_ageAt_2 rfl ?_
  refine e_aload_n (p := 4) dX12_ageAt_3 rfl rfl ?_
  refine e_iload_n (p := 5) dX12_ageAt_4 rfl rfl ?_
  refine e_iconst (v := 3) (p := 6) dX12_ageAt_5 (by decide) rfl ?_
  refine e_callV_int (p := 9) (k' := 0) (a := [.ref 95, .int (nI w), .int 3]) (rr := [.int (l * y)]) dX12_ageAt_6 rfl rfl rfl rfl (rc_of rfl rfl (by decide) ⟨rfl, by decide⟩) (Nat.le_of_ble_eq_true rfl) (Nat.le_of_ble_eq_true rfl) (by decide) (y_ofWoman (x := w) (k := 3) hF (m9 hM hw) (by omega) (by omega)) (Or.inl rfl) rfl ?_
  refine e_isub (p := 10) dX12_ageAt_9 rfl ?_
  exact e_iretE dX12_ageAt_10 rfl rfl (by decide) ⟨rfl, rfl⟩
