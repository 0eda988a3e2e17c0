/-! Acts: the class. -/
def AcC (I I' : Nat → Nat → Int32) (F F' : Nat → Nat → Option Nat) (t : Int32) (s' : Nat → Int32) (K' : Nat) (U' : Nat → Nat → Int32) : Prop := (∀ k, k ≠ 0 → k ≠ 42 → k ≠ 43 → (k < 46 ∨ 62 ≤ k) → I' k = I k) ∧ (∀ j, j ≠ 10 → I' 0 j = I 0 j) ∧ I' 0 10 = t ∧ mo I' 42 s' ∧ I' 43 2 = nI K' ∧ I' 43 3 = I 43 3 ∧ pastC I' F' K' U' ∧ ∀ a, a ≠ 44 → F' a = F a
theorem AcK.c {I I1 X : Nat → Nat → Int32} {F F1 : Nat → Nat → Option Nat} {t : Int32} {s' : Nat → Int32} {K' : Nat} {U' : Nat → Nat → Int32} (h : AcK (hp_u I 0 10 t) I1 F F1 K' U') (hX : ∀ k, k ≠ 42 → X k = I1 k) (hm : mo X 42 s') (hK : K' ≤ 16) : AcC I X F F1 t s' K' U' := by
  obtain ⟨h1, h2, h3, h4, h5⟩ := h
  refine ⟨fun k a b c d => ?_, fun j hj => ?_, ?_, hm, ?_, ?_, pastC_fr h4 (fun k q1 q2 => hX k (by omega)) rfl hK, h5⟩
  · rw [hX k b, h1 k c d, hu_ne a]
  · rw [hX 0 (by decide), h1 0 (by decide) (by omega), hu_nj hj]
  · rw [hX 0 (by decide), h1 0 (by decide) (by omega), hu_eq]
  · rw [hX 43 (by decide)]
    exact h2
  · rw [hX 43 (by decide), h3, hu_ne (by decide)]
theorem kpN_le {K : Nat} (h : K ≤ 16) : kpN K ≤ 16 := by
  unfold kpN
  split <;> omega
theorem WFs.at6 {D : oD} {s : Nat → Int32} (h : WFs D s) : s 1 = nI (s 1).toNatClampNeg ∧ True ∧ (s 1).toNatClampNeg < 6 := by
  obtain ⟨-, ⟨a, h1, h2, h3⟩, -⟩ := h
  rw [h3, nI_cl (by omega)]
  exact ⟨rfl, trivial, h1⟩
def soS (D : oD) (s : Nat → Int32) (h : Int32) : Int32 := if ixS h (dN D 0) = 0 then (if s 2 ≤ 0 then (if canS D (s 1).toNatClampNeg h = 0 then 5 else if s 0 < 30 then 0 else 3) else 5) else 1
def coS (D : oD) (s : Nat → Int32) (w : Nat) : Int32 := if s 2 ≤ 0 then (if D 7 w = s 1 then (if triB s (nI w) = 0 then 0 else 5) else 5) else 5
set_option maxRecDepth 10000 in
theorem x_ofSailing {I : Nat → Nat → Int32} {J : Nat → Nat → Int64} {F : Nat → Nat → Option Nat} {nc ns : Nat} {o : Nat} {D : oD} {s : Nat → Int32} (ho : isO o) (hF : RFok F) (hoF : F 0 2 = some o) (hC : oC I o D) (hW : WF D) (hm : mo I 42 s) (hS : WFs D s) {v : Int32}  : Ev 2 mX11_ofSailing 0 [.ref 0, .int v] [] ((SH, nc, ns), I, J, F) (some (.int (soS D s v))) ((SH, nc, ns), I, J, F) := by
  have hD := hW.c
  have hH := hW.h
  have hT := hW.t
  have bt := hT.2
  obtain ⟨b0, b1, b2, b3, b4, b5, b6⟩ := hD.2
  have hat := hS.at6
  refine e_aload_n (p := 1) dX11_ofSailing_0 rfl rfl ?_
  refine e_iload_n (p := 2) dX11_ofSailing_1 rfl rfl ?_
  refine e_callV_int (p := 5) (k' := 1) (a := [.ref 0, .int v]) (rr := []) dX11_ofSailing_2 rfl rfl rfl rfl (rc_of rfl rfl (by decide) ⟨rfl, by decide⟩) (Nat.le_of_ble_eq_true rfl) (Nat.le_of_ble_eq_true rfl) (by decide) (x_ofHarbour ho hF hoF hC hW hm hS) (Or.inl rfl) rfl ?_
  refine e_if_eq (t := 10) (p := 8) dX11_ofSailing_5 (by decide) rfl rfl (fun hc5 => ?_) (fun hc5 => ?_)
  · skip
    refine e_aload_n (p := 11) dX11_ofSailing_10 rfl rfl ?_
    refine e_getR (c := 10) (j := 3) (n := 13) (b := 42) (p := 14) dX11_ofSailing_11 rfl rfl (by decide) (by decide) rfl (r_0_3 hF) rfl ?_
    refine e_callV_int (p := 17) (k' := 0) (a := [.ref 42]) (rr := []) dX11_ofSailing_14 rfl rfl rfl rfl (rc_of rfl rfl (by decide) ⟨rfl, by decide⟩) (Nat.le_of_ble_eq_true rfl) (Nat.le_of_ble_eq_true rfl) (by decide) (x_isFreed (t := 42) ⟨rfl, by decide⟩ hm hW hS) (Or.inl rfl) rfl ?_
    refine e_if_ne (t := 38) (p := 20) dX11_ofSailing_17 (by decide) rfl rfl (fun hc17 => ?_) (fun hc17 => ?_)
    · skip
      refine e_iconst (v := 5) (p := 39) dX11_ofSailing_38 (by decide) rfl ?_
      exact e_iretE dX11_ofSailing_39 rfl rfl (by decide) ⟨by first | (simp only [soS, hc5, hc17, ↓reduceIte]; done) | (have q17 := fB1 hc17; simp only [soS, hc5, q17, ↓reduceIte]; done) | (have q17 := fB0 hc17; simp only [soS, hc5, q17, ↓reduceIte]; done), rfl⟩
    · skip
      refine e_aload_n (p := 21) dX11_ofSailing_20 rfl rfl ?_
      refine e_getR (c := 10) (j := 2) (n := 13) (b := o) (p := 24) dX11_ofSailing_21 rfl rfl (by decide) (by decide) rfl hoF rfl ?_
      refine e_aload_n (p := 25) dX11_ofSailing_24 rfl rfl ?_
      refine e_getR (c := 10) (j := 3) (n := 13) (b := 42) (p := 28) dX11_ofSailing_25 rfl rfl (by decide) (by decide) rfl (r_0_3 hF) rfl ?_
      refine f_getI (c := 3) (j := 1) (n := 6) (v := s 1) (p := 31) dX11_ofSailing_28 rfl rfl (by decide) (by decide) (Or.inl rfl) hm.2.1 rfl ?_
      refine e_iload_n (p := 32) dX11_ofSailing_31 rfl rfl ?_
      refine e_callV_int (p := 35) (k' := 1) (a := [.ref o, .int (s 1), .int v]) (rr := []) dX11_ofSailing_32 rfl rfl rfl rfl (rc_of rfl (s_o ho) (l_o0 ho) ⟨rfl, by decide⟩) (Nat.le_of_ble_eq_true rfl) (Nat.le_of_ble_eq_true rfl) (by decide) (x_can ho hF hC hW.c hat.1 hat.2.2) (Or.inl rfl) rfl ?_
      refine e_if_ne (t := 40) (p := 38) dX11_ofSailing_35 (by decide) rfl rfl (fun hc35 => ?_) (fun hc35 => ?_)
      · skip
        refine e_aload_n (p := 41) dX11_ofSailing_40 rfl rfl ?_
        refine e_getR (c := 10) (j := 3) (n := 13) (b := 42) (p := 44) dX11_ofSailing_41 rfl rfl (by decide) (by decide) rfl (r_0_3 hF) rfl ?_
        refine f_getI (c := 3) (j := 0) (n := 6) (v := s 0) (p := 47) dX11_ofSailing_44 rfl rfl (by decide) (by decide) (Or.inl rfl) hm.1 rfl ?_
        refine e_bipush (v := 30) (p := 49) dX11_ofSailing_47 (by decide) rfl ?_
        refine e_icmp_lt (t := 56) (p := 52) dX11_ofSailing_49 (by decide) rfl rfl (fun hc49 => ?_) (fun hc49 => ?_)
        · skip
          refine e_iconst (v := 0) (p := 57) dX11_ofSailing_56 (by decide) rfl ?_
          exact e_iretE dX11_ofSailing_57 rfl rfl (by decide) ⟨by first | (simp only [soS, hc5, hc17, hc35, hc49, (Int32.not_le.mpr hc49), ↓reduceIte]; done) | (have q17 := fB1 hc17; simp only [soS, hc5, hc35, hc49, (Int32.not_le.mpr hc49), q17, ↓reduceIte]; done) | (have q17 := fB0 hc17; simp only [soS, hc5, hc35, hc49, (Int32.not_le.mpr hc49), q17, ↓reduceIte]; done), rfl⟩
        · skip
          refine e_iconst (v := 3) (p := 53) dX11_ofSailing_52 (by decide) rfl ?_
          refine e_goto (p := 57) dX11_ofSailing_53 (by decide) rfl ?_
          exact e_iretE dX11_ofSailing_57 rfl rfl (by decide) ⟨by first | (simp only [soS, hc5, hc17, hc35, hc49, (Int32.not_lt.mp hc49), ↓reduceIte]; done) | (have q17 := fB1 hc17; simp only [soS, hc5, hc35, hc49, (Int32.not_lt.mp hc49), q17, ↓reduceIte]; done) | (have q17 := fB0 hc17; simp only [soS, hc5, hc35, hc49, (Int32.not_lt.mp hc49), q17, ↓reduceIte]; done), rfl⟩
      · skip
        refine e_iconst (v := 5) (p := 39) dX11_ofSailing_38 (by decide) rfl ?_
        exact e_iretE dX11_ofSailing_39 rfl rfl (by decide) ⟨by first | (simp only [soS, hc5, hc17, hc35, ↓reduceIte]; done) | (have q17 := fB1 hc17; simp only [soS, hc5, hc35, q17, ↓reduceIte]; done) | (have q17 := fB0 hc17; simp only [soS, hc5, hc35, q17, ↓reduceIte]; done), rfl⟩
  · skip
    refine e_iconst (v := 1) (p := 9) dX11_ofSailing_8 (by decide) rfl ?_
    exact e_iretE dX11_ofSailing_9 rfl rfl (by decide) ⟨by first | (simp only [soS, hc5, ↓reduceIte]; done) | (have q17 := fB1 hc17; simp only [soS, hc5, q17, ↓reduceIte]; done) | (have q17 := fB0 hc17; simp only [soS, hc5, q17, ↓reduceIte]; done), rfl⟩
set_option maxRecDepth 10000 in
theorem x_ofCourting_no {I : Nat → Nat → Int32} {J : Nat → Nat → Int64} {F : Nat → Nat → Option Nat} {nc ns : Nat} {o : Nat} {D : oD} {s : Nat → Int32} (ho : isO o) (hF : RFok F) (hoF : F 0 2 = some o) (hC : oC I o D) (hW : WF D) (hm : mo I 42 s) (hS : WFs D s) {v : Int32} (hx : ¬ ixS v (dN D 2) = 0)  : Ev 2 mX11_ofCourting 0 [.ref 0, .int v, .null] [] ((SH, nc, ns), I, J, F) (some (.int 1)) ((SH, nc, ns), I, J, F) := by
  have hD := hW.c
  have hH := hW.h
  have hT := hW.t
  have bt := hT.2
  obtain ⟨b0, b1, b2, b3, b4, b5, b6⟩ := hD.2
  refine e_aload_n (p := 1) dX11_ofCourting_0 rfl rfl ?_
  refine e_iload_n (p := 2) dX11_ofCourting_1 rfl rfl ?_
  refine e_callV_int (p := 5) (k' := 1) (a := [.ref 0, .int v]) (rr := []) dX11_ofCourting_2 rfl rfl rfl rfl (rc_of rfl rfl (by decide) ⟨rfl, by decide⟩) (Nat.le_of_ble_eq_true rfl) (Nat.le_of_ble_eq_true rfl) (by decide) (x_ofWoman ho hF hoF hC hW hm hS) (Or.inl rfl) rfl ?_
  refine e_if_eq (t := 10) (p := 8) dX11_ofCourting_5 (by decide) rfl rfl (fun hc5 => absurd hc5 hx) (fun hc5 => ?_)
  refine e_iconst (v := 1) (p := 9) dX11_ofCourting_8 (by decide) rfl ?_
  exact e_iretE dX11_ofCourting_9 rfl rfl (by decide) ⟨rfl, rfl⟩
set_option maxRecDepth 10000 in
theorem x_ofCourting {I : Nat → Nat → Int32} {J : Nat → Nat → Int64} {F : Nat → Nat → Option Nat} {nc ns : Nat} {o : Nat} {D : oD} {s : Nat → Int32} (ho : isO o) (hF : RFok F) (hoF : F 0 2 = some o) (hC : oC I o D) (hW : WF D) (hm : mo I 42 s) (hS : WFs D s) {w : Nat} (hw : w < dN D 2)  : Ev 2 mX11_ofCourting 0 [.ref 0, .int (nI w), .null] [] ((SH, nc, ns), I, J, F) (some (.int (coS D s w))) ((SH, nc, ns), I, J, F) := by
  have hD := hW.c
  have hH := hW.h
  have hT := hW.t
  have bt := hT.2
  obtain ⟨b0, b1, b2, b3, b4, b5, b6⟩ := hD.2
  have hat := hS.at6
  refine e_aload_n (p := 1) dX11_ofCourting_0 rfl rfl ?_
  refine e_iload_n (p := 2) dX11_ofCourting_1 rfl rfl ?_
  refine e_callV_int (p := 5) (k' := 1) (a := [.ref 0, .int (nI w)]) (rr := []) dX11_ofCourting_2 rfl rfl rfl rfl (rc_of rfl rfl (by decide) ⟨rfl, by decide⟩) (Nat.le_of_ble_eq_true rfl) (Nat.le_of_ble_eq_true rfl) (by decide) (Ev.i (ix_ok (n := dN D 2) (by omega) (by omega)) (x_ofWoman ho hF hoF hC hW hm hS)) (Or.inl rfl) rfl ?_
  refine e_if_eq (t := 10) (p := 8) dX11_ofCourting_5 (by decide) rfl rfl (fun hc5 => ?_) (fun hc5 => absurd (by decide) hc5)
  refine e_aload_n (p := 11) dX11_ofCourting_10 rfl rfl ?_
  refine e_getR (c := 10) (j := 3) (n := 13) (b := 42) (p := 14) dX11_ofCourting_11 rfl rfl (by decide) (by decide) rfl (r_0_3 hF) rfl ?_
  refine e_callV_int (p := 17) (k' := 0) (a := [.ref 42]) (rr := []) dX11_ofCourting_14 rfl rfl rfl rfl (rc_of rfl rfl (by decide) ⟨rfl, by decide⟩) (Nat.le_of_ble_eq_true rfl) (Nat.le_of_ble_eq_true rfl) (by decide) (x_isFreed (t := 42) ⟨rfl, by decide⟩ hm hW hS) (Or.inl rfl) rfl ?_
  refine e_if_ne (t := 54) (p := 20) dX11_ofCourting_17 (by decide) rfl rfl (fun hc17 => ?_) (fun hc17 => ?_)
  · skip
    refine e_iconst (v := 0) (p := 55) dX11_ofCourting_54 (by decide) rfl ?_
    refine e_istore_n (ls1 := [.ref 0, .int (nI w), .int 0]) (p := 56) dX11_ofCourting_55 rfl rfl ?_
    refine e_iload_n (p := 57) dX11_ofCourting_56 rfl rfl ?_
    refine e_if_eq (t := 64) (p := 60) dX11_ofCourting_57 (by decide) rfl rfl (fun hc57 => ?_) (fun hc57 => absurd (by decide) hc57)
    refine e_iconst (v := 5) (p := 65) dX11_ofCourting_64 (by decide) rfl ?_
    exact e_iretE dX11_ofCourting_65 rfl rfl (by decide) ⟨by first | (simp only [coS, hc17, ↓reduceIte]; done) | (have q17 := fB1 hc17; simp only [coS, q17, ↓reduceIte]; done) | (have q17 := fB0 hc17; simp only [coS, q17, ↓reduceIte]; done), rfl⟩
  · skip
    refine e_aload_n (p := 21) dX11_ofCourting_20 rfl rfl ?_
    refine e_getR (c := 10) (j := 2) (n := 13) (b := o) (p := 24) dX11_ofCourting_21 rfl rfl (by decide) (by decide) rfl hoF rfl ?_
    refine e_getR (c := 4) (j := 7) (n := 18) (b := (o + 6)) (p := 27) dX11_ofCourting_24 rfl (s_o ho) (l_o0 ho) (by decide) rfl (r_o7 hF ho) rfl ?_
    refine e_iload_n (p := 28) dX11_ofCourting_27 rfl rfl ?_
    refine f_iald (n := 8) (i := w) (v := D 7 w) (p := 29) dX11_ofCourting_28 (s_o6 ho) (l_o ho 6 (by decide)) (in_nJ (by omega) (by decide)) (nI_cl (by omega)) (c7 hC (by omega)) rfl ?_
    refine e_aload_n (p := 30) dX11_ofCourting_29 rfl rfl ?_
    refine e_getR (c := 10) (j := 3) (n := 13) (b := 42) (p := 33) dX11_ofCourting_30 rfl rfl (by decide) (by decide) rfl (r_0_3 hF) rfl ?_
    refine f_getI (c := 3) (j := 1) (n := 6) (v := s 1) (p := 36) dX11_ofCourting_33 rfl rfl (by decide) (by decide) (Or.inl rfl) hm.2.1 rfl ?_
    refine e_icmp_ne (t := 54) (p := 39) dX11_ofCourting_36 (by decide) rfl rfl (fun hc36 => ?_) (fun hc36 => ?_)
    · skip
      refine e_iconst (v := 0) (p := 55) dX11_ofCourting_54 (by decide) rfl ?_
      refine e_istore_n (ls1 := [.ref 0, .int (nI w), .int 0]) (p := 56) dX11_ofCourting_55 rfl rfl ?_
      refine e_iload_n (p := 57) dX11_ofCourting_56 rfl rfl ?_
      refine e_if_eq (t := 64) (p := 60) dX11_ofCourting_57 (by decide) rfl rfl (fun hc57 => ?_) (fun hc57 => absurd (by decide) hc57)
      refine e_iconst (v := 5) (p := 65) dX11_ofCourting_64 (by decide) rfl ?_
      exact e_iretE dX11_ofCourting_65 rfl rfl (by decide) ⟨by first | (simp only [coS, hc17, hc36, ↓reduceIte]; done) | (have q17 := fB1 hc17; simp only [coS, hc36, q17, ↓reduceIte]; done) | (have q17 := fB0 hc17; simp only [coS, hc36, q17, ↓reduceIte]; done), rfl⟩
    · skip
      refine e_aload_n (p := 40) dX11_ofCourting_39 rfl rfl ?_
      refine e_getR (c := 10) (j := 3) (n := 13) (b := 42) (p := 43) dX11_ofCourting_40 rfl rfl (by decide) (by decide) rfl (r_0_3 hF) rfl ?_
      refine e_iload_n (p := 44) dX11_ofCourting_43 rfl rfl ?_
      refine e_callV_int (p := 47) (k' := 0) (a := [.ref 42, .int (nI w)]) (rr := []) dX11_ofCourting_44 rfl rfl rfl rfl (rc_of rfl rfl (by decide) ⟨rfl, by decide⟩) (Nat.le_of_ble_eq_true rfl) (Nat.le_of_ble_eq_true rfl) (by decide) (x_hasTried (t := 42) ⟨rfl, by decide⟩ hm) (Or.inl rfl) rfl ?_
      refine e_if_ne (t := 54) (p := 50) dX11_ofCourting_47 (by decide) rfl rfl (fun hc47 => ?_) (fun hc47 => ?_)
      · skip
        refine e_iconst (v := 0) (p := 55) dX11_ofCourting_54 (by decide) rfl ?_
        refine e_istore_n (ls1 := [.ref 0, .int (nI w), .int 0]) (p := 56) dX11_ofCourting_55 rfl rfl ?_
        refine e_iload_n (p := 57) dX11_ofCourting_56 rfl rfl ?_
        refine e_if_eq (t := 64) (p := 60) dX11_ofCourting_57 (by decide) rfl rfl (fun hc57 => ?_) (fun hc57 => absurd (by decide) hc57)
        refine e_iconst (v := 5) (p := 65) dX11_ofCourting_64 (by decide) rfl ?_
        exact e_iretE dX11_ofCourting_65 rfl rfl (by decide) ⟨by first | (simp only [coS, hc17, hc36, hc47, ↓reduceIte]; done) | (have q17 := fB1 hc17; simp only [coS, hc36, hc47, q17, ↓reduceIte]; done) | (have q17 := fB0 hc17; simp only [coS, hc36, hc47, q17, ↓reduceIte]; done), rfl⟩
      · skip
        refine e_iconst (v := 1) (p := 51) dX11_ofCourting_50 (by decide) rfl ?_
        refine e_goto (p := 55) dX11_ofCourting_51 (by decide) rfl ?_
        refine e_istore_n (ls1 := [.ref 0, .int (nI w), .int 1]) (p := 56) dX11_ofCourting_55 rfl rfl ?_
        refine e_iload_n (p := 57) dX11_ofCourting_56 rfl rfl ?_
        refine e_if_eq (t := 64) (p := 60) dX11_ofCourting_57 (by decide) rfl rfl (fun hc57 => absurd hc57 (by decide)) (fun hc57 => ?_)
        refine e_iconst (v := 0) (p := 61) dX11_ofCourting_60 (by decide) rfl ?_
        refine e_goto (p := 65) dX11_ofCourting_61 (by decide) rfl ?_
        exact e_iretE dX11_ofCourting_65 rfl rfl (by decide) ⟨by first | (simp only [coS, hc17, hc36, hc47, ↓reduceIte]; done) | (have q17 := fB1 hc17; simp only [coS, hc36, hc47, q17, ↓reduceIte]; done) | (have q17 := fB0 hc17; simp only [coS, hc36, hc47, q17, ↓reduceIte]; done), rfl⟩
set_option maxRecDepth 10000 in
theorem c_sail_no {I : Nat → Nat → Int32} {J : Nat → Nat → Int64} {F : Nat → Nat → Option Nat} {nc ns : Nat} {o : Nat} {D : oD} {s : Nat → Int32} (ho : isO o) (hF : RFok F) (hoF : F 0 2 = some o) (hC : oC I o D) (hW : WF D) (hm : mo I 42 s) (hS : WFs D s) {v : Int32} (ht : ¬ (soS D s v) = 0) : Ev 3 mX11_sail 0 [.ref 0, .int v] [] ((SH, nc, ns), I, J, F) (some (.int (-1))) ((SH, nc, ns), hp_u I 0 10 (soS D s v), J, F) := by
  have hD := hW.c
  have hH := hW.h
  have hT := hW.t
  have bt := hT.2
  obtain ⟨b0, b1, b2, b3, b4, b5, b6⟩ := hD.2
  refine e_aload_n (p := 1) dX11_sail_0 rfl rfl ?_
  refine e_aload_n (p := 2) dX11_sail_1 rfl rfl ?_
  refine e_iload_n (p := 3) dX11_sail_2 rfl rfl ?_
  refine e_callV_int (p := 6) (k' := 2) (a := [.ref 0, .int v]) (rr := [.ref 0]) dX11_sail_3 rfl rfl rfl rfl (rc_of rfl rfl (by decide) ⟨rfl, by decide⟩) (Nat.le_of_ble_eq_true rfl) (Nat.le_of_ble_eq_true rfl) (by decide) (x_ofSailing ho hF hoF hC hW hm hS) (Or.inl rfl) rfl ?_
  refine e_callV_int (p := 9) (k' := 0) (a := [.ref 0, .int (soS D s v)]) (rr := []) dX11_sail_6 rfl rfl rfl rfl (rc_of rfl rfl (by decide) ⟨rfl, by decide⟩) (Nat.le_of_ble_eq_true rfl) (Nat.le_of_ble_eq_true rfl) (by decide) x_refused (Or.inl rfl) rfl ?_
  refine e_if_eq (t := 14) (p := 12) dX11_sail_9 (by decide) rfl rfl (fun hc9 => absurd hc9 (rf_ne ht)) (fun hc9 => ?_)
  refine e_iconst (v := -1) (p := 13) dX11_sail_12 (by decide) rfl ?_
  exact e_iretE dX11_sail_13 rfl rfl (by decide) ⟨rfl, rfl⟩
set_option maxRecDepth 10000 in
theorem c_court_no1 {I : Nat → Nat → Int32} {J : Nat → Nat → Int64} {F : Nat → Nat → Option Nat} {nc ns : Nat} {o : Nat} {D : oD} {s : Nat → Int32} (ho : isO o) (hF : RFok F) (hoF : F 0 2 = some o) (hC : oC I o D) (hW : WF D) (hm : mo I 42 s) (hS : WFs D s) {v : Int32} (hx : ¬ ixS v (dN D 2) = 0)  : Ev 3 mX11_court 0 [.ref 0, .int v] [] ((SH, nc, ns), I, J, F) (some (.int (-1))) ((SH, nc, ns), hp_u I 0 10 1, J, F) := by
  have hD := hW.c
  have hH := hW.h
  have hT := hW.t
  have bt := hT.2
  obtain ⟨b0, b1, b2, b3, b4, b5, b6⟩ := hD.2
  refine e_aload_n (p := 1) dX11_court_0 rfl rfl ?_
  refine e_aload_n (p := 2) dX11_court_1 rfl rfl ?_
  refine e_iload_n (p := 3) dX11_court_2 rfl rfl ?_
  refine e_callV_int (p := 6) (k' := 2) (a := [.ref 0, .int v]) (rr := [.ref 0]) dX11_court_3 rfl rfl rfl rfl (rc_of rfl rfl (by decide) ⟨rfl, by decide⟩) (Nat.le_of_ble_eq_true rfl) (Nat.le_of_ble_eq_true rfl) (by decide) (x_ofCourting_no ho hF hoF hC hW hm hS hx) (Or.inl rfl) rfl ?_
  refine e_callV_int (p := 9) (k' := 0) (a := [.ref 0, .int 1]) (rr := []) dX11_court_6 rfl rfl rfl rfl (rc_of rfl rfl (by decide) ⟨rfl, by decide⟩) (Nat.le_of_ble_eq_true rfl) (Nat.le_of_ble_eq_true rfl) (by decide) x_refused (Or.inl rfl) rfl ?_
  refine e_if_eq (t := 14) (p := 12) dX11_court_9 (by decide) rfl rfl (fun hc9 => absurd hc9 (show ¬ rfS 1 = 0 by decide)) (fun hc9 => ?_)
  refine e_iconst (v := -1) (p := 13) dX11_court_12 (by decide) rfl ?_
  exact e_iretE dX11_court_13 rfl rfl (by decide) ⟨rfl, rfl⟩
set_option maxRecDepth 10000 in
theorem c_court_no5 {I : Nat → Nat → Int32} {J : Nat → Nat → Int64} {F : Nat → Nat → Option Nat} {nc ns : Nat} {o : Nat} {D : oD} {s : Nat → Int32} (ho : isO o) (hF : RFok F) (hoF : F 0 2 = some o) (hC : oC I o D) (hW : WF D) (hm : mo I 42 s) (hS : WFs D s) {w : Nat} (hw : w < dN D 2) (ht : ¬ coS D s w = 0)  : Ev 3 mX11_court 0 [.ref 0, .int (nI w)] [] ((SH, nc, ns), I, J, F) (some (.int (-1))) ((SH, nc, ns), hp_u I 0 10 (coS D s w), J, F) := by
  have hD := hW.c
  have hH := hW.h
  have hT := hW.t
  have bt := hT.2
  obtain ⟨b0, b1, b2, b3, b4, b5, b6⟩ := hD.2
  refine e_aload_n (p := 1) dX11_court_0 rfl rfl ?_
  refine e_aload_n (p := 2) dX11_court_1 rfl rfl ?_
  refine e_iload_n (p := 3) dX11_court_2 rfl rfl ?_
  refine e_callV_int (p := 6) (k' := 2) (a := [.ref 0, .int (nI w)]) (rr := [.ref 0]) dX11_court_3 rfl rfl rfl rfl (rc_of rfl rfl (by decide) ⟨rfl, by decide⟩) (Nat.le_of_ble_eq_true rfl) (Nat.le_of_ble_eq_true rfl) (by decide) (x_ofCourting ho hF hoF hC hW hm hS hw) (Or.inl rfl) rfl ?_
  refine e_callV_int (p := 9) (k' := 0) (a := [.ref 0, .int (coS D s w)]) (rr := []) dX11_court_6 rfl rfl rfl rfl (rc_of rfl rfl (by decide) ⟨rfl, by decide⟩) (Nat.le_of_ble_eq_true rfl) (Nat.le_of_ble_eq_true rfl) (by decide) x_refused (Or.inl rfl) rfl ?_
  refine e_if_eq (t := 14) (p := 12) dX11_court_9 (by decide) rfl rfl (fun hc9 => absurd hc9 (rf_ne ht)) (fun hc9 => ?_)
  refine e_iconst (v := -1) (p := 13) dX11_court_12 (by decide) rfl ?_
  exact e_iretE dX11_court_13 rfl rfl (by decide) ⟨rfl, rfl⟩
set_option maxRecDepth 10000 in
theorem c_sail_ok {I : Nat → Nat → Int32} {J : Nat → Nat → Int64} {F : Nat → Nat → Option Nat} {nc ns : Nat} {o : Nat} {D : oD} {s : Nat → Int32} (ho : isO o) (hF : RFok F) (hoF : F 0 2 = some o) (hC : oC I o D) (hW : WF D) (hm : mo I 42 s) (hS : WFs D s) {K : Nat} {U : Nat → Nat → Int32} (hK : K ≤ 16) (hk : I 43 2 = nI K) (hp : pastC I F K U) {v : Int32} (hso : soS D s v = 0) : Ew 3 mX11_sail 0 [.ref 0, .int v] [] ((SH, nc, ns), I, J, F) (Ret nc ns (some (.int (s 0 + 1))) (fun I' J' F' => J' = J ∧ AcC I I' F F' 0 (landS D s v) (kpN K) (kpU K U s))) := by
  have hD := hW.c
  have hH := hW.h
  have hT := hW.t
  have bt := hT.2
  obtain ⟨b0, b1, b2, b3, b4, b5, b6⟩ := hD.2
  refine we_aload_n (p := 1) dX11_sail_0 rfl rfl ?_
  refine we_aload_n (p := 2) dX11_sail_1 rfl rfl ?_
  refine we_iload_n (p := 3) dX11_sail_2 rfl rfl ?_
  refine we_callV_int (p := 6) (k' := 2) (a := [.ref 0, .int v]) (rr := [.ref 0]) dX11_sail_3 rfl rfl rfl rfl (rc_of rfl rfl (by decide) ⟨rfl, by decide⟩) (Nat.le_of_ble_eq_true rfl) (Nat.le_of_ble_eq_true rfl) (by decide) (Ev.i hso (x_ofSailing ho hF hoF hC hW hm hS)) (Or.inl rfl) rfl ?_
  refine we_callV_int (p := 9) (k' := 0) (a := [.ref 0, .int 0]) (rr := []) dX11_sail_6 rfl rfl rfl rfl (rc_of rfl rfl (by decide) ⟨rfl, by decide⟩) (Nat.le_of_ble_eq_true rfl) (Nat.le_of_ble_eq_true rfl) (by decide) (Ev.i (show rfS 0 = 0 by decide) (x_refused)) (Or.inl rfl) rfl ?_
  refine we_if_eq (t := 14) (p := 12) dX11_sail_9 (by decide) rfl rfl (fun hc9 => ?_) (fun hc9 => absurd (by decide) hc9)
  refine we_aload_n (p := 15) dX11_sail_14 rfl rfl ?_
  refine we_getR (c := 10) (j := 4) (n := 13) (b := 43) (p := 18) dX11_sail_15 rfl rfl (by decide) (by decide) rfl (r_0_4 hF) rfl ?_
  refine we_aload_n (p := 19) dX11_sail_18 rfl rfl ?_
  refine we_getR (c := 10) (j := 3) (n := 13) (b := 42) (p := 22) dX11_sail_19 rfl rfl (by decide) (by decide) rfl (r_0_3 hF) rfl ?_
  obtain ⟨_, _, e1, rfl, I1, J1, F1, rfl, ⟨rfl, k1⟩⟩ := x_keep (I := (hp_u I 0 10 0)) (K := K) (U := U) hF hK ((congrFun (hu_ne (by decide)) 2).trans hk) (pastC_fr hp (fun k h1 h2 => hu_ne (by omega)) rfl hK) (mo_u hm (by decide))
  have hF := RF_44 hF k1.2.2.2.2
  have hoF := (congrFun (k1.2.2.2.2 0 (by decide)) 2).trans hoF
  refine we_callV_v (p := 25) (k' := 1) (a := [.ref 43, .ref 42]) (rr := []) dX11_sail_22 rfl rfl rfl rfl (rc_of rfl rfl (by decide) ⟨rfl, by decide⟩) (Nat.le_of_ble_eq_true rfl) (Nat.le_of_ble_eq_true rfl) (by decide) e1 (Or.inl rfl) rfl ?_
  refine we_aload_n (p := 26) dX11_sail_25 rfl rfl ?_
  refine we_getR (c := 10) (j := 3) (n := 13) (b := 42) (p := 29) dX11_sail_26 rfl rfl (by decide) (by decide) rfl (r_0_3 hF) rfl ?_
  refine we_aload_n (p := 30) dX11_sail_29 rfl rfl ?_
  refine we_getR (c := 10) (j := 2) (n := 13) (b := o) (p := 33) dX11_sail_30 rfl rfl (by decide) (by decide) rfl hoF rfl ?_
  refine we_iload_n (p := 34) dX11_sail_33 rfl rfl ?_
  refine we_callV_v (p := 37) (k' := 1) (a := [.ref 42, .ref o, .int v]) (rr := []) dX11_sail_34 rfl rfl rfl rfl (rc_of rfl rfl (by decide) ⟨rfl, by decide⟩) (Nat.le_of_ble_eq_true rfl) (Nat.le_of_ble_eq_true rfl) (by decide) (x_land (t := 42) ⟨rfl, by decide⟩ (by decide) (mo_fr (mo_u hm (by decide)) (k1.1 42 (by decide) (by omega))) ho hF (oC_fr (oC_u hC ho (by decide)) ho (fun k h1 h2 => k1.1 k (by omega) (by omega))) hW) (Or.inl rfl) rfl ?_
  refine we_aload_n (p := 38) dX11_sail_37 rfl rfl ?_
  refine we_getR (c := 10) (j := 3) (n := 13) (b := 42) (p := 41) dX11_sail_38 rfl rfl (by decide) (by decide) rfl (r_0_3 hF) rfl ?_
  refine wf_getI (c := 3) (j := 0) (n := 6) (v := s 0 + 1) (p := 44) dX11_sail_41 rfl rfl (by decide) (by decide) (Or.inl rfl) (lnd_mo (mo_fr (mo_u hm (by decide)) (k1.1 42 (by decide) (by omega)))).1 rfl ?_
  exact wi_ret dX11_sail_44 rfl rfl (by decide) (⟨rfl, _, _, _, rfl, rfl, k1.c (fun k hk => lnd_ne hk) (lnd_mo (mo_fr (mo_u hm (by decide)) (k1.1 42 (by decide) (by omega)))) (kpN_le hK)⟩)
set_option maxRecDepth 10000 in
theorem c_court_ok {I : Nat → Nat → Int32} {J : Nat → Nat → Int64} {F : Nat → Nat → Option Nat} {nc ns : Nat} {o : Nat} {D : oD} {s : Nat → Int32} (ho : isO o) (hF : RFok F) (hoF : F 0 2 = some o) (hC : oC I o D) (hW : WF D) (hm : mo I 42 s) (hS : WFs D s) {K : Nat} {U : Nat → Nat → Int32} (hK : K ≤ 16) (hk : I 43 2 = nI K) (hp : pastC I F K U) {w : Nat} (hw : w < dN D 2) (hco : coS D s w = 0) (hq2 : frS (courtS D s w 2) = -2 ↔ courtS D s w 2 ≤ 0) : Ew 5 mX11_court 0 [.ref 0, .int (nI w)] [] ((SH, nc, ns), I, J, F) (Ret nc ns (some (.int (if courtS D s w 2 ≤ 0 then 0 else 1))) (fun I' J' F' => J' = J ∧ AcC I I' F F' 0 (courtS D s w) (kpN K) (kpU K U s))) := by
  have hD := hW.c
  have hH := hW.h
  have hT := hW.t
  have bt := hT.2
  obtain ⟨b0, b1, b2, b3, b4, b5, b6⟩ := hD.2
  refine we_aload_n (p := 1) dX11_court_0 rfl rfl ?_
  refine we_aload_n (p := 2) dX11_court_1 rfl rfl ?_
  refine we_iload_n (p := 3) dX11_court_2 rfl rfl ?_
  refine we_callV_int (p := 6) (k' := 2) (a := [.ref 0, .int (nI w)]) (rr := [.ref 0]) dX11_court_3 rfl rfl rfl rfl (rc_of rfl rfl (by decide) ⟨rfl, by decide⟩) (Nat.le_of_ble_eq_true rfl) (Nat.le_of_ble_eq_true rfl) (by decide) (Ev.i hco (x_ofCourting ho hF hoF hC hW hm hS hw)) (Or.inl rfl) rfl ?_
  refine we_callV_int (p := 9) (k' := 0) (a := [.ref 0, .int 0]) (rr := []) dX11_court_6 rfl rfl rfl rfl (rc_of rfl rfl (by decide) ⟨rfl, by decide⟩) (Nat.le_of_ble_eq_true rfl) (Nat.le_of_ble_eq_true rfl) (by decide) (Ev.i (show rfS 0 = 0 by decide) (x_refused)) (Or.inl rfl) rfl ?_
  refine we_if_eq (t := 14) (p := 12) dX11_court_9 (by decide) rfl rfl (fun hc9 => ?_) (fun hc9 => absurd (by decide) hc9)
  refine we_aload_n (p := 15) dX11_court_14 rfl rfl ?_
  refine we_getR (c := 10) (j := 4) (n := 13) (b := 43) (p := 18) dX11_court_15 rfl rfl (by decide) (by decide) rfl (r_0_4 hF) rfl ?_
  refine we_aload_n (p := 19) dX11_court_18 rfl rfl ?_
  refine we_getR (c := 10) (j := 3) (n := 13) (b := 42) (p := 22) dX11_court_19 rfl rfl (by decide) (by decide) rfl (r_0_3 hF) rfl ?_
  obtain ⟨_, _, e1, rfl, I1, J1, F1, rfl, ⟨rfl, k1⟩⟩ := x_keep (I := (hp_u I 0 10 0)) (K := K) (U := U) hF hK ((congrFun (hu_ne (by decide)) 2).trans hk) (pastC_fr hp (fun k h1 h2 => hu_ne (by omega)) rfl hK) (mo_u hm (by decide))
  have hF := RF_44 hF k1.2.2.2.2
  have hoF := (congrFun (k1.2.2.2.2 0 (by decide)) 2).trans hoF
  refine we_callV_v (p := 25) (k' := 1) (a := [.ref 43, .ref 42]) (rr := []) dX11_court_22 rfl rfl rfl rfl (rc_of rfl rfl (by decide) ⟨rfl, by decide⟩) (Nat.le_of_ble_eq_true rfl) (Nat.le_of_ble_eq_true rfl) (by decide) e1 (Or.inl rfl) rfl ?_
  refine we_aload_n (p := 26) dX11_court_25 rfl rfl ?_
  refine we_getR (c := 10) (j := 3) (n := 13) (b := 42) (p := 29) dX11_court_26 rfl rfl (by decide) (by decide) rfl (r_0_3 hF) rfl ?_
  refine we_aload_n (p := 30) dX11_court_29 rfl rfl ?_
  refine we_getR (c := 10) (j := 2) (n := 13) (b := o) (p := 33) dX11_court_30 rfl rfl (by decide) (by decide) rfl hoF rfl ?_
  refine we_iload_n (p := 34) dX11_court_33 rfl rfl ?_
  refine we_callV_v (p := 37) (k' := 4) (a := [.ref 42, .ref o, .int (nI w)]) (rr := []) dX11_court_34 rfl rfl rfl rfl (rc_of rfl rfl (by decide) ⟨rfl, by decide⟩) (Nat.le_of_ble_eq_true rfl) (Nat.le_of_ble_eq_true rfl) (by decide) (x_tryWoman (t := 42) ⟨rfl, by decide⟩ (by decide) (mo_fr (mo_u hm (by decide)) (k1.1 42 (by decide) (by omega))) ho hF (oC_fr (oC_u hC ho (by decide)) ho (fun k h1 h2 => k1.1 k (by omega) (by omega))) hW hw) (Or.inl rfl) rfl ?_
  refine we_aload_n (p := 38) dX11_court_37 rfl rfl ?_
  refine we_getR (c := 10) (j := 3) (n := 13) (b := 42) (p := 41) dX11_court_38 rfl rfl (by decide) (by decide) rfl (r_0_3 hF) rfl ?_
  refine we_callV_int (p := 44) (k' := 0) (a := [.ref 42]) (rr := []) dX11_court_41 rfl rfl rfl rfl (rc_of rfl rfl (by decide) ⟨rfl, by decide⟩) (Nat.le_of_ble_eq_true rfl) (Nat.le_of_ble_eq_true rfl) (by decide) (x_isFreedV (t := 42) ⟨rfl, by decide⟩ (tryI_mo (by omega) (mo_fr (mo_u hm (by decide)) (k1.1 42 (by decide) (by omega)))) hq2) (Or.inl rfl) rfl ?_
  refine we_if_eq (t := 51) (p := 47) dX11_court_44 (by decide) rfl rfl (fun hc44 => ?_) (fun hc44 => ?_)
  · skip
    refine we_iconst (v := 0) (p := 52) dX11_court_51 (by decide) rfl ?_
    exact wi_ret dX11_court_52 rfl rfl (by decide) (⟨congrArg (fun z => some (Value.int z)) (by first | (have q44 := fB1 hc44; simp only [q44, ↓reduceIte]; done) | (have q44 := fB0 hc44; simp only [q44, ↓reduceIte]; done)), _, _, _, rfl, rfl, k1.c (fun k hk => tryI_ne hk) (tryI_mo (by omega) (mo_fr (mo_u hm (by decide)) (k1.1 42 (by decide) (by omega)))) (kpN_le hK)⟩)
  · skip
    refine we_iconst (v := 1) (p := 48) dX11_court_47 (by decide) rfl ?_
    refine we_goto (p := 52) dX11_court_48 (by decide) rfl ?_
    exact wi_ret dX11_court_52 rfl rfl (by decide) (⟨congrArg (fun z => some (Value.int z)) (by first | (have q44 := fB1 hc44; simp only [q44, ↓reduceIte]; done) | (have q44 := fB0 hc44; simp only [q44, ↓reduceIte]; done)), _, _, _, rfl, rfl, k1.c (fun k hk => tryI_ne hk) (tryI_mo (by omega) (mo_fr (mo_u hm (by decide)) (k1.1 42 (by decide) (by omega)))) (kpN_le hK)⟩)
set_option maxRecDepth 10000 in
theorem c_undo_no {I : Nat → Nat → Int32} {J : Nat → Nat → Int64} {F : Nat → Nat → Option Nat} {nc ns : Nat} (hF : RFok F) (hk : I 43 2 = 0)  : Ev 2 mX11_undo 0 [.ref 0] [] ((SH, nc, ns), I, J, F) (some (.int 0)) ((SH, nc, ns), hp_u I 0 10 6, J, F) := by
  refine e_aload_n (p := 1) dX11_undo_0 rfl rfl ?_
  refine e_aload_n (p := 2) dX11_undo_1 rfl rfl ?_
  refine e_getR (c := 10) (j := 4) (n := 13) (b := 43) (p := 5) dX11_undo_2 rfl rfl (by decide) (by decide) rfl (r_0_4 hF) rfl ?_
  refine f_getI (c := 5) (j := 2) (n := 4) (v := 0) (p := 8) dX11_undo_5 rfl rfl (by decide) (by decide) (Or.inl rfl) hk rfl ?_
  refine e_if_ne (t := 16) (p := 11) dX11_undo_8 (by decide) rfl rfl (fun hc8 => absurd (by decide) hc8) (fun hc8 => ?_)
  refine e_bipush (v := 6) (p := 13) dX11_undo_11 (by decide) rfl ?_
  refine e_goto (p := 17) dX11_undo_13 (by decide) rfl ?_
  refine e_callV_int (p := 20) (k' := 0) (a := [.ref 0, .int 6]) (rr := []) dX11_undo_17 rfl rfl rfl rfl (rc_of rfl rfl (by decide) ⟨rfl, by decide⟩) (Nat.le_of_ble_eq_true rfl) (Nat.le_of_ble_eq_true rfl) (by decide) x_refused (Or.inl rfl) rfl ?_
  refine e_if_eq (t := 25) (p := 23) dX11_undo_20 (by decide) rfl rfl (fun hc20 => absurd hc20 (show ¬ rfS 6 = 0 by decide)) (fun hc20 => ?_)
  refine e_iconst (v := 0) (p := 24) dX11_undo_23 (by decide) rfl ?_
  exact e_iretE dX11_undo_24 rfl (by decide) (by decide) ⟨rfl, rfl⟩
theorem pastC_le {I : Nat → Nat → Int32} {F : Nat → Nat → Option Nat} {K K' : Nat} {U : Nat → Nat → Int32} (h : pastC I F K U) (hk : K' ≤ K) : pastC I F K' U := by
  obtain ⟨pr, h1, h2⟩ := h
  exact ⟨pr, h1, fun i hi => h2 i (by omega)⟩
set_option maxRecDepth 10000 in
theorem c_undo_ok {I : Nat → Nat → Int32} {J : Nat → Nat → Int64} {F : Nat → Nat → Option Nat} {nc ns : Nat} {o : Nat} {D : oD} {s : Nat → Int32} (ho : isO o) (hF : RFok F) (hoF : F 0 2 = some o) (hC : oC I o D) (hW : WF D) (hm : mo I 42 s) (hS : WFs D s) {K : Nat} {U : Nat → Nat → Int32} (hK : K < 16) (hk : I 43 2 = nI (K + 1)) (hp : pastC I F (K + 1) U) : Ew 2 mX11_undo 0 [.ref 0] [] ((SH, nc, ns), I, J, F) (Ret nc ns (some (.int 1)) (fun I' J' F' => J' = J ∧ AcC I I' F F' 0 (U K) K U)) := by
  have hD := hW.c
  have hH := hW.h
  have hT := hW.t
  have bt := hT.2
  obtain ⟨b0, b1, b2, b3, b4, b5, b6⟩ := hD.2
  refine we_aload_n (p := 1) dX11_undo_0 rfl rfl ?_
  refine we_aload_n (p := 2) dX11_undo_1 rfl rfl ?_
  refine we_getR (c := 10) (j := 4) (n := 13) (b := 43) (p := 5) dX11_undo_2 rfl rfl (by decide) (by decide) rfl (r_0_4 hF) rfl ?_
  refine wf_getI (c := 5) (j := 2) (n := 4) (v := nI (K + 1)) (p := 8) dX11_undo_5 rfl rfl (by decide) (by decide) (Or.inl rfl) hk rfl ?_
  refine we_if_ne (t := 16) (p := 11) dX11_undo_8 (by decide) rfl rfl (fun hc8 => ?_) (fun hc8 => absurd hc8 (nI_ne0 (by omega) (by omega)))
  refine we_iconst (v := 0) (p := 17) dX11_undo_16 (by decide) rfl ?_
  refine we_callV_int (p := 20) (k' := 0) (a := [.ref 0, .int 0]) (rr := []) dX11_undo_17 rfl rfl rfl rfl (rc_of rfl rfl (by decide) ⟨rfl, by decide⟩) (Nat.le_of_ble_eq_true rfl) (Nat.le_of_ble_eq_true rfl) (by decide) (Ev.i (show rfS 0 = 0 by decide) (x_refused)) (Or.inl rfl) rfl ?_
  refine we_if_eq (t := 25) (p := 23) dX11_undo_20 (by decide) rfl rfl (fun hc20 => ?_) (fun hc20 => absurd (by decide) hc20)
  refine we_aload_n (p := 26) dX11_undo_25 rfl rfl ?_
  refine we_getR (c := 10) (j := 4) (n := 13) (b := 43) (p := 29) dX11_undo_26 rfl rfl (by decide) (by decide) rfl (r_0_4 hF) rfl ?_
  refine we_aload_n (p := 30) dX11_undo_29 rfl rfl ?_
  refine we_getR (c := 10) (j := 3) (n := 13) (b := 42) (p := 33) dX11_undo_30 rfl rfl (by decide) (by decide) rfl (r_0_3 hF) rfl ?_
  obtain ⟨_, _, e1, rfl, I1, J1, F1, rfl, ⟨rfl, k1, p1, q1, m1, rfl⟩⟩ := x_takeBack (I := (hp_u I 0 10 0)) (K := K) (U := U) hF hK ((congrFun (hu_ne (by decide)) 2).trans hk) (pastC_fr hp (fun k h1 h2 => hu_ne (by omega)) rfl (by omega))
  refine we_callV_v (p := 36) (k' := 1) (a := [.ref 43, .ref 42]) (rr := []) dX11_undo_33 rfl rfl rfl rfl (rc_of rfl rfl (by decide) ⟨rfl, by decide⟩) (Nat.le_of_ble_eq_true rfl) (Nat.le_of_ble_eq_true rfl) (by decide) e1 (Or.inl rfl) rfl ?_
  refine we_iconst (v := 1) (p := 37) dX11_undo_36 (by decide) rfl ?_
  exact wi_ret dX11_undo_37 rfl (by decide) (by decide) (⟨rfl, _, _, _, rfl, rfl, fun k a b c d => (k1 k c b).trans (hu_ne a), fun j hj => (congrFun (k1 0 (by decide) (by decide)) j).trans (hu_nj hj), (congrFun (k1 0 (by decide) (by decide)) 10).trans hu_eq, m1, p1, q1.trans (congrFun (hu_ne (by decide)) 3), pastC_fr (pastC_le hp (Nat.le_succ K)) (fun k h1 h2 => (k1 k (by omega) (by omega)).trans (hu_ne (by omega))) rfl (by omega), fun a _ => rfl⟩)
set_option maxRecDepth 10000 in
theorem c_image_no3 {I : Nat → Nat → Int32} {J : Nat → Nat → Int64} {F : Nat → Nat → Option Nat} {nc ns : Nat} {o : Nat} {D : oD} {s : Nat → Int32} (ho : isO o) (hF : RFok F) (hoF : F 0 2 = some o) (hC : oC I o D) (hW : WF D) (hm : mo I 42 s) (hS : WFs D s) {M : Nat} (hM : I 43 3 = nI M) (h3 : 3 ≤ M) (hM9 : M ≤ 9) (ht : ¬ eiS (toS D) 3 = 0)  : Ev 2 mX11_image 0 [.ref 0] [] ((SH, nc, ns), I, J, F) (some (.int (-1))) ((SH, nc, ns), hp_u I 0 10 (eiS (toS D) 3), J, F) := by
  have hD := hW.c
  have hH := hW.h
  have hT := hW.t
  have bt := hT.2
  obtain ⟨b0, b1, b2, b3, b4, b5, b6⟩ := hD.2
  refine e_aload_n (p := 1) dX11_image_0 rfl rfl ?_
  refine e_aload_n (p := 2) dX11_image_1 rfl rfl ?_
  refine e_callV_int (p := 5) (k' := 1) (a := [.ref 0]) (rr := [.ref 0]) dX11_image_2 rfl rfl rfl rfl (rc_of rfl rfl (by decide) ⟨rfl, by decide⟩) (Nat.le_of_ble_eq_true rfl) (Nat.le_of_ble_eq_true rfl) (by decide) (x_ofOath ho hF hoF hC hW hm hS) (Or.inl rfl) rfl ?_
  refine e_aload_n (p := 6) dX11_image_5 rfl rfl ?_
  refine e_getR (c := 10) (j := 4) (n := 13) (b := 43) (p := 9) dX11_image_6 rfl rfl (by decide) (by decide) rfl (r_0_4 hF) rfl ?_
  refine e_callV_int (p := 12) (k' := 0) (a := [.ref 43]) (rr := [.int (toS D), .ref 0]) dX11_image_9 rfl rfl rfl rfl (rc_of rfl rfl (by decide) ⟨rfl, by decide⟩) (Nat.le_of_ble_eq_true rfl) (Nat.le_of_ble_eq_true rfl) (by decide) (Ev.i (if_pos (nI_le (a := 3) (b := M) (by omega) (by omega))) (x_hasRoomI hM)) (Or.inl rfl) rfl ?_
  refine e_if_eq (t := 19) (p := 15) dX11_image_12 (by decide) rfl rfl (fun hc12 => ?_) (fun hc12 => absurd (by decide) hc12)
  refine e_iconst (v := 3) (p := 20) dX11_image_19 (by decide) rfl ?_
  refine e_callS_int (p := 23) (k' := 0) (a := [.int (toS D), .int 3]) (rr := [.ref 0]) dX11_image_20 rfl rfl rfl rfl rfl (rc_st rfl) (Nat.le_of_ble_eq_true rfl) (Nat.le_of_ble_eq_true rfl) (by decide) x_either (Or.inl rfl) rfl ?_
  refine e_callV_int (p := 26) (k' := 0) (a := [.ref 0, .int (eiS (toS D) 3)]) (rr := []) dX11_image_23 rfl rfl rfl rfl (rc_of rfl rfl (by decide) ⟨rfl, by decide⟩) (Nat.le_of_ble_eq_true rfl) (Nat.le_of_ble_eq_true rfl) (by decide) x_refused (Or.inl rfl) rfl ?_
  refine e_if_eq (t := 31) (p := 29) dX11_image_26 (by decide) rfl rfl (fun hc26 => absurd hc26 (rf_ne ht)) (fun hc26 => ?_)
  refine e_iconst (v := -1) (p := 30) dX11_image_29 (by decide) rfl ?_
  exact e_iretE dX11_image_30 rfl rfl (by decide) ⟨rfl, rfl⟩
set_option maxRecDepth 10000 in
theorem c_image_no0 {I : Nat → Nat → Int32} {J : Nat → Nat → Int64} {F : Nat → Nat → Option Nat} {nc ns : Nat} {o : Nat} {D : oD} {s : Nat → Int32} (ho : isO o) (hF : RFok F) (hoF : F 0 2 = some o) (hC : oC I o D) (hW : WF D) (hm : mo I 42 s) (hS : WFs D s) {M : Nat} (hM : I 43 3 = nI M) (h3 : M < 3) (ht : ¬ eiS (toS D) 0 = 0)  : Ev 2 mX11_image 0 [.ref 0] [] ((SH, nc, ns), I, J, F) (some (.int (-1))) ((SH, nc, ns), hp_u I 0 10 (eiS (toS D) 0), J, F) := by
  have hD := hW.c
  have hH := hW.h
  have hT := hW.t
  have bt := hT.2
  obtain ⟨b0, b1, b2, b3, b4, b5, b6⟩ := hD.2
  refine e_aload_n (p := 1) dX11_image_0 rfl rfl ?_
  refine e_aload_n (p := 2) dX11_image_1 rfl rfl ?_
  refine e_callV_int (p := 5) (k' := 1) (a := [.ref 0]) (rr := [.ref 0]) dX11_image_2 rfl rfl rfl rfl (rc_of rfl rfl (by decide) ⟨rfl, by decide⟩) (Nat.le_of_ble_eq_true rfl) (Nat.le_of_ble_eq_true rfl) (by decide) (x_ofOath ho hF hoF hC hW hm hS) (Or.inl rfl) rfl ?_
  refine e_aload_n (p := 6) dX11_image_5 rfl rfl ?_
  refine e_getR (c := 10) (j := 4) (n := 13) (b := 43) (p := 9) dX11_image_6 rfl rfl (by decide) (by decide) rfl (r_0_4 hF) rfl ?_
  refine e_callV_int (p := 12) (k' := 0) (a := [.ref 43]) (rr := [.int (toS D), .ref 0]) dX11_image_9 rfl rfl rfl rfl (rc_of rfl rfl (by decide) ⟨rfl, by decide⟩) (Nat.le_of_ble_eq_true rfl) (Nat.le_of_ble_eq_true rfl) (by decide) (Ev.i (if_neg (nI_ge (a := M) (b := 3) (by omega) (by omega))) (x_hasRoomI hM)) (Or.inl rfl) rfl ?_
  refine e_if_eq (t := 19) (p := 15) dX11_image_12 (by decide) rfl rfl (fun hc12 => absurd hc12 (by decide)) (fun hc12 => ?_)
  refine e_iconst (v := 0) (p := 16) dX11_image_15 (by decide) rfl ?_
  refine e_goto (p := 20) dX11_image_16 (by decide) rfl ?_
  refine e_callS_int (p := 23) (k' := 0) (a := [.int (toS D), .int 0]) (rr := [.ref 0]) dX11_image_20 rfl rfl rfl rfl rfl (rc_st rfl) (Nat.le_of_ble_eq_true rfl) (Nat.le_of_ble_eq_true rfl) (by decide) x_either (Or.inl rfl) rfl ?_
  refine e_callV_int (p := 26) (k' := 0) (a := [.ref 0, .int (eiS (toS D) 0)]) (rr := []) dX11_image_23 rfl rfl rfl rfl (rc_of rfl rfl (by decide) ⟨rfl, by decide⟩) (Nat.le_of_ble_eq_true rfl) (Nat.le_of_ble_eq_true rfl) (by decide) x_refused (Or.inl rfl) rfl ?_
  refine e_if_eq (t := 31) (p := 29) dX11_image_26 (by decide) rfl rfl (fun hc26 => absurd hc26 (rf_ne ht)) (fun hc26 => ?_)
  refine e_iconst (v := -1) (p := 30) dX11_image_29 (by decide) rfl ?_
  exact e_iretE dX11_image_30 rfl rfl (by decide) ⟨rfl, rfl⟩
set_option maxRecDepth 10000 in
theorem c_image_ok {I : Nat → Nat → Int32} {J : Nat → Nat → Int64} {F : Nat → Nat → Option Nat} {nc ns : Nat} {o : Nat} {D : oD} {s : Nat → Int32} (ho : isO o) (hF : RFok F) (hoF : F 0 2 = some o) (hC : oC I o D) (hW : WF D) (hm : mo I 42 s) (hS : WFs D s) (ht1 : tol D = 1) {M : Nat} (hM : I 43 3 = nI M) (h3 : M < 3)  : Ev 2 mX11_image 0 [.ref 0] [] ((SH, nc, ns), I, J, F) (some (.int (nI M))) ((SH, nc, ns), hp_u (mcp (hp_u I 0 10 0) (62 + M) 42) 43 3 (nI (M + 1)), J, F) := by
  have hD := hW.c
  have hH := hW.h
  have hT := hW.t
  have bt := hT.2
  obtain ⟨b0, b1, b2, b3, b4, b5, b6⟩ := hD.2
  refine e_aload_n (p := 1) dX11_image_0 rfl rfl ?_
  refine e_aload_n (p := 2) dX11_image_1 rfl rfl ?_
  refine e_callV_int (p := 5) (k' := 1) (a := [.ref 0]) (rr := [.ref 0]) dX11_image_2 rfl rfl rfl rfl (rc_of rfl rfl (by decide) ⟨rfl, by decide⟩) (Nat.le_of_ble_eq_true rfl) (Nat.le_of_ble_eq_true rfl) (by decide) (Ev.i (to_1 ht1) (x_ofOath ho hF hoF hC hW hm hS)) (Or.inl rfl) rfl ?_
  refine e_aload_n (p := 6) dX11_image_5 rfl rfl ?_
  refine e_getR (c := 10) (j := 4) (n := 13) (b := 43) (p := 9) dX11_image_6 rfl rfl (by decide) (by decide) rfl (r_0_4 hF) rfl ?_
  refine e_callV_int (p := 12) (k' := 0) (a := [.ref 43]) (rr := [.int 0, .ref 0]) dX11_image_9 rfl rfl rfl rfl (rc_of rfl rfl (by decide) ⟨rfl, by decide⟩) (Nat.le_of_ble_eq_true rfl) (Nat.le_of_ble_eq_true rfl) (by decide) (Ev.i (if_neg (nI_ge (a := M) (b := 3) (by omega) (by omega))) (x_hasRoomI hM)) (Or.inl rfl) rfl ?_
  refine e_if_eq (t := 19) (p := 15) dX11_image_12 (by decide) rfl rfl (fun hc12 => absurd hc12 (by decide)) (fun hc12 => ?_)
  refine e_iconst (v := 0) (p := 16) dX11_image_15 (by decide) rfl ?_
  refine e_goto (p := 20) dX11_image_16 (by decide) rfl ?_
  refine e_callS_int (p := 23) (k' := 0) (a := [.int 0, .int 0]) (rr := [.ref 0]) dX11_image_20 rfl rfl rfl rfl rfl (rc_st rfl) (Nat.le_of_ble_eq_true rfl) (Nat.le_of_ble_eq_true rfl) (by decide) (Ev.i (show eiS 0 0 = 0 by decide) (x_either)) (Or.inl rfl) rfl ?_
  refine e_callV_int (p := 26) (k' := 0) (a := [.ref 0, .int 0]) (rr := []) dX11_image_23 rfl rfl rfl rfl (rc_of rfl rfl (by decide) ⟨rfl, by decide⟩) (Nat.le_of_ble_eq_true rfl) (Nat.le_of_ble_eq_true rfl) (by decide) (Ev.i (show rfS 0 = 0 by decide) (x_refused)) (Or.inl rfl) rfl ?_
  refine e_if_eq (t := 31) (p := 29) dX11_image_26 (by decide) rfl rfl (fun hc26 => ?_) (fun hc26 => absurd (by decide) hc26)
  refine e_aload_n (p := 32) dX11_image_31 rfl rfl ?_
  refine e_getR (c := 10) (j := 4) (n := 13) (b := 43) (p := 35) dX11_image_32 rfl rfl (by decide) (by decide) rfl (r_0_4 hF) rfl ?_
  refine e_aload_n (p := 36) dX11_image_35 rfl rfl ?_
  refine e_getR (c := 10) (j := 3) (n := 13) (b := 42) (p := 39) dX11_image_36 rfl rfl (by decide) (by decide) rfl (r_0_3 hF) rfl ?_
  refine e_callV_int (p := 42) (k' := 1) (a := [.ref 43, .ref 42]) (rr := []) dX11_image_39 rfl rfl rfl rfl (rc_of rfl rfl (by decide) ⟨rfl, by decide⟩) (Nat.le_of_ble_eq_true rfl) (Nat.le_of_ble_eq_true rfl) (by decide) (x_keepImage (M := M) hF h3 ((congrFun (hu_ne (by decide)) 3).trans hM)) (Or.inl rfl) rfl ?_
  exact e_iretE dX11_image_42 rfl rfl (by decide) ⟨rfl, rfl⟩
set_option maxRecDepth 10000 in
theorem c_back_no {I : Nat → Nat → Int32} {J : Nat → Nat → Int64} {F : Nat → Nat → Option Nat} {nc ns : Nat} (hF : RFok F) {M : Nat} (hM : I 43 3 = nI M) {v : Int32} (ht : ¬ ixS v M = 0)  : Ev 2 mX11_back 0 [.ref 0, .int v] [] ((SH, nc, ns), I, J, F) (some (.int 0)) ((SH, nc, ns), hp_u I 0 10 (ixS v M), J, F) := by
  refine e_aload_n (p := 1) dX11_back_0 rfl rfl ?_
  refine e_iload_n (p := 2) dX11_back_1 rfl rfl ?_
  refine e_aload_n (p := 3) dX11_back_2 rfl rfl ?_
  refine e_getR (c := 10) (j := 4) (n := 13) (b := 43) (p := 6) dX11_back_3 rfl rfl (by decide) (by decide) rfl (r_0_4 hF) rfl ?_
  refine f_getI (c := 5) (j := 3) (n := 4) (v := nI M) (p := 9) dX11_back_6 rfl rfl (by decide) (by decide) (Or.inl rfl) hM rfl ?_
  refine e_callS_int (p := 12) (k' := 0) (a := [.int v, .int (nI M)]) (rr := [.ref 0]) dX11_back_9 rfl rfl rfl rfl rfl (rc_st rfl) (Nat.le_of_ble_eq_true rfl) (Nat.le_of_ble_eq_true rfl) (by decide) (x_ofIndex (n := M)) (Or.inl rfl) rfl ?_
  refine e_callV_int (p := 15) (k' := 0) (a := [.ref 0, .int (ixS v M)]) (rr := []) dX11_back_12 rfl rfl rfl rfl (rc_of rfl rfl (by decide) ⟨rfl, by decide⟩) (Nat.le_of_ble_eq_true rfl) (Nat.le_of_ble_eq_true rfl) (by decide) x_refused (Or.inl rfl) rfl ?_
  refine e_if_eq (t := 20) (p := 18) dX11_back_15 (by decide) rfl rfl (fun hc15 => absurd hc15 (rf_ne ht)) (fun hc15 => ?_)
  refine e_iconst (v := 0) (p := 19) dX11_back_18 (by decide) rfl ?_
  exact e_iretE dX11_back_19 rfl (by decide) (by decide) ⟨rfl, rfl⟩
set_option maxRecDepth 10000 in
theorem c_back_ok {I : Nat → Nat → Int32} {J : Nat → Nat → Int64} {F : Nat → Nat → Option Nat} {nc ns : Nat} (hF : RFok F) {M : Nat} (hM : I 43 3 = nI M) (hM3 : M ≤ 3) {i : Nat} (hi : i < M)  : Ev 2 mX11_back 0 [.ref 0, .int (nI i)] [] ((SH, nc, ns), I, J, F) (some (.int 1)) ((SH, nc, ns), hp_u (mcp (hp_u I 0 10 0) 42 (62 + i)) 43 2 0, J, F) := by
  refine e_aload_n (p := 1) dX11_back_0 rfl rfl ?_
  refine e_iload_n (p := 2) dX11_back_1 rfl rfl ?_
  refine e_aload_n (p := 3) dX11_back_2 rfl rfl ?_
  refine e_getR (c := 10) (j := 4) (n := 13) (b := 43) (p := 6) dX11_back_3 rfl rfl (by decide) (by decide) rfl (r_0_4 hF) rfl ?_
  refine f_getI (c := 5) (j := 3) (n := 4) (v := nI M) (p := 9) dX11_back_6 rfl rfl (by decide) (by decide) (Or.inl rfl) hM rfl ?_
  refine e_callS_int (p := 12) (k' := 0) (a := [.int (nI i), .int (nI M)]) (rr := [.ref 0]) dX11_back_9 rfl rfl rfl rfl rfl (rc_st rfl) (Nat.le_of_ble_eq_true rfl) (Nat.le_of_ble_eq_true rfl) (by decide) (Ev.i (ix_ok (n := M) (w := i) (by omega) (by omega)) (x_ofIndex)) (Or.inl rfl) rfl ?_
  refine e_callV_int (p := 15) (k' := 0) (a := [.ref 0, .int 0]) (rr := []) dX11_back_12 rfl rfl rfl rfl (rc_of rfl rfl (by decide) ⟨rfl, by decide⟩) (Nat.le_of_ble_eq_true rfl) (Nat.le_of_ble_eq_true rfl) (by decide) (Ev.i (show rfS 0 = 0 by decide) (x_refused)) (Or.inl rfl) rfl ?_
  refine e_if_eq (t := 20) (p := 18) dX11_back_15 (by decide) rfl rfl (fun hc15 => ?_) (fun hc15 => absurd (by decide) hc15)
  refine e_aload_n (p := 21) dX11_back_20 rfl rfl ?_
  refine e_getR (c := 10) (j := 4) (n := 13) (b := 43) (p := 24) dX11_back_21 rfl rfl (by decide) (by decide) rfl (r_0_4 hF) rfl ?_
  refine e_iload_n (p := 25) dX11_back_24 rfl rfl ?_
  refine e_aload_n (p := 26) dX11_back_25 rfl rfl ?_
  refine e_getR (c := 10) (j := 3) (n := 13) (b := 42) (p := 29) dX11_back_26 rfl rfl (by decide) (by decide) rfl (r_0_3 hF) rfl ?_
  refine e_callV_v (p := 32) (k' := 1) (a := [.ref 43, .int (nI i), .ref 42]) (rr := []) dX11_back_29 rfl rfl rfl rfl (rc_of rfl rfl (by decide) ⟨rfl, by decide⟩) (Nat.le_of_ble_eq_true rfl) (Nat.le_of_ble_eq_true rfl) (by decide) (x_goBack (M := M) (i := i) hF hM3 hi ((congrFun (hu_ne (by decide)) 3).trans hM)) (Or.inl rfl) rfl ?_
  refine e_iconst (v := 1) (p := 33) dX11_back_32 (by decide) rfl ?_
  exact e_iretE dX11_back_33 rfl (by decide) (by decide) ⟨rfl, rfl⟩
