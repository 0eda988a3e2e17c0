/-! The crew: the reference lays the parts. -/
set_option maxRecDepth 10000 in
theorem y_lay_1 {J : Nat → Nat → Int64} {F : Nat → Nat → Option Nat} {nc ns : Nat} {I0 : Nat → Nat → Int32} {D : oD} (hF : RFok F) (hM0 : oM I0 98 D) (hW : WF D) {v : Nat} {l : Int32} (hv : v ≤ 999) (hy : inR (l * D 0 0) 0 270)  {Q : Option Value → hp_H → Prop} : ∀ (m j : Nat) (I : Nat → Nat → Int32), j + m = 5 → (Fr 107 108 I0 I ∧ ∀ i, i < j → I 107 i = 0) → (∀ (I : Nat → Nat → Int32), (Fr 107 108 I0 I ∧ ∀ i, i < 5 → I 107 i = 0) → Ew 1 mX12_layParts 25 [.ref 95, .int (nI v), .int l, .int 0, .int (nI 5), .null, .null, .null] [] ((SH, nc, ns), I, J, F) Q) → Ew 1 mX12_layParts 5 [.ref 95, .int (nI v), .int l, .int 0, .int (nI j), .null, .null, .null] [] ((SH, nc, ns), I, J, F) Q
  | 0, j, I, hj, hI, hq => by
    have hD := hW.c
    have hH := hW.h
    have hT := hW.t
    have bt := hT.2
    obtain ⟨b0, b1, b2, b3, b4, b5, b6⟩ := hD.2
    have hM : oM I 98 D := oM_fr hM0 (hI.1 98 (by omega))
    have hall := all_n hW hy
    obtain rfl : j = 5 := by omega
    refine we_iload (p := 7) dX12_layParts_5 rfl rfl ?_
    refine we_iconst (v := 5) (p := 8) dX12_layParts_7 (by decide) rfl ?_
    refine we_icmp_ge (t := 25) (p := 11) dX12_layParts_8 (by decide) rfl rfl (fun hc8 => ?_) (fun hc8 => absurd (nI_le (a := 5) (b := 5) (by omega) (by omega)) hc8)
    exact hq _  hI
  | m + 1, j, I, hj, hI, hq => by
    have hD := hW.c
    have hH := hW.h
    have hT := hW.t
    have bt := hT.2
    obtain ⟨b0, b1, b2, b3, b4, b5, b6⟩ := hD.2
    have hM : oM I 98 D := oM_fr hM0 (hI.1 98 (by omega))
    have hall := all_n hW hy
    refine we_iload (p := 7) dX12_layParts_5 rfl rfl ?_
    refine we_iconst (v := 5) (p := 8) dX12_layParts_7 (by decide) rfl ?_
    refine we_icmp_ge (t := 25) (p := 11) dX12_layParts_8 (by decide) rfl rfl (fun hc8 => absurd hc8 (nI_ge (a := j) (b := 5) (by omega) (by omega))) (fun hc8 => ?_)
    refine we_aload_n (p := 12) dX12_layParts_11 rfl rfl ?_
    refine we_getR (c := 11) (j := 30) (n := 37) (b := 107) (p := 15) dX12_layParts_12 rfl rfl (by decide) (by decide) rfl (r_95_30 hF) rfl ?_
    refine we_iload (p := 17) dX12_layParts_15 rfl rfl ?_
    refine we_iconst (v := 0) (p := 18) dX12_layParts_17 (by decide) rfl ?_
    refine wf_iast (n := 5) (i := j) (p := 19) dX12_layParts_18 rfl (by decide) (in_nJ (by omega) (by decide)) (nI_cl (by omega)) rfl ?_
    refine we_iinc (ls1 := [.ref 95, .int (nI v), .int l, .int 0, .int ((nI j) + 1), .null, .null, .null]) (p := 22) dX12_layParts_19 rfl rfl rfl ?_
    refine we_goto (p := 5) dX12_layParts_22 (by decide) rfl ?_
    rw [nI_1]
    exact y_lay_1 hF hM0 hW hv hy m (j + 1) _  (by omega) (⟨hI.1.u (by decide) (by decide), fun i hi => by rw [hu_if]; split; rfl; exact hI.2 i (by omega)⟩) hq
set_option maxRecDepth 10000 in
theorem y_lay_2 {J : Nat → Nat → Int64} {F : Nat → Nat → Option Nat} {nc ns : Nat} {I0 : Nat → Nat → Int32} {D : oD} (hF : RFok F) (hM0 : oM I0 98 D) (hW : WF D) {v : Nat} {l : Int32} (hv : v ≤ 999) (hy : inR (l * D 0 0) 0 270)  {Q : Option Value → hp_H → Prop} : ∀ (m j : Nat) (I : Nat → Nat → Int32), j + m = dN D 5 → (Fr 107 108 I0 I ∧ ∀ i, i < 5 → I 107 i = 0) → (∀ (I : Nat → Nat → Int32), (Fr 107 108 I0 I ∧ ∀ i, i < 5 → I 107 i = 0) → Ew 1 mX12_layParts 56 [.ref 95, .int (nI v), .int l, .int (nI (sumN (svN D (l * D 0 0)) (dN D 5))), .int (nI (dN D 5)), .null, .null, .null] [] ((SH, nc, ns), I, J, F) Q) → Ew 1 mX12_layParts 28 [.ref 95, .int (nI v), .int l, .int (nI (sumN (svN D (l * D 0 0)) j)), .int (nI j), .null, .null, .null] [] ((SH, nc, ns), I, J, F) Q
  | 0, j, I, hj, hI, hq => by
    have hD := hW.c
    have hH := hW.h
    have hT := hW.t
    have bt := hT.2
    obtain ⟨b0, b1, b2, b3, b4, b5, b6⟩ := hD.2
    have hM : oM I 98 D := oM_fr hM0 (hI.1 98 (by omega))
    have hall := all_n hW hy
    obtain rfl : j = dN D 5 := by omega
    refine we_iload (p := 30) dX12_layParts_28 rfl rfl ?_
    refine we_aload_n (p := 31) dX12_layParts_30 rfl rfl ?_
    refine we_getR (c := 11) (j := 15) (n := 37) (b := 98) (p := 34) dX12_layParts_31 rfl rfl (by decide) (by decide) rfl (r_95_15 hF) rfl ?_
    refine we_bipush (v := 7) (p := 36) dX12_layParts_34 (by decide) rfl ?_
    refine wf_iald (n := 276) (i := 7) (v := nI (dN D 5)) (p := 37) dX12_layParts_36 rfl (by decide) (by decide) (by decide) (mNn (i := 5) hM hD (by decide)) rfl ?_
    refine we_icmp_ge (t := 56) (p := 40) dX12_layParts_37 (by decide) rfl rfl (fun hc37 => ?_) (fun hc37 => absurd (nle (by omega) (by omega)) hc37)
    exact hq _  hI
  | m + 1, j, I, hj, hI, hq => by
    have hD := hW.c
    have hH := hW.h
    have hT := hW.t
    have bt := hT.2
    obtain ⟨b0, b1, b2, b3, b4, b5, b6⟩ := hD.2
    have hM : oM I 98 D := oM_fr hM0 (hI.1 98 (by omega))
    have hall := all_n hW hy
    refine we_iload (p := 30) dX12_layParts_28 rfl rfl ?_
    refine we_aload_n (p := 31) dX12_layParts_30 rfl rfl ?_
    refine we_getR (c := 11) (j := 15) (n := 37) (b := 98) (p := 34) dX12_layParts_31 rfl rfl (by decide) (by decide) rfl (r_95_15 hF) rfl ?_
    refine we_bipush (v := 7) (p := 36) dX12_layParts_34 (by decide) rfl ?_
    refine wf_iald (n := 276) (i := 7) (v := nI (dN D 5)) (p := 37) dX12_layParts_36 rfl (by decide) (by decide) (by decide) (mNn (i := 5) hM hD (by decide)) rfl ?_
    refine we_icmp_ge (t := 56) (p := 40) dX12_layParts_37 (by decide) rfl rfl (fun hc37 => absurd hc37 (nge (by omega) (by omega))) (fun hc37 => ?_)
    refine we_iload_n (p := 41) dX12_layParts_40 rfl rfl ?_
    refine we_aload_n (p := 42) dX12_layParts_41 rfl rfl ?_
    refine we_iload (p := 44) dX12_layParts_42 rfl rfl ?_
    refine we_iload_n (p := 45) dX12_layParts_44 rfl rfl ?_
    refine we_callV_int (p := 48) (k' := 0) (a := [.ref 95, .int (nI j), .int l]) (rr := [.int (nI (sumN (svN D (l * D 0 0)) j))]) dX12_layParts_45 rfl rfl rfl rfl (rc_of rfl rfl (by decide) ⟨rfl, by decide⟩) (Nat.le_of_ble_eq_true rfl) (Nat.le_of_ble_eq_true rfl) (by decide) (y_weight hF hM hW (by omega)) (Or.inl rfl) rfl ?_
    refine we_iadd (p := 49) dX12_layParts_48 rfl ?_
    refine we_istore_n (ls1 := [.ref 95, .int (nI v), .int l, .int ((nI (sumN (svN D (l * D 0 0)) j)) + (servedS D j (l * D 0 0))), .int (nI j), .null, .null, .null]) (p := 50) dX12_layParts_49 rfl rfl ?_
    refine we_iinc (ls1 := [.ref 95, .int (nI v), .int l, .int ((nI (sumN (svN D (l * D 0 0)) j)) + (servedS D j (l * D 0 0))), .int ((nI j) + 1), .null, .null, .null]) (p := 53) dX12_layParts_50 rfl rfl rfl ?_
    refine we_goto (p := 28) dX12_layParts_53 (by decide) rfl ?_
    rw [show ((nI (sumN (svN D (l * D 0 0)) j)) + (servedS D j (l * D 0 0)) : Int32) = nI (sumN (svN D (l * D 0 0)) (j + 1)) from (by rw [(sv_n hW hy (by omega)).1, nI_add]; rfl)]
    rw [nI_1]
    exact y_lay_2 hF hM0 hW hv hy m (j + 1) _  (by omega) hI hq
theorem upd1 {I : Nat → Nat → Int32} {p j i : Nat} {x : Int32} {f : Nat → Int32} (h : x = f j) (h2 : i ≠ j → I p i = f i) : hp_u I p j x p i = f i := by
  rw [hu_if]
  by_cases c : i = j
  · rw [if_pos c, c]
    exact h
  · rw [if_neg c]
    exact h2 c
set_option maxRecDepth 10000 in
theorem y_lay_3 {J : Nat → Nat → Int64} {F : Nat → Nat → Option Nat} {nc ns : Nat} {I0 : Nat → Nat → Int32} {D : oD} (hF : RFok F) (hM0 : oM I0 98 D) (hW : WF D) {v : Nat} {l : Int32} (hv : v ≤ 999) (hy : inR (l * D 0 0) 0 270) (h0 : 0 < allN D (l * D 0 0))  {Q : Option Value → hp_H → Prop} : ∀ (m j : Nat) (I : Nat → Nat → Int32), j + m = dN D 5 → (Fr 107 108 I0 I ∧ ∀ i, i < j → I 107 i = nI (qN D v (l * D 0 0) i)) → (∀ (I : Nat → Nat → Int32), (Fr 107 108 I0 I ∧ ∀ i, i < (dN D 5) → I 107 i = nI (qN D v (l * D 0 0) i)) → Ew 1 mX12_layParts 115 [.ref 95, .int (nI v), .int l, .int (nI (allN D (l * D 0 0))), .int (nI (v - sumN (qN D v (l * D 0 0)) (dN D 5))), .int (nI (dN D 5)), .null, .null] [] ((SH, nc, ns), I, J, F) Q) → Ew 1 mX12_layParts 67 [.ref 95, .int (nI v), .int l, .int (nI (allN D (l * D 0 0))), .int (nI (v - sumN (qN D v (l * D 0 0)) j)), .int (nI j), .null, .null] [] ((SH, nc, ns), I, J, F) Q
  | 0, j, I, hj, hI, hq => by
    have hD := hW.c
    have hH := hW.h
    have hT := hW.t
    have bt := hT.2
    obtain ⟨b0, b1, b2, b3, b4, b5, b6⟩ := hD.2
    have hM : oM I 98 D := oM_fr hM0 (hI.1 98 (by omega))
    have hall := all_n hW hy
    have ha0 : allN D (l * D 0 0) ≤ 12150 := hall _ (Nat.le_refl _)
    obtain rfl : j = dN D 5 := by omega
    refine we_iload (p := 69) dX12_layParts_67 rfl rfl ?_
    refine we_aload_n (p := 70) dX12_layParts_69 rfl rfl ?_
    refine we_getR (c := 11) (j := 15) (n := 37) (b := 98) (p := 73) dX12_layParts_70 rfl rfl (by decide) (by decide) rfl (r_95_15 hF) rfl ?_
    refine we_bipush (v := 7) (p := 75) dX12_layParts_73 (by decide) rfl ?_
    refine wf_iald (n := 276) (i := 7) (v := nI (dN D 5)) (p := 76) dX12_layParts_75 rfl (by decide) (by decide) (by decide) (mNn (i := 5) hM hD (by decide)) rfl ?_
    refine we_icmp_ge (t := 115) (p := 79) dX12_layParts_76 (by decide) rfl rfl (fun hc76 => ?_) (fun hc76 => absurd (nle (by omega) (by omega)) hc76)
    exact hq _  hI
  | m + 1, j, I, hj, hI, hq => by
    have hD := hW.c
    have hH := hW.h
    have hT := hW.t
    have bt := hT.2
    obtain ⟨b0, b1, b2, b3, b4, b5, b6⟩ := hD.2
    have hM : oM I 98 D := oM_fr hM0 (hI.1 98 (by omega))
    have hall := all_n hW hy
    have ha0 : allN D (l * D 0 0) ≤ 12150 := hall _ (Nat.le_refl _)
    have hs := sv_n hW hy (show j < dN D 5 by omega)
    have hm : v * svN D (l * D 0 0) j ≤ 999 * 2430 := Nat.mul_le_mul hv hs.2
    have gq : nI v * servedS D j (l * D 0 0) / nI (allN D (l * D 0 0)) = nI (qN D v (l * D 0 0) j) := by
      rw [hs.1, pk_mul, pk_div (by omega) h0 (by omega)]
      rfl
    have gs := q_le (v := v) h0 (j + 1) (by omega)
    refine we_iload (p := 69) dX12_layParts_67 rfl rfl ?_
    refine we_aload_n (p := 70) dX12_layParts_69 rfl rfl ?_
    refine we_getR (c := 11) (j := 15) (n := 37) (b := 98) (p := 73) dX12_layParts_70 rfl rfl (by decide) (by decide) rfl (r_95_15 hF) rfl ?_
    refine we_bipush (v := 7) (p := 75) dX12_layParts_73 (by decide) rfl ?_
    refine wf_iald (n := 276) (i := 7) (v := nI (dN D 5)) (p := 76) dX12_layParts_75 rfl (by decide) (by decide) (by decide) (mNn (i := 5) hM hD (by decide)) rfl ?_
    refine we_icmp_ge (t := 115) (p := 79) dX12_layParts_76 (by decide) rfl rfl (fun hc76 => absurd hc76 (nge (by omega) (by omega))) (fun hc76 => ?_)
    refine we_aload_n (p := 80) dX12_layParts_79 rfl rfl ?_
    refine we_getR (c := 11) (j := 30) (n := 37) (b := 107) (p := 83) dX12_layParts_80 rfl rfl (by decide) (by decide) rfl (r_95_30 hF) rfl ?_
    refine we_iload (p := 85) dX12_layParts_83 rfl rfl ?_
    refine we_iload_n (p := 86) dX12_layParts_85 rfl rfl ?_
    refine we_aload_n (p := 87) dX12_layParts_86 rfl rfl ?_
    refine we_iload (p := 89) dX12_layParts_87 rfl rfl ?_
    refine we_iload_n (p := 90) dX12_layParts_89 rfl rfl ?_
    refine we_callV_int (p := 93) (k' := 0) (a := [.ref 95, .int (nI j), .int l]) (rr := [.int (nI v), .int (nI j), .ref 107]) dX12_layParts_90 rfl rfl rfl rfl (rc_of rfl rfl (by decide) ⟨rfl, by decide⟩) (Nat.le_of_ble_eq_true rfl) (Nat.le_of_ble_eq_true rfl) (by decide) (y_weight hF hM hW (by omega)) (Or.inl rfl) rfl ?_
    refine we_imul (p := 94) dX12_layParts_93 rfl ?_
    refine we_iload_n (p := 95) dX12_layParts_94 rfl rfl ?_
    refine we_idiv (p := 96) dX12_layParts_95 (nI_ne0 h0 (by omega)) rfl ?_
    refine wf_iast (n := 5) (i := j) (p := 97) dX12_layParts_96 rfl (by decide) (in_nJ (by omega) (by decide)) (nI_cl (by omega)) rfl ?_
    refine we_iload (p := 99) dX12_layParts_97 rfl rfl ?_
    refine we_aload_n (p := 100) dX12_layParts_99 rfl rfl ?_
    refine we_getR (c := 11) (j := 30) (n := 37) (b := 107) (p := 103) dX12_layParts_100 rfl rfl (by decide) (by decide) rfl (r_95_30 hF) rfl ?_
    refine we_iload (p := 105) dX12_layParts_103 rfl rfl ?_
    refine wf_iald (n := 5) (i := j) (v := nI (qN D v (l * D 0 0) j)) (p := 106) dX12_layParts_105 rfl (by decide) (in_nJ (by omega) (by decide)) (nI_cl (by omega)) (by rw [hu_eq]; exact gq) rfl ?_
    refine we_isub (p := 107) dX12_layParts_106 rfl ?_
    refine we_istore (ls1 := [.ref 95, .int (nI v), .int l, .int (nI (allN D (l * D 0 0))), .int ((nI (v - sumN (qN D v (l * D 0 0)) j)) - (nI (qN D v (l * D 0 0) j))), .int (nI j), .null, .null]) (p := 109) dX12_layParts_107 rfl rfl ?_
    refine we_iinc (ls1 := [.ref 95, .int (nI v), .int l, .int (nI (allN D (l * D 0 0))), .int ((nI (v - sumN (qN D v (l * D 0 0)) j)) - (nI (qN D v (l * D 0 0) j))), .int ((nI j) + 1), .null, .null]) (p := 112) dX12_layParts_109 rfl rfl rfl ?_
    refine we_goto (p := 67) dX12_layParts_112 (by decide) rfl ?_
    rw [show ((nI (v - sumN (qN D v (l * D 0 0)) j)) - (nI (qN D v (l * D 0 0) j)) : Int32) = nI (v - sumN (qN D v (l * D 0 0)) (j + 1)) from (by rw [pk_sub (by rw [sumN] at gs; omega), sumN, Nat.sub_sub])]
    rw [nI_1]
    exact y_lay_3 hF hM0 hW hv hy h0 m (j + 1) _  (by omega) (⟨hI.1.u (by decide) (by decide), fun i hi => upd1 (f := fun i => nI (qN D v (l * D 0 0) i)) gq (fun c => hI.2 i (by omega))⟩) hq
set_option maxRecDepth 10000 in
theorem y_lay_s {I : Nat → Nat → Int32} {J : Nat → Nat → Int64} {F : Nat → Nat → Option Nat} {nc ns : Nat} {D : oD} (hF : RFok F) (hM : oM I 98 D) (hW : WF D) {v : Nat} {l : Int32} (hv : v ≤ 999) (hy : inR (l * D 0 0) 0 270) (h0 : 0 < allN D (l * D 0 0)) {lf g : Int32} {Q : Option Value → hp_H → Prop} : ∀ (m j : Nat) (b : Int32), j + m = dN D 5 → (b = -1 ∨ ∃ x, x < dN D 5 ∧ b = nI x) → Ew 1 mX12_layParts 191 [.ref 95, .int (nI v), .int l, .int (nI (allN D (l * D 0 0))), .int lf, .int g, .int (gN (pkF (fun i => nI (rN D v (l * D 0 0) i)) g) j m b), .int (nI (dN D 5))] [] ((SH, nc, ns), I, J, F) Q → Ew 1 mX12_layParts 129 [.ref 95, .int (nI v), .int l, .int (nI (allN D (l * D 0 0))), .int lf, .int g, .int b, .int (nI j)] [] ((SH, nc, ns), I, J, F) Q
  | 0, j, b, hj, hb => fun q => by
    have hD := hW.c
    have hH := hW.h
    have hT := hW.t
    have bt := hT.2
    obtain ⟨b0, b1, b2, b3, b4, b5, b6⟩ := hD.2
    have ha0 : allN D (l * D 0 0) ≤ 12150 := all_n hW hy _ (Nat.le_refl _)
    obtain rfl : j = dN D 5 := by omega
    refine we_iload (p := 131) dX12_layParts_129 rfl rfl ?_
    refine we_aload_n (p := 132) dX12_layParts_131 rfl rfl ?_
    refine we_getR (c := 11) (j := 15) (n := 37) (b := 98) (p := 135) dX12_layParts_132 rfl rfl (by decide) (by decide) rfl (r_95_15 hF) rfl ?_
    refine we_bipush (v := 7) (p := 137) dX12_layParts_135 (by decide) rfl ?_
    refine wf_iald (n := 276) (i := 7) (v := nI (dN D 5)) (p := 138) dX12_layParts_137 rfl (by decide) (by decide) (by decide) (mNn (i := 5) hM hD (by decide)) rfl ?_
    refine we_icmp_ge (t := 191) (p := 141) dX12_layParts_138 (by decide) rfl rfl (fun hc138 => ?_) (fun hc138 => absurd (nle (by omega) (by omega)) hc138)
    exact q
  | m + 1, j, b, hj, hb => fun q => by
    have hD := hW.c
    have hH := hW.h
    have hT := hW.t
    have bt := hT.2
    obtain ⟨b0, b1, b2, b3, b4, b5, b6⟩ := hD.2
    have ha0 : allN D (l * D 0 0) ≤ 12150 := all_n hW hy _ (Nat.le_refl _)
    have gr : ∀ i, i < dN D 5 → nI v * servedS D i (l * D 0 0) - nI v * servedS D i (l * D 0 0) / nI (allN D (l * D 0 0)) * nI (allN D (l * D 0 0)) = nI (rN D v (l * D 0 0) i) := by
      intro i hi
      have hs := sv_n hW hy hi
      have hm : v * svN D (l * D 0 0) i ≤ 999 * 2430 := Nat.mul_le_mul hv hs.2
      rw [hs.1, pk_mul, pk_rem (by omega) h0 (by omega)]
      rfl
    rcases hb with rfl | ⟨x, hx, rfl⟩
    · skip
      refine we_iload (p := 131) dX12_layParts_129 rfl rfl ?_
      refine we_aload_n (p := 132) dX12_layParts_131 rfl rfl ?_
      refine we_getR (c := 11) (j := 15) (n := 37) (b := 98) (p := 135) dX12_layParts_132 rfl rfl (by decide) (by decide) rfl (r_95_15 hF) rfl ?_
      refine we_bipush (v := 7) (p := 137) dX12_layParts_135 (by decide) rfl ?_
      refine wf_iald (n := 276) (i := 7) (v := nI (dN D 5)) (p := 138) dX12_layParts_137 rfl (by decide) (by decide) (by decide) (mNn (i := 5) hM hD (by decide)) rfl ?_
      refine we_icmp_ge (t := 191) (p := 141) dX12_layParts_138 (by decide) rfl rfl (fun hc138 => absurd hc138 (nge (by omega) (by omega))) (fun hc138 => ?_)
      refine we_iload (p := 143) dX12_layParts_141 rfl rfl ?_
      refine we_iload (p := 145) dX12_layParts_143 rfl rfl ?_
      refine we_callS_int (p := 148) (k' := 0) (a := [.int g, .int (nI j)]) (rr := []) dX12_layParts_145 rfl rfl rfl rfl rfl (rc_st rfl) (Nat.le_of_ble_eq_true rfl) (Nat.le_of_ble_eq_true rfl) (by decide) (y_hasBit  ) (Or.inl rfl) rfl ?_
      refine we_if_ne (t := 185) (p := 151) dX12_layParts_148 (by decide) rfl rfl (fun hc148 => ?_) (fun hc148 => ?_)
      · skip
        refine we_iinc (ls1 := [.ref 95, .int (nI v), .int l, .int (nI (allN D (l * D 0 0))), .int lf, .int g, .int (-1), .int ((nI j) + 1)]) (p := 188) dX12_layParts_185 rfl rfl rfl ?_
        refine we_goto (p := 129) dX12_layParts_188 (by decide) rfl ?_
        rw [nI_1]
        refine y_lay_s hF hM hW hv hy h0 m (j + 1) (-1) (by omega) (Or.inl rfl) ?_
        simpa only [gN_s, pkF, hc148, (show (-1 : Int32) < 0 by decide), ↓reduceIte] using q
      · skip
        refine we_iload (p := 153) dX12_layParts_151 rfl rfl ?_
        refine we_if_lt (t := 181) (p := 156) dX12_layParts_153 (by decide) rfl rfl (fun hc153 => ?_) (fun hc153 => absurd (by decide) hc153)
        refine we_iload (p := 183) dX12_layParts_181 rfl rfl ?_
        refine we_istore (ls1 := [.ref 95, .int (nI v), .int l, .int (nI (allN D (l * D 0 0))), .int lf, .int g, .int (nI j), .int (nI j)]) (p := 185) dX12_layParts_183 rfl rfl ?_
        refine we_iinc (ls1 := [.ref 95, .int (nI v), .int l, .int (nI (allN D (l * D 0 0))), .int lf, .int g, .int (nI j), .int ((nI j) + 1)]) (p := 188) dX12_layParts_185 rfl rfl rfl ?_
        refine we_goto (p := 129) dX12_layParts_188 (by decide) rfl ?_
        rw [nI_1]
        refine y_lay_s hF hM hW hv hy h0 m (j + 1) (nI j) (by omega) (Or.inr ⟨j, by omega, rfl⟩) ?_
        simpa only [gN_s, pkF, hc148, (show (-1 : Int32) < 0 by decide), ↓reduceIte] using q
    · skip
      refine we_iload (p := 131) dX12_layParts_129 rfl rfl ?_
      refine we_aload_n (p := 132) dX12_layParts_131 rfl rfl ?_
      refine we_getR (c := 11) (j := 15) (n := 37) (b := 98) (p := 135) dX12_layParts_132 rfl rfl (by decide) (by decide) rfl (r_95_15 hF) rfl ?_
      refine we_bipush (v := 7) (p := 137) dX12_layParts_135 (by decide) rfl ?_
      refine wf_iald (n := 276) (i := 7) (v := nI (dN D 5)) (p := 138) dX12_layParts_137 rfl (by decide) (by decide) (by decide) (mNn (i := 5) hM hD (by decide)) rfl ?_
      refine we_icmp_ge (t := 191) (p := 141) dX12_layParts_138 (by decide) rfl rfl (fun hc138 => absurd hc138 (nge (by omega) (by omega))) (fun hc138 => ?_)
      refine we_iload (p := 143) dX12_layParts_141 rfl rfl ?_
      refine we_iload (p := 145) dX12_layParts_143 rfl rfl ?_
      refine we_callS_int (p := 148) (k' := 0) (a := [.int g, .int (nI j)]) (rr := []) dX12_layParts_145 rfl rfl rfl rfl rfl (rc_st rfl) (Nat.le_of_ble_eq_true rfl) (Nat.le_of_ble_eq_true rfl) (by decide) (y_hasBit  ) (Or.inl rfl) rfl ?_
      refine we_if_ne (t := 185) (p := 151) dX12_layParts_148 (by decide) rfl rfl (fun hc148 => ?_) (fun hc148 => ?_)
      · skip
        refine we_iinc (ls1 := [.ref 95, .int (nI v), .int l, .int (nI (allN D (l * D 0 0))), .int lf, .int g, .int (nI x), .int ((nI j) + 1)]) (p := 188) dX12_layParts_185 rfl rfl rfl ?_
        refine we_goto (p := 129) dX12_layParts_188 (by decide) rfl ?_
        rw [nI_1]
        refine y_lay_s hF hM hW hv hy h0 m (j + 1) (nI x) (by omega) (Or.inr ⟨x, hx, rfl⟩) ?_
        simpa only [gN_s, pkF, hc148, (nI_pos (show x < 2 ^ 31 by omega)), (nI_cl (show x < 1000 by omega)), ↓reduceIte] using q
      · skip
        refine we_iload (p := 153) dX12_layParts_151 rfl rfl ?_
        refine we_if_lt (t := 181) (p := 156) dX12_layParts_153 (by decide) rfl rfl (fun hc153 => absurd hc153 (nI_pos (by omega))) (fun hc153 => ?_)
        refine we_iload_n (p := 157) dX12_layParts_156 rfl rfl ?_
        refine we_aload_n (p := 158) dX12_layParts_157 rfl rfl ?_
        refine we_iload (p := 160) dX12_layParts_158 rfl rfl ?_
        refine we_iload_n (p := 161) dX12_layParts_160 rfl rfl ?_
        refine we_callV_int (p := 164) (k' := 0) (a := [.ref 95, .int (nI j), .int l]) (rr := [.int (nI v)]) dX12_layParts_161 rfl rfl rfl rfl (rc_of rfl rfl (by decide) ⟨rfl, by decide⟩) (Nat.le_of_ble_eq_true rfl) (Nat.le_of_ble_eq_true rfl) (by decide) (y_weight hF hM hW (by omega)) (Or.inl rfl) rfl ?_
        refine we_imul (p := 165) dX12_layParts_164 rfl ?_
        refine we_iload_n (p := 166) dX12_layParts_165 rfl rfl ?_
        refine we_irem (p := 167) dX12_layParts_166 (nI_ne0 h0 (by omega)) rfl ?_
        refine we_iload_n (p := 168) dX12_layParts_167 rfl rfl ?_
        refine we_aload_n (p := 169) dX12_layParts_168 rfl rfl ?_
        refine we_iload (p := 171) dX12_layParts_169 rfl rfl ?_
        refine we_iload_n (p := 172) dX12_layParts_171 rfl rfl ?_
        refine we_callV_int (p := 175) (k' := 0) (a := [.ref 95, .int (nI x), .int l]) (rr := [.int (nI v), .int (((nI v) * (servedS D j (l * D 0 0))) - ((nI v) * (servedS D j (l * D 0 0))) / (nI (allN D (l * D 0 0))) * (nI (allN D (l * D 0 0))))]) dX12_layParts_172 rfl rfl rfl rfl (rc_of rfl rfl (by decide) ⟨rfl, by decide⟩) (Nat.le_of_ble_eq_true rfl) (Nat.le_of_ble_eq_true rfl) (by decide) (y_weight hF hM hW (by omega)) (Or.inl rfl) rfl ?_
        refine we_imul (p := 176) dX12_layParts_175 rfl ?_
        refine we_iload_n (p := 177) dX12_layParts_176 rfl rfl ?_
        refine we_irem (p := 178) dX12_layParts_177 (nI_ne0 h0 (by omega)) rfl ?_
        refine we_icmp_le (t := 185) (p := 181) dX12_layParts_178 (by decide) rfl rfl (fun hc178 => ?_) (fun hc178 => ?_)
        · skip
          refine we_iinc (ls1 := [.ref 95, .int (nI v), .int l, .int (nI (allN D (l * D 0 0))), .int lf, .int g, .int (nI x), .int ((nI j) + 1)]) (p := 188) dX12_layParts_185 rfl rfl rfl ?_
          refine we_goto (p := 129) dX12_layParts_188 (by decide) rfl ?_
          rw [gr j (by omega), gr x hx] at hc178
          rw [nI_1]
          refine y_lay_s hF hM hW hv hy h0 m (j + 1) (nI x) (by omega) (Or.inr ⟨x, hx, rfl⟩) ?_
          simpa only [gN_s, pkF, hc148, hc178, (nI_pos (show x < 2 ^ 31 by omega)), (nI_cl (show x < 1000 by omega)), ↓reduceIte] using q
        · skip
          refine we_iload (p := 183) dX12_layParts_181 rfl rfl ?_
          refine we_istore (ls1 := [.ref 95, .int (nI v), .int l, .int (nI (allN D (l * D 0 0))), .int lf, .int g, .int (nI j), .int (nI j)]) (p := 185) dX12_layParts_183 rfl rfl ?_
          refine we_iinc (ls1 := [.ref 95, .int (nI v), .int l, .int (nI (allN D (l * D 0 0))), .int lf, .int g, .int (nI j), .int ((nI j) + 1)]) (p := 188) dX12_layParts_185 rfl rfl rfl ?_
          refine we_goto (p := 129) dX12_layParts_188 (by decide) rfl ?_
          rw [gr j (by omega), gr x hx] at hc178
          rw [nI_1]
          refine y_lay_s hF hM hW hv hy h0 m (j + 1) (nI j) (by omega) (Or.inr ⟨j, by omega, rfl⟩) ?_
          simpa only [gN_s, pkF, hc148, hc178, (nI_pos (show x < 2 ^ 31 by omega)), (nI_cl (show x < 1000 by omega)), ↓reduceIte] using q
set_option maxRecDepth 10000 in
theorem y_lay_h {J : Nat → Nat → Int64} {F : Nat → Nat → Option Nat} {nc ns : Nat} {D : oD} (hF : RFok F) (hW : WF D) {v : Nat} {l : Int32} (hv : v ≤ 999) (hy : inR (l * D 0 0) 0 270) (h0 : 0 < allN D (l * D 0 0)) : ∀ (m : Nat) (I : Nat → Nat → Int32) (g : Int32) (q : Nat → Int32) (z1 z2 : Value), oM I 98 D → givN g (dN D 5) + m ≤ dN D 5 → (∀ i, i < dN D 5 → I 107 i = q i) → Ew 1 mX12_layParts 118 [.ref 95, .int (nI v), .int l, .int (nI (allN D (l * D 0 0))), .int (nI m), .int g, z1, z2] [] ((SH, nc, ns), I, J, F) (Ret nc ns none (fun I' J' F' => Fr 107 108 I I' ∧ J' = J ∧ F' = F ∧ ∀ i, i < dN D 5 → I' 107 i = hoS (fun i => nI (rN D v (l * D 0 0) i)) (dN D 5) m g q i))
  | 0, I, g, q, z1, z2, hM, hg, hq => by
    refine we_iload (p := 120) dX12_layParts_118 rfl rfl ?_
    refine we_if_le (t := 217) (p := 123) dX12_layParts_120 (by decide) rfl rfl (fun hc120 => ?_) (fun hc120 => absurd (by decide) hc120)
    exact wv_ret dX12_layParts_217 rfl (⟨rfl, _, _, _, rfl, Fr.rf, rfl, rfl, hq⟩)
  | m + 1, I, g, q, z1, z2, hM, hg, hq => by
    have hD := hW.c
    have hH := hW.h
    have hT := hW.t
    have bt := hT.2
    obtain ⟨b0, b1, b2, b3, b4, b5, b6⟩ := hD.2
    have hpk := pick_eq (f := (fun i => nI (rN D v (l * D 0 0) i))) (g := g) (n := dN D 5) (fun i hi => nI_pos' (Nat.lt_of_lt_of_le (Nat.mod_lt _ h0) (by have := all_n hW hy (dN D 5) (Nat.le_refl _); unfold allN; omega))) (by omega) (by omega) (giv_ex _ (by omega))
    refine we_iload (p := 120) dX12_layParts_118 rfl rfl ?_
    refine we_if_le (t := 217) (p := 123) dX12_layParts_120 (by decide) rfl rfl (fun hc120 => absurd hc120 (nI_nle (by omega) (by omega))) (fun hc120 => ?_)
    refine we_iconst (v := -1) (p := 124) dX12_layParts_123 (by decide) rfl ?_
    refine we_istore (ls1 := [.ref 95, .int (nI v), .int l, .int (nI (allN D (l * D 0 0))), .int (nI (m + 1)), .int g, .int (-1), z2]) (p := 126) dX12_layParts_124 rfl rfl ?_
    refine we_iconst (v := 0) (p := 127) dX12_layParts_126 (by decide) rfl ?_
    refine we_istore (ls1 := [.ref 95, .int (nI v), .int l, .int (nI (allN D (l * D 0 0))), .int (nI (m + 1)), .int g, .int (-1), .int 0]) (p := 129) dX12_layParts_127 rfl rfl ?_
    refine y_lay_s hF hM hW hv hy h0 (dN D 5) 0 (-1) (by omega) (Or.inl rfl) ?_
    rw [show gN (pkF (fun i => nI (rN D v (l * D 0 0) i)) g) 0 (dN D 5) (-1) = nI (pickS (rho (fun i => nI (rN D v (l * D 0 0) i)) g) (dN D 5)) from hpk.1]
    refine we_iload (p := 193) dX12_layParts_191 rfl rfl ?_
    refine we_iconst (v := 1) (p := 194) dX12_layParts_193 (by decide) rfl ?_
    refine we_iload (p := 196) dX12_layParts_194 rfl rfl ?_
    refine we_ishl (p := 197) dX12_layParts_196 rfl ?_
    refine we_ior (p := 198) dX12_layParts_197 rfl ?_
    refine we_istore (ls1 := [.ref 95, .int (nI v), .int l, .int (nI (allN D (l * D 0 0))), .int (nI (m + 1)), .int (g ||| (1 <<< ((nI (pickS (rho (fun i => nI (rN D v (l * D 0 0) i)) g) (dN D 5))) &&& 31))), .int (nI (pickS (rho (fun i => nI (rN D v (l * D 0 0) i)) g) (dN D 5))), .int (nI (dN D 5))]) (p := 200) dX12_layParts_198 rfl rfl ?_
    refine we_aload_n (p := 201) dX12_layParts_200 rfl rfl ?_
    refine we_getR (c := 11) (j := 30) (n := 37) (b := 107) (p := 204) dX12_layParts_201 rfl rfl (by decide) (by decide) rfl (r_95_30 hF) rfl ?_
    refine we_iload (p := 206) dX12_layParts_204 rfl rfl ?_
    refine we_dup2 (p := 207) dX12_layParts_206 rfl ?_
    refine wf_iald (n := 5) (i := (pickS (rho (fun i => nI (rN D v (l * D 0 0) i)) g) (dN D 5))) (v := q (pickS (rho (fun i => nI (rN D v (l * D 0 0) i)) g) (dN D 5))) (p := 208) dX12_layParts_207 rfl (by decide) (in_nJ (Nat.lt_of_lt_of_le (pick_lt (show 0 < dN D 5 by omega)) b5) (by decide)) (nI_cl (Nat.lt_of_lt_of_le (pick_lt (show 0 < dN D 5 by omega)) (by omega))) (hq (pickS (rho (fun i => nI (rN D v (l * D 0 0) i)) g) (dN D 5)) (pick_lt (by omega))) rfl ?_
    refine we_iconst (v := 1) (p := 209) dX12_layParts_208 (by decide) rfl ?_
    refine we_iadd (p := 210) dX12_layParts_209 rfl ?_
    refine wf_iast (n := 5) (i := (pickS (rho (fun i => nI (rN D v (l * D 0 0) i)) g) (dN D 5))) (p := 211) dX12_layParts_210 rfl (by decide) (in_nJ (Nat.lt_of_lt_of_le (pick_lt (show 0 < dN D 5 by omega)) b5) (by decide)) (nI_cl (Nat.lt_of_lt_of_le (pick_lt (show 0 < dN D 5 by omega)) (by omega))) rfl ?_
    refine we_iinc (ls1 := [.ref 95, .int (nI v), .int l, .int (nI (allN D (l * D 0 0))), .int ((nI (m + 1)) + (-1)), .int (g ||| (1 <<< ((nI (pickS (rho (fun i => nI (rN D v (l * D 0 0) i)) g) (dN D 5))) &&& 31))), .int (nI (pickS (rho (fun i => nI (rN D v (l * D 0 0) i)) g) (dN D 5))), .int (nI (dN D 5))]) (p := 214) dX12_layParts_211 rfl rfl rfl ?_
    refine we_goto (p := 118) dX12_layParts_214 (by decide) rfl ?_
    rw [pk_m1]
    refine (y_lay_h hF hW hv hy h0 m _ (g ||| bit (pickS (rho (fun i => nI (rN D v (l * D 0 0) i)) g) (dN D 5))) (fun i => if i = pickS (rho (fun i => nI (rN D v (l * D 0 0) i)) g) (dN D 5) then q i + 1 else q i) _ _ (oM_u hM (by decide)) (by have := giv_or (x := pickS (rho (fun i => nI (rN D v (l * D 0 0) i)) g) (dN D 5)) (Nat.lt_of_lt_of_le (pick_lt (show 0 < dN D 5 by omega)) (by omega)) hpk.2 (dN D 5) (by omega); rw [if_pos (pick_lt (by omega))] at this; omega) ?_).mono ?_
    · intro i hi
      rw [hu_if]
      by_cases c : i = pickS (rho (fun i => nI (rN D v (l * D 0 0) i)) g) (dN D 5)
      · rw [if_pos c, if_pos c, c]
      · rw [if_neg c, if_neg c]
        exact hq i hi
    · rintro r h ⟨h1, I2, J2, F2, h2, h3, h4, h5, h6⟩
      exact ⟨h1, I2, J2, F2, h2, (Fr.rf.u (by decide) (by decide)).tr h3, h4, h5, h6⟩
theorem giv_0 : ∀ n, givN 0 n = 0
  | 0 => rfl
  | n + 1 => by
    have := giv_0 n
    unfold givN at this ⊢
    rw [sumN, this, tb_z]
    rfl
set_option maxRecDepth 10000 in
theorem y_layParts {J : Nat → Nat → Int64} {F : Nat → Nat → Option Nat} {nc ns : Nat} {I0 : Nat → Nat → Int32} {D : oD} (hF : RFok F) (hM0 : oM I0 98 D) (hW : WF D) {v : Nat} {l : Int32} (hv : v ≤ 999) (hy : inR (l * D 0 0) 0 270) : Ew 1 mX12_layParts 0 [.ref 95, .int (nI v), .int l, .null, .null, .null, .null, .null] [] ((SH, nc, ns), I0, J, F) (Ret nc ns none (fun I' J' F' => Fr 107 108 I0 I' ∧ J' = J ∧ F' = F ∧ ∀ i, i < dN D 5 → I' 107 i = partS D v (l * D 0 0) i)) := by
  have hD := hW.c
  have hH := hW.h
  have hT := hW.t
  have bt := hT.2
  obtain ⟨b0, b1, b2, b3, b4, b5, b6⟩ := hD.2
  have hall := all_n hW hy
  by_cases h0 : allN D (l * D 0 0) = 0
  · skip
    refine we_iconst (v := 0) (p := 1) dX12_layParts_0 (by decide) rfl ?_
    refine we_istore_n (ls1 := [.ref 95, .int (nI v), .int l, .int 0, .null, .null, .null, .null]) (p := 2) dX12_layParts_1 rfl rfl ?_
    refine we_iconst (v := 0) (p := 3) dX12_layParts_2 (by decide) rfl ?_
    refine we_istore (ls1 := [.ref 95, .int (nI v), .int l, .int 0, .int 0, .null, .null, .null]) (p := 5) dX12_layParts_3 rfl rfl ?_
    refine y_lay_1 hF hM0 hW hv hy 5 0 I0 (by omega) ⟨Fr.rf, fun i hi => absurd hi (by omega)⟩ (fun I1 hI1 => ?_)
    refine we_iconst (v := 0) (p := 26) dX12_layParts_25 (by decide) rfl ?_
    refine we_istore (ls1 := [.ref 95, .int (nI v), .int l, .int 0, .int 0, .null, .null, .null]) (p := 28) dX12_layParts_26 rfl rfl ?_
    refine y_lay_2 hF hM0 hW hv hy (dN D 5) 0 I1 (by omega) hI1 (fun I2 hI2 => ?_)
    refine we_iload_n (p := 57) dX12_layParts_56 rfl rfl ?_
    refine we_if_ne (t := 61) (p := 60) dX12_layParts_57 (by decide) rfl rfl (fun hc57 => absurd (by rw [show sumN (svN D (l * D 0 0)) (dN D 5) = 0 from h0]; rfl) hc57) (fun hc57 => ?_)
    exact wv_ret dX12_layParts_60 rfl (⟨rfl, _, _, _, rfl, hI2.1, rfl, rfl, fun i hi => (hI2.2 i (by omega)).trans (if_pos h0).symm⟩)
  · skip
    replace h0 : 0 < allN D (l * D 0 0) := by omega
    refine we_iconst (v := 0) (p := 1) dX12_layParts_0 (by decide) rfl ?_
    refine we_istore_n (ls1 := [.ref 95, .int (nI v), .int l, .int 0, .null, .null, .null, .null]) (p := 2) dX12_layParts_1 rfl rfl ?_
    refine we_iconst (v := 0) (p := 3) dX12_layParts_2 (by decide) rfl ?_
    refine we_istore (ls1 := [.ref 95, .int (nI v), .int l, .int 0, .int 0, .null, .null, .null]) (p := 5) dX12_layParts_3 rfl rfl ?_
    refine y_lay_1 hF hM0 hW hv hy 5 0 I0 (by omega) ⟨Fr.rf, fun i hi => absurd hi (by omega)⟩ (fun I1 hI1 => ?_)
    refine we_iconst (v := 0) (p := 26) dX12_layParts_25 (by decide) rfl ?_
    refine we_istore (ls1 := [.ref 95, .int (nI v), .int l, .int 0, .int 0, .null, .null, .null]) (p := 28) dX12_layParts_26 rfl rfl ?_
    refine y_lay_2 hF hM0 hW hv hy (dN D 5) 0 I1 (by omega) hI1 (fun I2 hI2 => ?_)
    refine we_iload_n (p := 57) dX12_layParts_56 rfl rfl ?_
    refine we_if_ne (t := 61) (p := 60) dX12_layParts_57 (by decide) rfl rfl (fun hc57 => ?_) (fun hc57 => absurd hc57 (nI_ne0 h0 (by have := hall _ (Nat.le_refl _); omega)))
    refine we_iload_n (p := 62) dX12_layParts_61 rfl rfl ?_
    refine we_istore (ls1 := [.ref 95, .int (nI v), .int l, .int (nI (sumN (svN D (l * D 0 0)) (dN D 5))), .int (nI v), .null, .null, .null]) (p := 64) dX12_layParts_62 rfl rfl ?_
    refine we_iconst (v := 0) (p := 65) dX12_layParts_64 (by decide) rfl ?_
    refine we_istore (ls1 := [.ref 95, .int (nI v), .int l, .int (nI (sumN (svN D (l * D 0 0)) (dN D 5))), .int (nI v), .int 0, .null, .null]) (p := 67) dX12_layParts_65 rfl rfl ?_
    refine y_lay_3 hF hM0 hW hv hy h0 (dN D 5) 0 I2 (by omega) ⟨hI2.1, fun i hi => absurd hi (by omega)⟩ (fun I3 hI3 => ?_)
    refine we_iconst (v := 0) (p := 116) dX12_layParts_115 (by decide) rfl ?_
    refine we_istore (ls1 := [.ref 95, .int (nI v), .int l, .int (nI (allN D (l * D 0 0))), .int (nI (v - sumN (qN D v (l * D 0 0)) (dN D 5))), .int 0, .null, .null]) (p := 118) dX12_layParts_116 rfl rfl ?_
    refine (y_lay_h hF hW hv hy h0 (leftN D v (l * D 0 0)) I3 0 (fun i => nI (qN D v (l * D 0 0) i)) _ _ (oM_fr hM0 (hI3.1 98 (by omega))) (by have := left_lt (v := v) h0; rw [show givN 0 (dN D 5) = 0 from giv_0 _]; omega) hI3.2).mono ?_
    rintro r h ⟨h1, I4, J2, F2, h2, h3, h4, h5, h6⟩
    exact ⟨h1, I4, J2, F2, h2, hI3.1.tr h3, h4, h5, fun i hi => (h6 i hi).trans (if_neg (Nat.ne_of_gt h0)).symm⟩
