/-! The reference's next token; its words. -/
theorem nB_m : ∀ b, b < 256 → ¬ nI b = -1 := by decide +kernel
theorem nI_le3 {a : Nat} (h : a ≤ 3) : nI a ≤ 3 := Int32.not_lt.mp (nI_nlt (a := 3) (b := a) h (by omega))
theorem nI_nle3 {a : Nat} (h : 3 < a) (ha : a < 2 ^ 31) : ¬ nI a ≤ 3 := Int32.not_le.mpr (nI_lt (a := 3) (b := a) h ha)
set_option maxRecDepth 10000 in
theorem y_next {J : Nat → Nat → Int64} {F : Nat → Nat → Option Nat} {nc ns : Nat} {T : Nat → Nat} {n : Nat} (hF : RFok F) {I : Nat → Nat → Int32} (ht : txM T n I) {p : Nat} (hp : p ≤ n) (he : I 95 5 = nI p) : Ew 1 mX12_next 0 [.ref 95, .null, .null, .null] [] ((SH, nc, ns), I, J, F) (Ret nc ns none (fun I' J' F' => J' = J ∧ F' = F ∧ Fm 97 98 4 9 I I' ∧ rkM T n p I')) := by
  have hn9 := ht.1
  have hs : tS T n p ≤ n := rn_le hp
  have hr1 : rn isLt T n (tS T n p) ≤ n := rn_le hs
  have hr2 : rn isDg T n (tS T n p) ≤ n := rn_le hs
  by_cases h : tS T n p < n
  · by_cases hl : isLt (T (tS T n p)) = true
    · by_cases c : rn isLt T n (tS T n p) - tS T n p ≤ 8
      · skip
        refine we_aload_n (p := 1) dX12_next_0 rfl rfl ?_
        refine wf_getI (c := 11) (j := 5) (n := 37) (v := nI p) (p := 4) dX12_next_1 rfl rfl (by decide) (by decide) (Or.inl rfl) he rfl ?_
        refine we_istore_n (ls1 := [.ref 95, .int (nI p), .null, .null]) (p := 5) dX12_next_4 rfl rfl ?_
        refine y_nx_S hF ht (n - p) p (by omega) ?_
        show Ew 1 mX12_next 21 [.ref 95, .int (nI (tS T n p)), .null, .null] [] _ _
        refine we_aload_n (p := 22) dX12_next_21 rfl rfl ?_
        refine we_iload_n (p := 23) dX12_next_22 rfl rfl ?_
        refine we_putI (c := 11) (j := 4) (n := 37)  (p := 26) dX12_next_23 rfl rfl (by decide) (by decide) rfl rfl rfl ?_
        refine we_aload_n (p := 27) dX12_next_26 rfl rfl ?_
        refine we_iload_n (p := 28) dX12_next_27 rfl rfl ?_
        refine we_callV_int (p := 31) (k' := 0) (a := [.ref 95, .int (nI (tS T n p))]) (rr := []) dX12_next_28 rfl rfl rfl rfl (rc_of rfl rfl (by decide) ⟨rfl, by decide⟩) (Nat.le_of_ble_eq_true rfl) (Nat.le_of_ble_eq_true rfl) (by decide) (y_look1 hF (ht.f (Fm.rf.f (by omega) (by omega))) h) (Or.inl rfl) rfl ?_
        refine we_istore_n (ls1 := [.ref 95, .int (nI (tS T n p)), .int (nI (T (tS T n p))), .null]) (p := 32) dX12_next_31 rfl rfl ?_
        refine we_aload_n (p := 33) dX12_next_32 rfl rfl ?_
        refine we_iconst (v := 0) (p := 34) dX12_next_33 (by decide) rfl ?_
        refine we_putI (c := 11) (j := 8) (n := 37)  (p := 37) dX12_next_34 rfl rfl (by decide) (by decide) rfl rfl rfl ?_
        refine we_aload_n (p := 38) dX12_next_37 rfl rfl ?_
        refine we_iconst (v := 0) (p := 39) dX12_next_38 (by decide) rfl ?_
        refine we_putI (c := 11) (j := 7) (n := 37)  (p := 42) dX12_next_39 rfl rfl (by decide) (by decide) rfl rfl rfl ?_
        refine we_iload_n (p := 43) dX12_next_42 rfl rfl ?_
        refine we_iconst (v := -1) (p := 44) dX12_next_43 (by decide) rfl ?_
        refine we_icmp_ne (t := 60) (p := 47) dX12_next_44 (by decide) rfl rfl (fun hc44 => ?_) (fun hc44 => absurd hc44 (nB_m _ (ht.2.2 _ h).1))
        refine we_iload_n (p := 61) dX12_next_60 rfl rfl ?_
        refine we_callS_int (p := 64) (k' := 0) (a := [.int (nI (T (tS T n p)))]) (rr := []) dX12_next_61 rfl rfl rfl rfl rfl (rc_st rfl) (Nat.le_of_ble_eq_true rfl) (Nat.le_of_ble_eq_true rfl) (by decide) (Ev.i ((nB_L _ (ht.2.2 _ h).1).trans (if_pos hl)) y_isSmall) (Or.inl rfl) rfl ?_
        refine we_if_eq (t := 143) (p := 67) dX12_next_64 (by decide) rfl rfl (fun hc64 => absurd hc64 (by decide)) (fun hc64 => ?_)
        refine y_nx_W (I0 := I) (a := tS T n p) (x4 := nI (tS T n p)) hF ht (n - tS T n p) (tS T n p) 0 _ (by omega) rfl ⟨(((Fm.rf.f (by omega) (by omega)).f (by omega) (by omega)).f (by omega) (by omega)), by simp [hp_u], by simp [hp_u]; rfl, fun i hi => absurd hi (by omega)⟩ (fun I1 h1 => ?_)
        refine we_aload_n (p := 118) dX12_next_117 rfl rfl ?_
        refine we_iload_n (p := 119) dX12_next_118 rfl rfl ?_
        refine we_putI (c := 11) (j := 5) (n := 37)  (p := 122) dX12_next_119 rfl rfl (by decide) (by decide) rfl rfl rfl ?_
        refine we_aload_n (p := 123) dX12_next_122 rfl rfl ?_
        refine we_aload_n (p := 124) dX12_next_123 rfl rfl ?_
        refine wf_getI (c := 11) (j := 8) (n := 37) (v := nI (rn isLt T n (tS T n p) - tS T n p)) (p := 127) dX12_next_124 rfl rfl (by decide) (by decide) (Or.inl rfl) ((hu_nj (by decide)).trans h1.2.2.1) rfl ?_
        refine we_bipush (v := 8) (p := 129) dX12_next_127 (by decide) rfl ?_
        refine we_icmp_le (t := 136) (p := 132) dX12_next_129 (by decide) rfl rfl (fun hc129 => ?_) (fun hc129 => absurd (nI_le8 c) hc129)
        refine we_iconst (v := 2) (p := 137) dX12_next_136 (by decide) rfl ?_
        refine we_putI (c := 11) (j := 6) (n := 37)  (p := 140) dX12_next_137 rfl rfl (by decide) (by decide) rfl rfl rfl ?_
        refine we_goto (p := 241) dX12_next_140 (by decide) rfl ?_
        exact wv_ret dX12_next_241 rfl (⟨rfl, _, _, _, rfl, rfl, rfl, (h1.1.f (by omega) (by omega)).f (by omega) (by omega), rkM_w h hl c ((hu_nj (by decide)).trans ((hu_nj (by decide)).trans h1.2.1)) ((hu_nj (by decide)).trans hu_eq) hu_eq ((hu_nj (by decide)).trans ((hu_nj (by decide)).trans h1.2.2.1)) (fun i a b => (congrFun ((hu_ne (by decide)).trans (hu_ne (by decide))) i).trans (h1.2.2.2 i a b))⟩)
      · skip
        refine we_aload_n (p := 1) dX12_next_0 rfl rfl ?_
        refine wf_getI (c := 11) (j := 5) (n := 37) (v := nI p) (p := 4) dX12_next_1 rfl rfl (by decide) (by decide) (Or.inl rfl) he rfl ?_
        refine we_istore_n (ls1 := [.ref 95, .int (nI p), .null, .null]) (p := 5) dX12_next_4 rfl rfl ?_
        refine y_nx_S hF ht (n - p) p (by omega) ?_
        show Ew 1 mX12_next 21 [.ref 95, .int (nI (tS T n p)), .null, .null] [] _ _
        refine we_aload_n (p := 22) dX12_next_21 rfl rfl ?_
        refine we_iload_n (p := 23) dX12_next_22 rfl rfl ?_
        refine we_putI (c := 11) (j := 4) (n := 37)  (p := 26) dX12_next_23 rfl rfl (by decide) (by decide) rfl rfl rfl ?_
        refine we_aload_n (p := 27) dX12_next_26 rfl rfl ?_
        refine we_iload_n (p := 28) dX12_next_27 rfl rfl ?_
        refine we_callV_int (p := 31) (k' := 0) (a := [.ref 95, .int (nI (tS T n p))]) (rr := []) dX12_next_28 rfl rfl rfl rfl (rc_of rfl rfl (by decide) ⟨rfl, by decide⟩) (Nat.le_of_ble_eq_true rfl) (Nat.le_of_ble_eq_true rfl) (by decide) (y_look1 hF (ht.f (Fm.rf.f (by omega) (by omega))) h) (Or.inl rfl) rfl ?_
        refine we_istore_n (ls1 := [.ref 95, .int (nI (tS T n p)), .int (nI (T (tS T n p))), .null]) (p := 32) dX12_next_31 rfl rfl ?_
        refine we_aload_n (p := 33) dX12_next_32 rfl rfl ?_
        refine we_iconst (v := 0) (p := 34) dX12_next_33 (by decide) rfl ?_
        refine we_putI (c := 11) (j := 8) (n := 37)  (p := 37) dX12_next_34 rfl rfl (by decide) (by decide) rfl rfl rfl ?_
        refine we_aload_n (p := 38) dX12_next_37 rfl rfl ?_
        refine we_iconst (v := 0) (p := 39) dX12_next_38 (by decide) rfl ?_
        refine we_putI (c := 11) (j := 7) (n := 37)  (p := 42) dX12_next_39 rfl rfl (by decide) (by decide) rfl rfl rfl ?_
        refine we_iload_n (p := 43) dX12_next_42 rfl rfl ?_
        refine we_iconst (v := -1) (p := 44) dX12_next_43 (by decide) rfl ?_
        refine we_icmp_ne (t := 60) (p := 47) dX12_next_44 (by decide) rfl rfl (fun hc44 => ?_) (fun hc44 => absurd hc44 (nB_m _ (ht.2.2 _ h).1))
        refine we_iload_n (p := 61) dX12_next_60 rfl rfl ?_
        refine we_callS_int (p := 64) (k' := 0) (a := [.int (nI (T (tS T n p)))]) (rr := []) dX12_next_61 rfl rfl rfl rfl rfl (rc_st rfl) (Nat.le_of_ble_eq_true rfl) (Nat.le_of_ble_eq_true rfl) (by decide) (Ev.i ((nB_L _ (ht.2.2 _ h).1).trans (if_pos hl)) y_isSmall) (Or.inl rfl) rfl ?_
        refine we_if_eq (t := 143) (p := 67) dX12_next_64 (by decide) rfl rfl (fun hc64 => absurd hc64 (by decide)) (fun hc64 => ?_)
        refine y_nx_W (I0 := I) (a := tS T n p) (x4 := nI (tS T n p)) hF ht (n - tS T n p) (tS T n p) 0 _ (by omega) rfl ⟨(((Fm.rf.f (by omega) (by omega)).f (by omega) (by omega)).f (by omega) (by omega)), by simp [hp_u], by simp [hp_u]; rfl, fun i hi => absurd hi (by omega)⟩ (fun I1 h1 => ?_)
        refine we_aload_n (p := 118) dX12_next_117 rfl rfl ?_
        refine we_iload_n (p := 119) dX12_next_118 rfl rfl ?_
        refine we_putI (c := 11) (j := 5) (n := 37)  (p := 122) dX12_next_119 rfl rfl (by decide) (by decide) rfl rfl rfl ?_
        refine we_aload_n (p := 123) dX12_next_122 rfl rfl ?_
        refine we_aload_n (p := 124) dX12_next_123 rfl rfl ?_
        refine wf_getI (c := 11) (j := 8) (n := 37) (v := nI (rn isLt T n (tS T n p) - tS T n p)) (p := 127) dX12_next_124 rfl rfl (by decide) (by decide) (Or.inl rfl) ((hu_nj (by decide)).trans h1.2.2.1) rfl ?_
        refine we_bipush (v := 8) (p := 129) dX12_next_127 (by decide) rfl ?_
        refine we_icmp_le (t := 136) (p := 132) dX12_next_129 (by decide) rfl rfl (fun hc129 => absurd hc129 (nI_nle8 (by omega) (by omega))) (fun hc129 => ?_)
        refine we_iconst (v := 1) (p := 133) dX12_next_132 (by decide) rfl ?_
        refine we_goto (p := 137) dX12_next_133 (by decide) rfl ?_
        refine we_putI (c := 11) (j := 6) (n := 37)  (p := 140) dX12_next_137 rfl rfl (by decide) (by decide) rfl rfl rfl ?_
        refine we_goto (p := 241) dX12_next_140 (by decide) rfl ?_
        exact wv_ret dX12_next_241 rfl (⟨rfl, _, _, _, rfl, rfl, rfl, (h1.1.f (by omega) (by omega)).f (by omega) (by omega), rkM_wb h hl c ((hu_nj (by decide)).trans ((hu_nj (by decide)).trans h1.2.1)) ((hu_nj (by decide)).trans hu_eq) hu_eq⟩)
    · by_cases hd : isDg (T (tS T n p)) = true
      · by_cases c : rn isDg T n (tS T n p) - tS T n p ≤ 3
        · skip
          refine we_aload_n (p := 1) dX12_next_0 rfl rfl ?_
          refine wf_getI (c := 11) (j := 5) (n := 37) (v := nI p) (p := 4) dX12_next_1 rfl rfl (by decide) (by decide) (Or.inl rfl) he rfl ?_
          refine we_istore_n (ls1 := [.ref 95, .int (nI p), .null, .null]) (p := 5) dX12_next_4 rfl rfl ?_
          refine y_nx_S hF ht (n - p) p (by omega) ?_
          show Ew 1 mX12_next 21 [.ref 95, .int (nI (tS T n p)), .null, .null] [] _ _
          refine we_aload_n (p := 22) dX12_next_21 rfl rfl ?_
          refine we_iload_n (p := 23) dX12_next_22 rfl rfl ?_
          refine we_putI (c := 11) (j := 4) (n := 37)  (p := 26) dX12_next_23 rfl rfl (by decide) (by decide) rfl rfl rfl ?_
          refine we_aload_n (p := 27) dX12_next_26 rfl rfl ?_
          refine we_iload_n (p := 28) dX12_next_27 rfl rfl ?_
          refine we_callV_int (p := 31) (k' := 0) (a := [.ref 95, .int (nI (tS T n p))]) (rr := []) dX12_next_28 rfl rfl rfl rfl (rc_of rfl rfl (by decide) ⟨rfl, by decide⟩) (Nat.le_of_ble_eq_true rfl) (Nat.le_of_ble_eq_true rfl) (by decide) (y_look1 hF (ht.f (Fm.rf.f (by omega) (by omega))) h) (Or.inl rfl) rfl ?_
          refine we_istore_n (ls1 := [.ref 95, .int (nI (tS T n p)), .int (nI (T (tS T n p))), .null]) (p := 32) dX12_next_31 rfl rfl ?_
          refine we_aload_n (p := 33) dX12_next_32 rfl rfl ?_
          refine we_iconst (v := 0) (p := 34) dX12_next_33 (by decide) rfl ?_
          refine we_putI (c := 11) (j := 8) (n := 37)  (p := 37) dX12_next_34 rfl rfl (by decide) (by decide) rfl rfl rfl ?_
          refine we_aload_n (p := 38) dX12_next_37 rfl rfl ?_
          refine we_iconst (v := 0) (p := 39) dX12_next_38 (by decide) rfl ?_
          refine we_putI (c := 11) (j := 7) (n := 37)  (p := 42) dX12_next_39 rfl rfl (by decide) (by decide) rfl rfl rfl ?_
          refine we_iload_n (p := 43) dX12_next_42 rfl rfl ?_
          refine we_iconst (v := -1) (p := 44) dX12_next_43 (by decide) rfl ?_
          refine we_icmp_ne (t := 60) (p := 47) dX12_next_44 (by decide) rfl rfl (fun hc44 => ?_) (fun hc44 => absurd hc44 (nB_m _ (ht.2.2 _ h).1))
          refine we_iload_n (p := 61) dX12_next_60 rfl rfl ?_
          refine we_callS_int (p := 64) (k' := 0) (a := [.int (nI (T (tS T n p)))]) (rr := []) dX12_next_61 rfl rfl rfl rfl rfl (rc_st rfl) (Nat.le_of_ble_eq_true rfl) (Nat.le_of_ble_eq_true rfl) (by decide) (Ev.i ((nB_L _ (ht.2.2 _ h).1).trans (if_neg hl)) y_isSmall) (Or.inl rfl) rfl ?_
          refine we_if_eq (t := 143) (p := 67) dX12_next_64 (by decide) rfl rfl (fun hc64 => ?_) (fun hc64 => absurd (by decide) hc64)
          refine we_iload_n (p := 144) dX12_next_143 rfl rfl ?_
          refine we_callS_int (p := 147) (k' := 0) (a := [.int (nI (T (tS T n p)))]) (rr := []) dX12_next_144 rfl rfl rfl rfl rfl (rc_st rfl) (Nat.le_of_ble_eq_true rfl) (Nat.le_of_ble_eq_true rfl) (by decide) (Ev.i ((nB_D _ (ht.2.2 _ h).1).trans (if_pos hd)) y_isDigit) (Or.inl rfl) rfl ?_
          refine we_if_eq (t := 219) (p := 150) dX12_next_147 (by decide) rfl rfl (fun hc147 => absurd hc147 (by decide)) (fun hc147 => ?_)
          refine we_iconst (v := 0) (p := 151) dX12_next_150 (by decide) rfl ?_
          refine we_istore_n (ls1 := [.ref 95, .int (nI (tS T n p)), .int (nI (T (tS T n p))), .int 0]) (p := 152) dX12_next_151 rfl rfl ?_
          refine y_nx_D (I0 := I) (x4 := nI (tS T n p)) hF ht (n - tS T n p) (tS T n p) 0 0 _ (by omega) (by omega) ⟨(((Fm.rf.f (by omega) (by omega)).f (by omega) (by omega)).f (by omega) (by omega)), by simp [hp_u], by simp [hp_u]; rfl⟩ (fun I1 h1 => ?_)
          rw [Nat.zero_add] at h1 ⊢
          refine we_aload_n (p := 198) dX12_next_197 rfl rfl ?_
          refine we_iload_n (p := 199) dX12_next_198 rfl rfl ?_
          refine we_putI (c := 11) (j := 5) (n := 37)  (p := 202) dX12_next_199 rfl rfl (by decide) (by decide) rfl rfl rfl ?_
          refine we_aload_n (p := 203) dX12_next_202 rfl rfl ?_
          refine we_iload_n (p := 204) dX12_next_203 rfl rfl ?_
          refine we_iconst (v := 3) (p := 205) dX12_next_204 (by decide) rfl ?_
          refine we_icmp_le (t := 212) (p := 208) dX12_next_205 (by decide) rfl rfl (fun hc205 => ?_) (fun hc205 => absurd (nI_le3 c) hc205)
          refine we_iconst (v := 3) (p := 213) dX12_next_212 (by decide) rfl ?_
          refine we_putI (c := 11) (j := 6) (n := 37)  (p := 216) dX12_next_213 rfl rfl (by decide) (by decide) rfl rfl rfl ?_
          refine we_goto (p := 241) dX12_next_216 (by decide) rfl ?_
          exact wv_ret dX12_next_241 rfl (⟨rfl, _, _, _, rfl, rfl, rfl, (h1.1.f (by omega) (by omega)).f (by omega) (by omega), rkM_d h hl hd c ((hu_nj (by decide)).trans ((hu_nj (by decide)).trans h1.2.1)) ((hu_nj (by decide)).trans hu_eq) hu_eq ((hu_nj (by decide)).trans ((hu_nj (by decide)).trans (h1.2.2 c)))⟩)
        · skip
          refine we_aload_n (p := 1) dX12_next_0 rfl rfl ?_
          refine wf_getI (c := 11) (j := 5) (n := 37) (v := nI p) (p := 4) dX12_next_1 rfl rfl (by decide) (by decide) (Or.inl rfl) he rfl ?_
          refine we_istore_n (ls1 := [.ref 95, .int (nI p), .null, .null]) (p := 5) dX12_next_4 rfl rfl ?_
          refine y_nx_S hF ht (n - p) p (by omega) ?_
          show Ew 1 mX12_next 21 [.ref 95, .int (nI (tS T n p)), .null, .null] [] _ _
          refine we_aload_n (p := 22) dX12_next_21 rfl rfl ?_
          refine we_iload_n (p := 23) dX12_next_22 rfl rfl ?_
          refine we_putI (c := 11) (j := 4) (n := 37)  (p := 26) dX12_next_23 rfl rfl (by decide) (by decide) rfl rfl rfl ?_
          refine we_aload_n (p := 27) dX12_next_26 rfl rfl ?_
          refine we_iload_n (p := 28) dX12_next_27 rfl rfl ?_
          refine we_callV_int (p := 31) (k' := 0) (a := [.ref 95, .int (nI (tS T n p))]) (rr := []) dX12_next_28 rfl rfl rfl rfl (rc_of rfl rfl (by decide) ⟨rfl, by decide⟩) (Nat.le_of_ble_eq_true rfl) (Nat.le_of_ble_eq_true rfl) (by decide) (y_look1 hF (ht.f (Fm.rf.f (by omega) (by omega))) h) (Or.inl rfl) rfl ?_
          refine we_istore_n (ls1 := [.ref 95, .int (nI (tS T n p)), .int (nI (T (tS T n p))), .null]) (p := 32) dX12_next_31 rfl rfl ?_
          refine we_aload_n (p := 33) dX12_next_32 rfl rfl ?_
          refine we_iconst (v := 0) (p := 34) dX12_next_33 (by decide) rfl ?_
          refine we_putI (c := 11) (j := 8) (n := 37)  (p := 37) dX12_next_34 rfl rfl (by decide) (by decide) rfl rfl rfl ?_
          refine we_aload_n (p := 38) dX12_next_37 rfl rfl ?_
          refine we_iconst (v := 0) (p := 39) dX12_next_38 (by decide) rfl ?_
          refine we_putI (c := 11) (j := 7) (n := 37)  (p := 42) dX12_next_39 rfl rfl (by decide) (by decide) rfl rfl rfl ?_
          refine we_iload_n (p := 43) dX12_next_42 rfl rfl ?_
          refine we_iconst (v := -1) (p := 44) dX12_next_43 (by decide) rfl ?_
          refine we_icmp_ne (t := 60) (p := 47) dX12_next_44 (by decide) rfl rfl (fun hc44 => ?_) (fun hc44 => absurd hc44 (nB_m _ (ht.2.2 _ h).1))
          refine we_iload_n (p := 61) dX12_next_60 rfl rfl ?_
          refine we_callS_int (p := 64) (k' := 0) (a := [.int (nI (T (tS T n p)))]) (rr := []) dX12_next_61 rfl rfl rfl rfl rfl (rc_st rfl) (Nat.le_of_ble_eq_true rfl) (Nat.le_of_ble_eq_true rfl) (by decide) (Ev.i ((nB_L _ (ht.2.2 _ h).1).trans (if_neg hl)) y_isSmall) (Or.inl rfl) rfl ?_
          refine we_if_eq (t := 143) (p := 67) dX12_next_64 (by decide) rfl rfl (fun hc64 => ?_) (fun hc64 => absurd (by decide) hc64)
          refine we_iload_n (p := 144) dX12_next_143 rfl rfl ?_
          refine we_callS_int (p := 147) (k' := 0) (a := [.int (nI (T (tS T n p)))]) (rr := []) dX12_next_144 rfl rfl rfl rfl rfl (rc_st rfl) (Nat.le_of_ble_eq_true rfl) (Nat.le_of_ble_eq_true rfl) (by decide) (Ev.i ((nB_D _ (ht.2.2 _ h).1).trans (if_pos hd)) y_isDigit) (Or.inl rfl) rfl ?_
          refine we_if_eq (t := 219) (p := 150) dX12_next_147 (by decide) rfl rfl (fun hc147 => absurd hc147 (by decide)) (fun hc147 => ?_)
          refine we_iconst (v := 0) (p := 151) dX12_next_150 (by decide) rfl ?_
          refine we_istore_n (ls1 := [.ref 95, .int (nI (tS T n p)), .int (nI (T (tS T n p))), .int 0]) (p := 152) dX12_next_151 rfl rfl ?_
          refine y_nx_D (I0 := I) (x4 := nI (tS T n p)) hF ht (n - tS T n p) (tS T n p) 0 0 _ (by omega) (by omega) ⟨(((Fm.rf.f (by omega) (by omega)).f (by omega) (by omega)).f (by omega) (by omega)), by simp [hp_u], by simp [hp_u]; rfl⟩ (fun I1 h1 => ?_)
          rw [Nat.zero_add] at h1 ⊢
          refine we_aload_n (p := 198) dX12_next_197 rfl rfl ?_
          refine we_iload_n (p := 199) dX12_next_198 rfl rfl ?_
          refine we_putI (c := 11) (j := 5) (n := 37)  (p := 202) dX12_next_199 rfl rfl (by decide) (by decide) rfl rfl rfl ?_
          refine we_aload_n (p := 203) dX12_next_202 rfl rfl ?_
          refine we_iload_n (p := 204) dX12_next_203 rfl rfl ?_
          refine we_iconst (v := 3) (p := 205) dX12_next_204 (by decide) rfl ?_
          refine we_icmp_le (t := 212) (p := 208) dX12_next_205 (by decide) rfl rfl (fun hc205 => absurd hc205 (nI_nle3 (by omega) (by omega))) (fun hc205 => ?_)
          refine we_iconst (v := 1) (p := 209) dX12_next_208 (by decide) rfl ?_
          refine we_goto (p := 213) dX12_next_209 (by decide) rfl ?_
          refine we_putI (c := 11) (j := 6) (n := 37)  (p := 216) dX12_next_213 rfl rfl (by decide) (by decide) rfl rfl rfl ?_
          refine we_goto (p := 241) dX12_next_216 (by decide) rfl ?_
          exact wv_ret dX12_next_241 rfl (⟨rfl, _, _, _, rfl, rfl, rfl, (h1.1.f (by omega) (by omega)).f (by omega) (by omega), rkM_db h hl hd c ((hu_nj (by decide)).trans ((hu_nj (by decide)).trans h1.2.1)) ((hu_nj (by decide)).trans hu_eq) hu_eq⟩)
      · skip
        refine we_aload_n (p := 1) dX12_next_0 rfl rfl ?_
        refine wf_getI (c := 11) (j := 5) (n := 37) (v := nI p) (p := 4) dX12_next_1 rfl rfl (by decide) (by decide) (Or.inl rfl) he rfl ?_
        refine we_istore_n (ls1 := [.ref 95, .int (nI p), .null, .null]) (p := 5) dX12_next_4 rfl rfl ?_
        refine y_nx_S hF ht (n - p) p (by omega) ?_
        show Ew 1 mX12_next 21 [.ref 95, .int (nI (tS T n p)), .null, .null] [] _ _
        refine we_aload_n (p := 22) dX12_next_21 rfl rfl ?_
        refine we_iload_n (p := 23) dX12_next_22 rfl rfl ?_
        refine we_putI (c := 11) (j := 4) (n := 37)  (p := 26) dX12_next_23 rfl rfl (by decide) (by decide) rfl rfl rfl ?_
        refine we_aload_n (p := 27) dX12_next_26 rfl rfl ?_
        refine we_iload_n (p := 28) dX12_next_27 rfl rfl ?_
        refine we_callV_int (p := 31) (k' := 0) (a := [.ref 95, .int (nI (tS T n p))]) (rr := []) dX12_next_28 rfl rfl rfl rfl (rc_of rfl rfl (by decide) ⟨rfl, by decide⟩) (Nat.le_of_ble_eq_true rfl) (Nat.le_of_ble_eq_true rfl) (by decide) (y_look1 hF (ht.f (Fm.rf.f (by omega) (by omega))) h) (Or.inl rfl) rfl ?_
        refine we_istore_n (ls1 := [.ref 95, .int (nI (tS T n p)), .int (nI (T (tS T n p))), .null]) (p := 32) dX12_next_31 rfl rfl ?_
        refine we_aload_n (p := 33) dX12_next_32 rfl rfl ?_
        refine we_iconst (v := 0) (p := 34) dX12_next_33 (by decide) rfl ?_
        refine we_putI (c := 11) (j := 8) (n := 37)  (p := 37) dX12_next_34 rfl rfl (by decide) (by decide) rfl rfl rfl ?_
        refine we_aload_n (p := 38) dX12_next_37 rfl rfl ?_
        refine we_iconst (v := 0) (p := 39) dX12_next_38 (by decide) rfl ?_
        refine we_putI (c := 11) (j := 7) (n := 37)  (p := 42) dX12_next_39 rfl rfl (by decide) (by decide) rfl rfl rfl ?_
        refine we_iload_n (p := 43) dX12_next_42 rfl rfl ?_
        refine we_iconst (v := -1) (p := 44) dX12_next_43 (by decide) rfl ?_
        refine we_icmp_ne (t := 60) (p := 47) dX12_next_44 (by decide) rfl rfl (fun hc44 => ?_) (fun hc44 => absurd hc44 (nB_m _ (ht.2.2 _ h).1))
        refine we_iload_n (p := 61) dX12_next_60 rfl rfl ?_
        refine we_callS_int (p := 64) (k' := 0) (a := [.int (nI (T (tS T n p)))]) (rr := []) dX12_next_61 rfl rfl rfl rfl rfl (rc_st rfl) (Nat.le_of_ble_eq_true rfl) (Nat.le_of_ble_eq_true rfl) (by decide) (Ev.i ((nB_L _ (ht.2.2 _ h).1).trans (if_neg hl)) y_isSmall) (Or.inl rfl) rfl ?_
        refine we_if_eq (t := 143) (p := 67) dX12_next_64 (by decide) rfl rfl (fun hc64 => ?_) (fun hc64 => absurd (by decide) hc64)
        refine we_iload_n (p := 144) dX12_next_143 rfl rfl ?_
        refine we_callS_int (p := 147) (k' := 0) (a := [.int (nI (T (tS T n p)))]) (rr := []) dX12_next_144 rfl rfl rfl rfl rfl (rc_st rfl) (Nat.le_of_ble_eq_true rfl) (Nat.le_of_ble_eq_true rfl) (by decide) (Ev.i ((nB_D _ (ht.2.2 _ h).1).trans (if_neg hd)) y_isDigit) (Or.inl rfl) rfl ?_
        refine we_if_eq (t := 219) (p := 150) dX12_next_147 (by decide) rfl rfl (fun hc147 => ?_) (fun hc147 => absurd (by decide) hc147)
        refine we_aload_n (p := 220) dX12_next_219 rfl rfl ?_
        refine we_iload_n (p := 221) dX12_next_220 rfl rfl ?_
        refine we_iconst (v := 1) (p := 222) dX12_next_221 (by decide) rfl ?_
        refine we_iadd (p := 223) dX12_next_222 rfl ?_
        refine we_putI (c := 11) (j := 5) (n := 37)  (p := 226) dX12_next_223 rfl rfl (by decide) (by decide) rfl rfl rfl ?_
        refine we_aload_n (p := 227) dX12_next_226 rfl rfl ?_
        refine we_iload_n (p := 228) dX12_next_227 rfl rfl ?_
        refine we_bipush (v := 59) (p := 230) dX12_next_228 (by decide) rfl ?_
        refine we_icmp_ne (t := 237) (p := 233) dX12_next_230 (by decide) rfl rfl (fun hc230 => ?_) (fun hc230 => ?_)
        · skip
          refine we_iconst (v := 1) (p := 238) dX12_next_237 (by decide) rfl ?_
          refine we_putI (c := 11) (j := 6) (n := 37)  (p := 241) dX12_next_238 rfl rfl (by decide) (by decide) rfl rfl rfl ?_
          exact wv_ret dX12_next_241 rfl (⟨rfl, _, _, _, rfl, rfl, rfl, (((((Fm.rf.f (by omega) (by omega)).f (by omega) (by omega)).f (by omega) (by omega)).f (by omega) (by omega)).f (by omega) (by omega)), rkM_s h hl hd (by simp [hp_u]) (by simp [hp_u]) (hu_eq.trans (by first | exact (if_neg (fun z => hc230 ((nB_59 _ (ht.2.2 _ h).1).mpr z))).symm | exact hc230.trans (if_pos ((nB_59 _ (ht.2.2 _ h).1).mp hc230)).symm))⟩)
        · skip
          refine we_iload_n (p := 234) dX12_next_233 rfl rfl ?_
          refine we_goto (p := 238) dX12_next_234 (by decide) rfl ?_
          refine we_putI (c := 11) (j := 6) (n := 37)  (p := 241) dX12_next_238 rfl rfl (by decide) (by decide) rfl rfl rfl ?_
          exact wv_ret dX12_next_241 rfl (⟨rfl, _, _, _, rfl, rfl, rfl, (((((Fm.rf.f (by omega) (by omega)).f (by omega) (by omega)).f (by omega) (by omega)).f (by omega) (by omega)).f (by omega) (by omega)), rkM_s h hl hd (by simp [hp_u]) (by simp [hp_u]) (hu_eq.trans (by first | exact (if_neg (fun z => hc230 ((nB_59 _ (ht.2.2 _ h).1).mpr z))).symm | exact hc230.trans (if_pos ((nB_59 _ (ht.2.2 _ h).1).mp hc230)).symm))⟩)
  · skip
    refine we_aload_n (p := 1) dX12_next_0 rfl rfl ?_
    refine wf_getI (c := 11) (j := 5) (n := 37) (v := nI p) (p := 4) dX12_next_1 rfl rfl (by decide) (by decide) (Or.inl rfl) he rfl ?_
    refine we_istore_n (ls1 := [.ref 95, .int (nI p), .null, .null]) (p := 5) dX12_next_4 rfl rfl ?_
    refine y_nx_S hF ht (n - p) p (by omega) ?_
    show Ew 1 mX12_next 21 [.ref 95, .int (nI (tS T n p)), .null, .null] [] _ _
    refine we_aload_n (p := 22) dX12_next_21 rfl rfl ?_
    refine we_iload_n (p := 23) dX12_next_22 rfl rfl ?_
    refine we_putI (c := 11) (j := 4) (n := 37)  (p := 26) dX12_next_23 rfl rfl (by decide) (by decide) rfl rfl rfl ?_
    refine we_aload_n (p := 27) dX12_next_26 rfl rfl ?_
    refine we_iload_n (p := 28) dX12_next_27 rfl rfl ?_
    refine we_callV_int (p := 31) (k' := 0) (a := [.ref 95, .int (nI (tS T n p))]) (rr := []) dX12_next_28 rfl rfl rfl rfl (rc_of rfl rfl (by decide) ⟨rfl, by decide⟩) (Nat.le_of_ble_eq_true rfl) (Nat.le_of_ble_eq_true rfl) (by decide) (y_look0 hF (ht.f (Fm.rf.f (by omega) (by omega))) (by omega)) (Or.inl rfl) rfl ?_
    refine we_istore_n (ls1 := [.ref 95, .int (nI (tS T n p)), .int (-1), .null]) (p := 32) dX12_next_31 rfl rfl ?_
    refine we_aload_n (p := 33) dX12_next_32 rfl rfl ?_
    refine we_iconst (v := 0) (p := 34) dX12_next_33 (by decide) rfl ?_
    refine we_putI (c := 11) (j := 8) (n := 37)  (p := 37) dX12_next_34 rfl rfl (by decide) (by decide) rfl rfl rfl ?_
    refine we_aload_n (p := 38) dX12_next_37 rfl rfl ?_
    refine we_iconst (v := 0) (p := 39) dX12_next_38 (by decide) rfl ?_
    refine we_putI (c := 11) (j := 7) (n := 37)  (p := 42) dX12_next_39 rfl rfl (by decide) (by decide) rfl rfl rfl ?_
    refine we_iload_n (p := 43) dX12_next_42 rfl rfl ?_
    refine we_iconst (v := -1) (p := 44) dX12_next_43 (by decide) rfl ?_
    refine we_icmp_ne (t := 60) (p := 47) dX12_next_44 (by decide) rfl rfl (fun hc44 => absurd (by decide) hc44) (fun hc44 => ?_)
    refine we_aload_n (p := 48) dX12_next_47 rfl rfl ?_
    refine we_iconst (v := 0) (p := 49) dX12_next_48 (by decide) rfl ?_
    refine we_putI (c := 11) (j := 6) (n := 37)  (p := 52) dX12_next_49 rfl rfl (by decide) (by decide) rfl rfl rfl ?_
    refine we_aload_n (p := 53) dX12_next_52 rfl rfl ?_
    refine we_iload_n (p := 54) dX12_next_53 rfl rfl ?_
    refine we_putI (c := 11) (j := 5) (n := 37)  (p := 57) dX12_next_54 rfl rfl (by decide) (by decide) rfl rfl rfl ?_
    refine we_goto (p := 241) dX12_next_57 (by decide) rfl ?_
    exact wv_ret dX12_next_241 rfl (⟨rfl, _, _, _, rfl, rfl, rfl, (((((Fm.rf.f (by omega) (by omega)).f (by omega) (by omega)).f (by omega) (by omega)).f (by omega) (by omega)).f (by omega) (by omega)), rkM_0 h (by simp [hp_u]) (by simp [hp_u]) (by simp [hp_u])⟩)
theorem pwF_sn {T : Nat → Nat} : ∀ m i x, pwF T (m + 1) i x = pwF T m i x * 32 + (T (i + m) - 96)
  | 0, i, x => rfl
  | m + 1, i, x => by
    show pwF T (m + 1) (i + 1) (x * 32 + (T i - 96)) = _
    rw [pwF_sn m (i + 1) _, show i + 1 + m = i + (m + 1) by omega]
    rfl
theorem pw_inj {T U : Nat → Nat} {a b : Nat} : ∀ m m', (∀ i, i < m → isLt (T (a + i)) = true) → (∀ i, i < m' → isLt (U (b + i)) = true) → pwF T m a 0 = pwF U m' b 0 → m = m' ∧ ∀ i, i < m → T (a + i) = U (b + i)
  | 0, 0, _, _, _ => ⟨rfl, fun i hi => absurd hi (by omega)⟩
  | 0, m' + 1, _, h2, e => by
    have := h2 m' (by omega)
    simp [isLt] at this
    rw [pwF_sn] at e
    have e0 : pwF T 0 a 0 = 0 := rfl
    omega
  | m + 1, 0, h1, _, e => by
    have := h1 m (by omega)
    simp [isLt] at this
    rw [pwF_sn] at e
    have e0 : pwF U 0 b 0 = 0 := rfl
    omega
  | m + 1, m' + 1, h1, h2, e => by
    have p1 := h1 m (by omega)
    have p2 := h2 m' (by omega)
    simp [isLt] at p1 p2
    rw [pwF_sn, pwF_sn] at e
    obtain ⟨q1, q2⟩ := pw_inj m m' (fun i hi => h1 i (by omega)) (fun i hi => h2 i (by omega)) (by omega)
    subst q1
    refine ⟨rfl, fun i hi => ?_⟩
    by_cases c : i = m
    · subst c
      omega
    · exact q2 i (by omega)
theorem pw_eq {T U : Nat → Nat} : ∀ m a b x, (∀ i, i < m → T (a + i) = U (b + i)) → pwF T m a x = pwF U m b x
  | 0, _, _, _, _ => rfl
  | m + 1, a, b, x, h => by
    show pwF T m (a + 1) (x * 32 + (T a - 96)) = pwF U m (b + 1) (x * 32 + (U b - 96))
    have h0 := h 0 (by omega)
    rw [Nat.add_zero, Nat.add_zero] at h0
    rw [h0]
    exact pw_eq m (a + 1) (b + 1) _ (fun i hi => by
      have := h (i + 1) (by omega)
      rw [show a + 1 + i = a + (i + 1) by omega, show b + 1 + i = b + (i + 1) by omega]
      exact this)
def kwS (j : Nat) : Nat := [0, 0, 7, 12, 13, 0, 1, 2, 3, 4, 5, 6, 14, 15, 8, 9, 10, 11, 16, 17, 18, 19, 20, 21, 22, 23, 24].getD j 0
theorem st_kw : ∀ j, j < 27 → 2 ≤ j → pwF (chU j) (ev_sb j).length 0 0 = KWf (kwS j) ∧ (ev_sb j).length ≤ 8 ∧ kwS j < 25 := by decide +kernel
theorem st_lt : ∀ j, j < 27 → 2 ≤ j → ∀ i, i < (ev_sb j).length → isLt (chU j (0 + i)) = true := by decide +kernel
theorem kw_k : ∀ k, k < 25 → kwI (KWf k) = nI k := by decide +kernel
theorem gN_kw {x : Nat} (h : ∀ k, k < 25 → ¬ KWf k = x) : ∀ m j a, j + m ≤ 25 → gN (kwF x) j m a = a
  | 0, _, _, _ => rfl
  | m + 1, j, a, hj => by
    rw [gN, kwF, if_neg (h j (by omega))]
    exact gN_kw h m (j + 1) a (by omega)
theorem nI_m25 : ∀ k, k < 25 → ¬ (-1 : Int32) = nI k := by decide
theorem kw_iff {x w : Nat} (hw : w < 25) : kwI x = nI w ↔ x = KWf w := by
  constructor
  · intro h
    by_cases c : ∃ k, k < 25 ∧ KWf k = x
    · obtain ⟨k, hk, rfl⟩ := c
      rw [kw_k k hk] at h
      have := congrArg Int32.toNatClampNeg h
      rw [nI_cl (by omega), nI_cl (by omega)] at this
      rw [this]
    · have e : kwI x = -1 := gN_kw (fun k hk z => c ⟨k, hk, z⟩) 25 0 (-1) (by omega)
      rw [e] at h
      exact absurd h (nI_m25 w hw)
  · rintro rfl
    exact kw_k w hw
theorem tQ_iff {T : Nat → Nat} {n p w : Nat} (hw : w < 25) : tQ T n p = nI w ↔ tK T n p = 1 ∧ tW T n p = KWf w := by
  unfold tQ
  by_cases c : tK T n p = 1
  · rw [if_pos c, kw_iff hw]
    exact ⟨fun h => ⟨c, h⟩, fun h => h.2⟩
  · rw [if_neg c]
    exact ⟨fun h => absurd h (nI_m25 w hw), fun h => absurd h.1 c⟩
def wdB (T : Nat → Nat) (s j i : Nat) (a : Int32) : Int32 := if a = 0 then 0 else if nI (T (s + i)) = nI (chU j i) then 1 else 0
theorem gN_wd {T : Nat → Nat} {s j : Nat} : ∀ m i, gN (wdB T s j) i m 1 = if ∀ k, k < m → nI (T (s + (i + k))) = nI (chU j (i + k)) then 1 else 0
  | 0, i => by
    rw [if_pos (fun k hk => absurd hk (by omega))]
    rfl
  | m + 1, i => by
    have e0 : ∀ m i, gN (wdB T s j) i m 0 = 0 := by
      intro m
      induction m with
      | zero => intro i; rfl
      | succ m ih =>
        intro i
        rw [gN, wdB, if_pos rfl]
        exact ih (i + 1)
    rw [gN, wdB, if_neg (by decide)]
    by_cases c : nI (T (s + i)) = nI (chU j i)
    · rw [if_pos c, gN_wd m (i + 1)]
      by_cases d : ∀ k, k < m → nI (T (s + (i + 1 + k))) = nI (chU j (i + 1 + k))
      · rw [if_pos d, if_pos (fun k hk => by
          cases k with
          | zero => exact c
          | succ k =>
            have := d k (by omega)
            rw [show i + 1 + k = i + (k + 1) by omega] at this
            exact this)]
      · rw [if_neg d, if_neg (fun z => d (fun k hk => by
          have := z (k + 1) (by omega)
          rw [show i + (k + 1) = i + 1 + k by omega] at this
          exact this))]
    · rw [if_neg c, e0, if_neg (fun z => c (z 0 (by omega)))]
theorem tK1 {T : Nat → Nat} {n p : Nat} (h : tK T n p = 1) : tS T n p < n ∧ rn isLt T n (tS T n p) - tS T n p ≤ 8 ∧ (∀ i, i < rn isLt T n (tS T n p) - tS T n p → isLt (T (tS T n p + i)) = true) ∧ tS T n p < rn isLt T n (tS T n p) := by
  unfold tK at h
  by_cases c : tS T n p < n
  · rw [if_pos c] at h
    by_cases d : isLt (T (tS T n p)) = true
    · rw [if_pos d] at h
      by_cases e : rn isLt T n (tS T n p) - tS T n p ≤ 8
      · refine ⟨c, e, fun i hi => (rn_all (n := n) (p := tS T n p) (by omega) (by omega)).2, ?_⟩
        rw [rn_y c d]
        exact rn_ge
      · rw [if_neg e] at h
        omega
    · rw [if_neg d] at h
      exfalso
      revert h
      split
      · split <;> omega
      · split <;> omega
  · rw [if_neg c] at h
    omega
theorem wd_iff {T : Nat → Nat} {n p j : Nat} (hj : j < 27) (h2 : 2 ≤ j) (hk : tK T n p = 1) : tQ T n p = nI (kwS j) ↔ rn isLt T n (tS T n p) - tS T n p = (ev_sb j).length ∧ ∀ i, i < (ev_sb j).length → T (tS T n p + i) = chU j i := by
  obtain ⟨s1, s2, s3⟩ := st_kw j hj h2
  rw [tQ_iff s3, ← s1]
  have hT := (tK1 hk).2.2.1
  constructor
  · rintro ⟨-, e⟩
    obtain ⟨q1, q2⟩ := pw_inj (T := T) (U := chU j) (a := tS T n p) (b := 0) _ _ hT (st_lt j hj h2) e
    refine ⟨q1, fun i hi => ?_⟩
    have := q2 i (by omega)
    rw [Nat.zero_add] at this
    exact this
  · rintro ⟨q1, q2⟩
    refine ⟨hk, ?_⟩
    show pwF T (rn isLt T n (tS T n p) - tS T n p) (tS T n p) 0 = _
    rw [q1]
    exact pw_eq _ _ _ _ (fun i hi => by rw [Nat.zero_add]; exact q2 i hi)
