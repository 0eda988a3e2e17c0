/-! The crew: the class divides. -/
set_option maxRecDepth 10000 in
theorem x_pick {I : Nat → Nat → Int32} {J : Nat → Nat → Int64} {F : Nat → Nat → Option Nat} {nc ns : Nat} {n : Nat} {lf t : Int32} {p : Nat → Int32} {Q : Option Value → hp_H → Prop} (hF : RFok F) (hn5 : n ≤ 5) (hr : ∀ i, i < n → I 84 i = p i) : ∀ (m j x : Nat), j + m = n → x < n → Ew 0 mX0_handOut 51 [.ref 82, .int lf, .int (nI n), .int t, .int (nI (gN (fun i x => if p i ≤ p x then x else i) j m x)), .int (nI n)] [] ((SH, nc, ns), I, J, F) Q → Ew 0 mX0_handOut 18 [.ref 82, .int lf, .int (nI n), .int t, .int (nI x), .int (nI j)] [] ((SH, nc, ns), I, J, F) Q
  | 0, j, x, hj, hx => fun q => by
    obtain rfl : j = n := by omega
    refine we_iload (p := 20) dX0_handOut_18 rfl rfl ?_
    refine we_iload_n (p := 21) dX0_handOut_20 rfl rfl ?_
    refine we_icmp_ge (t := 51) (p := 24) dX0_handOut_21 (by decide) rfl rfl (fun hc21 => ?_) (fun hc21 => absurd (nI_le (a := j) (b := j) (by omega) (by omega)) hc21)
    exact q
  | m + 1, j, x, hj, hx => fun q => by
    refine we_iload (p := 20) dX0_handOut_18 rfl rfl ?_
    refine we_iload_n (p := 21) dX0_handOut_20 rfl rfl ?_
    refine we_icmp_ge (t := 51) (p := 24) dX0_handOut_21 (by decide) rfl rfl (fun hc21 => absurd hc21 (nI_ge (a := j) (b := n) (by omega) (by omega))) (fun hc21 => ?_)
    refine we_aload_n (p := 25) dX0_handOut_24 rfl rfl ?_
    refine we_getR (c := 0) (j := 1) (n := 2) (b := 84) (p := 28) dX0_handOut_25 rfl rfl (by decide) (by decide) rfl (r_82_1 hF) rfl ?_
    refine we_iload (p := 30) dX0_handOut_28 rfl rfl ?_
    refine wf_iald (n := 5) (i := j) (v := p j) (p := 31) dX0_handOut_30 rfl (by decide) (in_nJ (by omega) (by decide)) (nI_cl (by omega)) (hr j (by omega)) rfl ?_
    refine we_aload_n (p := 32) dX0_handOut_31 rfl rfl ?_
    refine we_getR (c := 0) (j := 1) (n := 2) (b := 84) (p := 35) dX0_handOut_32 rfl rfl (by decide) (by decide) rfl (r_82_1 hF) rfl ?_
    refine we_iload (p := 37) dX0_handOut_35 rfl rfl ?_
    refine wf_iald (n := 5) (i := x) (v := p x) (p := 38) dX0_handOut_37 rfl (by decide) (in_nJ (by omega) (by decide)) (nI_cl (by omega)) (hr x (by omega)) rfl ?_
    refine we_icmp_le (t := 45) (p := 41) dX0_handOut_38 (by decide) rfl rfl (fun hc38 => ?_) (fun hc38 => ?_)
    · skip
      refine we_iinc (ls1 := [.ref 82, .int lf, .int (nI n), .int t, .int (nI x), .int ((nI j) + 1)]) (p := 48) dX0_handOut_45 rfl rfl rfl ?_
      refine we_goto (p := 18) dX0_handOut_48 (by decide) rfl ?_
      rw [nI_1]
      refine x_pick hF hn5 hr m (j + 1) x (by omega) (by omega) ?_
      simpa only [gN_s, hc38, ↓reduceIte] using q
    · skip
      refine we_iload (p := 43) dX0_handOut_41 rfl rfl ?_
      refine we_istore (ls1 := [.ref 82, .int lf, .int (nI n), .int t, .int (nI j), .int (nI j)]) (p := 45) dX0_handOut_43 rfl rfl ?_
      refine we_iinc (ls1 := [.ref 82, .int lf, .int (nI n), .int t, .int (nI j), .int ((nI j) + 1)]) (p := 48) dX0_handOut_45 rfl rfl rfl ?_
      refine we_goto (p := 18) dX0_handOut_48 (by decide) rfl ?_
      rw [nI_1]
      refine x_pick hF hn5 hr m (j + 1) j (by omega) (by omega) ?_
      simpa only [gN_s, hc38, ↓reduceIte] using q
set_option maxRecDepth 10000 in
theorem x_handOut_L {J : Nat → Nat → Int64} {F : Nat → Nat → Option Nat} {nc ns : Nat} {n L : Nat} {f : Nat → Int32} (hF : RFok F) (hn5 : n ≤ 5) (hL : L < n) : ∀ (m j : Nat) (I : Nat → Nat → Int32) (g : Int32) (q : Nat → Int32) (z1 z2 : Value), j + m = L → (∀ i, i < n → I 83 i = q i) → (∀ i, i < n → I 84 i = rho f g i) → Ew 0 mX0_handOut 2 [.ref 82, .int (nI L), .int (nI n), .int (nI j), z1, z2] [] ((SH, nc, ns), I, J, F) (Ret nc ns none (fun I' J' F' => Fr 82 85 I I' ∧ J' = J ∧ F' = F ∧ ∀ i, i < n → I' 83 i = hoS f n m g q i))
  | 0, j, I, g, q, z1, z2, hj, hq, hr => by
    refine we_iload_n (p := 3) dX0_handOut_2 rfl rfl ?_
    refine we_iload_n (p := 4) dX0_handOut_3 rfl rfl ?_
    refine we_icmp_ge (t := 76) (p := 7) dX0_handOut_4 (by decide) rfl rfl (fun hc4 => ?_) (fun hc4 => absurd (nI_le (a := L) (b := j) (by omega) (by omega)) hc4)
    exact wv_ret dX0_handOut_76 rfl (⟨rfl, _, _, _, rfl, Fr.rf, rfl, rfl, hq⟩)
  | m + 1, j, I, g, q, z1, z2, hj, hq, hr => by
    refine we_iload_n (p := 3) dX0_handOut_2 rfl rfl ?_
    refine we_iload_n (p := 4) dX0_handOut_3 rfl rfl ?_
    refine we_icmp_ge (t := 76) (p := 7) dX0_handOut_4 (by decide) rfl rfl (fun hc4 => absurd hc4 (nI_ge (a := j) (b := L) (by omega) (by omega))) (fun hc4 => ?_)
    refine we_iload_n (p := 8) dX0_handOut_7 rfl rfl ?_
    refine we_iload_n (p := 9) dX0_handOut_8 rfl rfl ?_
    refine we_icmp_ge (t := 76) (p := 12) dX0_handOut_9 (by decide) rfl rfl (fun hc9 => absurd hc9 (nI_ge (a := j) (b := n) (by omega) (by omega))) (fun hc9 => ?_)
    refine we_iconst (v := 0) (p := 13) dX0_handOut_12 (by decide) rfl ?_
    refine we_istore (ls1 := [.ref 82, .int (nI L), .int (nI n), .int (nI j), .int 0, z2]) (p := 15) dX0_handOut_13 rfl rfl ?_
    refine we_iconst (v := 1) (p := 16) dX0_handOut_15 (by decide) rfl ?_
    refine we_istore (ls1 := [.ref 82, .int (nI L), .int (nI n), .int (nI j), .int 0, .int 1]) (p := 18) dX0_handOut_16 rfl rfl ?_
    refine x_pick hF hn5 hr (n - 1) 1 0 (by omega) (by omega) ?_
    refine we_aload_n (p := 52) dX0_handOut_51 rfl rfl ?_
    refine we_getR (c := 0) (j := 0) (n := 2) (b := 83) (p := 55) dX0_handOut_52 rfl rfl (by decide) (by decide) rfl (r_82_0 hF) rfl ?_
    refine we_iload (p := 57) dX0_handOut_55 rfl rfl ?_
    refine we_dup2 (p := 58) dX0_handOut_57 rfl ?_
    refine wf_iald (n := 5) (i := (pickS (rho f g) n)) (v := q (pickS (rho f g) n)) (p := 59) dX0_handOut_58 rfl (by decide) (in_nJ (Nat.lt_of_lt_of_le (pick_lt (by omega)) hn5) (by decide)) (nI_cl (Nat.lt_of_lt_of_le (pick_lt (show 0 < n by omega)) (by omega))) (hq (pickS (rho f g) n) (pick_lt (by omega))) rfl ?_
    refine we_iconst (v := 1) (p := 60) dX0_handOut_59 (by decide) rfl ?_
    refine we_iadd (p := 61) dX0_handOut_60 rfl ?_
    refine wf_iast (n := 5) (i := (pickS (rho f g) n)) (p := 62) dX0_handOut_61 rfl (by decide) (in_nJ (Nat.lt_of_lt_of_le (pick_lt (by omega)) hn5) (by decide)) (nI_cl (Nat.lt_of_lt_of_le (pick_lt (show 0 < n by omega)) (by omega))) rfl ?_
    refine we_aload_n (p := 63) dX0_handOut_62 rfl rfl ?_
    refine we_getR (c := 0) (j := 1) (n := 2) (b := 84) (p := 66) dX0_handOut_63 rfl rfl (by decide) (by decide) rfl (r_82_1 hF) rfl ?_
    refine we_iload (p := 68) dX0_handOut_66 rfl rfl ?_
    refine we_iconst (v := -1) (p := 69) dX0_handOut_68 (by decide) rfl ?_
    refine wf_iast (n := 5) (i := (pickS (rho f g) n)) (p := 70) dX0_handOut_69 rfl (by decide) (in_nJ (Nat.lt_of_lt_of_le (pick_lt (by omega)) hn5) (by decide)) (nI_cl (Nat.lt_of_lt_of_le (pick_lt (show 0 < n by omega)) (by omega))) rfl ?_
    refine we_iinc (ls1 := [.ref 82, .int (nI L), .int (nI n), .int ((nI j) + 1), .int (nI (pickS (rho f g) n)), .int (nI n)]) (p := 73) dX0_handOut_70 rfl rfl rfl ?_
    refine we_goto (p := 2) dX0_handOut_73 (by decide) rfl ?_
    rw [nI_1]
    refine (x_handOut_L (f := f) hF hn5 hL m (j + 1) _ (g ||| bit (pickS (rho f g) n)) (fun i => if i = pickS (rho f g) n then q i + 1 else q i) _ _ (by omega) ?_ ?_).mono ?_
    · intro i hi
      rw [hu_ne (by decide), hu_if]
      by_cases c : i = pickS (rho f g) n
      · rw [if_pos c, if_pos c, c]
      · rw [if_neg c, if_neg c]
        exact hq i hi
    · intro i hi
      have hxl : pickS (rho f g) n < n := pick_lt (by omega)
      have hri := hr i hi
      generalize pickS (rho f g) n = x at hxl ⊢
      rw [hu_if]
      unfold rho at hri ⊢
      rw [tb_or, tb_bit (by omega) (by omega)]
      by_cases c : i = x
      · subst c
        simp
      · have c2 : ¬ x = i := fun z => c z.symm
        rw [if_neg c, hu_ne (by decide), hri]
        simp [c2]
    · rintro r h ⟨h1, I2, J2, F2, h2, h3, h4, h5, h6⟩
      exact ⟨h1, I2, J2, F2, h2, ((Fr.rf.u (by decide) (by decide)).u (by decide) (by decide)).tr h3, h4, h5, h6⟩
set_option maxRecDepth 10000 in
theorem x_handOut {I : Nat → Nat → Int32} {J : Nat → Nat → Int64} {F : Nat → Nat → Option Nat} {nc ns : Nat} {n L : Nat} {f q : Nat → Int32} {g : Int32} (hF : RFok F) (hn5 : n ≤ 5) (hL : L < n) (hq : ∀ i, i < n → I 83 i = q i) (hr : ∀ i, i < n → I 84 i = rho f g i) : Ew 0 mX0_handOut 0 [.ref 82, .int (nI L), .int (nI n), .null, .null, .null] [] ((SH, nc, ns), I, J, F) (Ret nc ns none (fun I' J' F' => Fr 82 85 I I' ∧ J' = J ∧ F' = F ∧ ∀ i, i < n → I' 83 i = hoS f n L g q i)) := by
  refine we_iconst (v := 0) (p := 1) dX0_handOut_0 (by decide) rfl ?_
  refine we_istore_n (ls1 := [.ref 82, .int (nI L), .int (nI n), .int 0, .null, .null]) (p := 2) dX0_handOut_1 rfl rfl ?_
  exact x_handOut_L hF hn5 hL L 0 _ _ _ _ _ (by omega) hq hr
