def ageOk (a : Int32) : Int32 := if a < 16 then 0 else if 40 < a then 0 else 1
set_option maxRecDepth 10000 in
theorem x_isOfAge {I : Nat → Nat → Int32} {J : Nat → Nat → Int64} {F : Nat → Nat → Option Nat} {nc ns : Nat} {o : Nat} {w y : Int32} (ho : isO o) (hF : RFok F) (hw : ev_in w 8 = true) : Ev 0 mX4_isOfAge 0 [.ref o, .int w, .int y, .null] [] ((SH, nc, ns), I, J, F) (some (.int (ageOk (y - I (o + 8) w.toNatClampNeg)))) ((SH, nc, ns), I, J, F) := by
  refine e_iload_n (p := 1) dX4_isOfAge_0 rfl rfl ?_
  refine e_aload_n (p := 2) dX4_isOfAge_1 rfl rfl ?_
  refine e_getR (c := 4) (j := 9) (n := 18) (b := (o + 8)) (p := 5) dX4_isOfAge_2 rfl (s_o ho) (l_o0 ho) (by decide) rfl (r_o9 hF ho) rfl ?_
  refine e_iload_n (p := 6) dX4_isOfAge_5 rfl rfl ?_
  refine f_iald (n := 8) (i := w.toNatClampNeg) (p := 7) dX4_isOfAge_6 (s_o8 ho) (l_o ho 8 (by decide)) hw rfl rfl ?_
  refine e_isub (p := 8) dX4_isOfAge_7 rfl ?_
  refine e_istore_n (ls1 := [.ref o, .int w, .int y, .int (y - (I (o + 8) w.toNatClampNeg))]) (p := 9) dX4_isOfAge_8 rfl rfl ?_
  refine e_iload_n (p := 10) dX4_isOfAge_9 rfl rfl ?_
  refine e_bipush (v := 16) (p := 12) dX4_isOfAge_10 (by decide) rfl ?_
  refine e_icmp_lt (t := 25) (p := 15) dX4_isOfAge_12 (by decide) rfl rfl (fun hc12 => ?_) (fun hc12 => ?_)
  · skip
    refine e_iconst (v := 0) (p := 26) dX4_isOfAge_25 (by decide) rfl ?_
    exact e_iretE dX4_isOfAge_26 rfl (by decide) (by decide) ⟨by simp [ageOk, *], rfl⟩
  · skip
    refine e_iload_n (p := 16) dX4_isOfAge_15 rfl rfl ?_
    refine e_bipush (v := 40) (p := 18) dX4_isOfAge_16 (by decide) rfl ?_
    refine e_icmp_gt (t := 25) (p := 21) dX4_isOfAge_18 (by decide) rfl rfl (fun hc18 => ?_) (fun hc18 => ?_)
    · skip
      refine e_iconst (v := 0) (p := 26) dX4_isOfAge_25 (by decide) rfl ?_
      exact e_iretE dX4_isOfAge_26 rfl (by decide) (by decide) ⟨by simp [ageOk, *], rfl⟩
    · skip
      refine e_iconst (v := 1) (p := 22) dX4_isOfAge_21 (by decide) rfl ?_
      refine e_goto (p := 26) dX4_isOfAge_22 (by decide) rfl ?_
      exact e_iretE dX4_isOfAge_26 rfl (by decide) (by decide) ⟨by simp [ageOk, *], rfl⟩
set_option maxRecDepth 10000 in
theorem x_isTold {I : Nat → Nat → Int32} {J : Nat → Nat → Int64} {F : Nat → Nat → Option Nat} {nc ns : Nat} {o : Nat} (ho : isO o) : Ev 0 mX4_isTold 0 [.ref o] [] ((SH, nc, ns), I, J, F) (some (.int (if I o 0 ≤ 0 then 0 else 1))) ((SH, nc, ns), I, J, F) := by
  refine e_aload_n (p := 1) dX4_isTold_0 rfl rfl ?_
  refine e_getI (c := 4) (j := 0) (n := 18)  (p := 4) dX4_isTold_1 rfl (s_o ho) (l_o0 ho) (by decide) (Or.inl rfl) rfl ?_
  refine e_if_le (t := 11) (p := 7) dX4_isTold_4 (by decide) rfl rfl (fun hc4 => ?_) (fun hc4 => ?_)
  · skip
    refine e_iconst (v := 0) (p := 12) dX4_isTold_11 (by decide) rfl ?_
    exact e_iretE dX4_isTold_12 rfl (by decide) (by decide) ⟨by simp [*], rfl⟩
  · skip
    refine e_iconst (v := 1) (p := 8) dX4_isTold_7 (by decide) rfl ?_
    refine e_goto (p := 12) dX4_isTold_8 (by decide) rfl ?_
    exact e_iretE dX4_isTold_12 rfl (by decide) (by decide) ⟨by simp [*], rfl⟩
