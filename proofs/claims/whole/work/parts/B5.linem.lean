/-! The reference's lines. -/
theorem ixm {a b r : Nat} : (nI a + nI b * nI r : Int32) = nI (a + b * r) := by rw [pk_mul, nI_add]
theorem jx {j r : Nat} (h : j < 18) (hr : r < cap j) : j < 18 ∧ r < cap j := ⟨h, hr⟩
set_option maxRecDepth 10000 in
theorem y_harbourLine {I : Nat → Nat → Int32} {J : Nat → Nat → Int64} {F : Nat → Nat → Option Nat} {nc ns : Nat} {T : Nat → Nat} {n : Nat} {S : pZ} (hF : RFok F) {row : Nat} (hl : lM T n S I I 0 row []) (hrow : row < 6) (hfree : ∀ i, i < zC S → ¬ slt (zN S i) = slO 0 row) : Ew 6 mX12_harbourLine 0 [.ref 95, .null] [] ((SH, nc, ns), I, J, F) (RmL nc ns T n I J F (pB (pHarb T n row S) (pIn 0))) := by
  refine we_aload_n (p := 1) dX12_harbourLine_0 rfl rfl ?_
  refine wf_getI (c := 11) (j := 13) (n := 37) (v := 0) (p := 4) dX12_harbourLine_1 rfl rfl (by decide) (by decide) (Or.inr rfl) hl.2.2.1.2.2.2.1 rfl ?_
  refine we_if_eq (t := 8) (p := 7) dX12_harbourLine_4 (by decide) rfl rfl (fun hc4 => ?_) (fun hc4 => absurd (by decide) hc4)
  refine we_bipush (v := 9) (p := 10) dX12_harbourLine_8 (by decide) rfl ?_
  refine we_iconst (v := 3) (p := 11) dX12_harbourLine_10 (by decide) rfl ?_
  refine we_aload_n (p := 12) dX12_harbourLine_11 rfl rfl ?_
  refine we_getR (c := 11) (j := 16) (n := 37) (b := 99) (p := 15) dX12_harbourLine_12 rfl rfl (by decide) (by decide) rfl (r_95_16 hF) rfl ?_
  refine we_iconst (v := 2) (p := 16) dX12_harbourLine_15 (by decide) rfl ?_
  refine wf_iald (n := 276) (i := 2) (v := nI row) (p := 17) dX12_harbourLine_16 rfl (by decide) (by decide) (by decide) (hl.cnt (by decide)) rfl ?_
  refine we_imul (p := 18) dX12_harbourLine_17 rfl ?_
  refine we_iadd (p := 19) dX12_harbourLine_18 rfl ?_
  rw [show (9 + 3 * nI row : Int32) = nI (9 + 3 * row) from ixm (a := 9) (b := 3)]
  refine we_istore_n (ls1 := [.ref 95, .int (nI (9 + 3 * row))]) (p := 20) dX12_harbourLine_19 rfl rfl ?_
  refine we_aload_n (p := 21) dX12_harbourLine_20 rfl rfl ?_
  refine we_aload_n (p := 22) dX12_harbourLine_21 rfl rfl ?_
  refine we_getR (c := 11) (j := 16) (n := 37) (b := 99) (p := 25) dX12_harbourLine_22 rfl rfl (by decide) (by decide) rfl (r_95_16 hF) rfl ?_
  refine we_iconst (v := 2) (p := 26) dX12_harbourLine_25 (by decide) rfl ?_
  refine wf_iald (n := 276) (i := 2) (v := nI row) (p := 27) dX12_harbourLine_26 rfl (by decide) (by decide) (by decide) (hl.cnt (by decide)) rfl ?_
  obtain ⟨_, _, e1, I1, rfl, f1, ⟨z1, rfl, t1⟩ | ⟨z1, rfl, g1⟩⟩ := y_newName (S := S) (so := 0) (row := row) (t := row) hF hl.2.2.1 hl.2.1 hl.2.2.2.1 rfl (by unfold rwO; omega) hfree hl.2.2.2.2.1
  · skip
    refine we_callV_v (p := 30) (k' := 4) (a := [.ref 95, .int (nI row)]) (rr := []) dX12_harbourLine_27 rfl rfl rfl rfl (rc_of rfl rfl (by decide) ⟨rfl, by decide⟩) (Nat.le_of_ble_eq_true rfl) (Nat.le_of_ble_eq_true rfl) (by decide) e1 (Or.inl rfl) rfl ?_
    refine we_aload_n (p := 31) dX12_harbourLine_30 rfl rfl ?_
    refine we_getR (c := 11) (j := 16) (n := 37) (b := 99) (p := 34) dX12_harbourLine_31 rfl rfl (by decide) (by decide) rfl (r_95_16 hF) rfl ?_
    refine we_iload_n (p := 35) dX12_harbourLine_34 rfl rfl ?_
    refine we_aload_n (p := 36) dX12_harbourLine_35 rfl rfl ?_
    refine we_ldcS (j := 12) (p := 38) dX12_harbourLine_36 rfl rfl rfl ?_
    refine we_iconst (v := 0) (p := 39) dX12_harbourLine_38 (by decide) rfl ?_
    refine we_bipush (v := 100) (p := 41) dX12_harbourLine_39 (by decide) rfl ?_
    obtain ⟨_, _, e2, I2, rfl, f2, ⟨z2, rfl, t2⟩ | ⟨z2, rfl, g2⟩⟩ := y_afterW (S := (pNw T n 0 row S)) (j := 12) (w := 14) (lo := 0) (hi := 100) rfl hF (lM.nw hl f1 z1 t1).2.2.1 (lM.nw hl f1 z1 t1).2.1 (by decide) (by decide) (by decide) (by decide)
    · skip
      refine we_callV_int (p := 44) (k' := 5) (a := [.ref 95, .ref (sp_S + 12), .int 0, .int 100]) (rr := [.int (nI (9 + 3 * row)), .ref 99]) dX12_harbourLine_41 rfl rfl rfl rfl (rc_of rfl rfl (by decide) ⟨rfl, by decide⟩) (Nat.le_of_ble_eq_true rfl) (Nat.le_of_ble_eq_true rfl) (by decide) e2 (Or.inl rfl) rfl ?_
      refine wf_iast (n := 276) (i := (9 + 3 * row)) (p := 45) dX12_harbourLine_44 rfl (by decide) (in_nJ (by omega) (by decide)) (nI_cl (by omega)) rfl ?_
      refine we_aload_n (p := 46) dX12_harbourLine_45 rfl rfl ?_
      refine we_getR (c := 11) (j := 16) (n := 37) (b := 99) (p := 49) dX12_harbourLine_46 rfl rfl (by decide) (by decide) rfl (r_95_16 hF) rfl ?_
      refine we_iload_n (p := 50) dX12_harbourLine_49 rfl rfl ?_
      refine we_iconst (v := 1) (p := 51) dX12_harbourLine_50 (by decide) rfl ?_
      refine we_iadd (p := 52) dX12_harbourLine_51 rfl ?_
      rw [show (nI (9 + 3 * row) + 1 : Int32) = nI (9 + 3 * row + 1) from nI_add (a := 9 + 3 * row) (b := 1)]
      refine we_aload_n (p := 53) dX12_harbourLine_52 rfl rfl ?_
      refine we_ldcS (j := 13) (p := 55) dX12_harbourLine_53 rfl rfl rfl ?_
      refine we_iconst (v := 0) (p := 56) dX12_harbourLine_55 (by decide) rfl ?_
      refine we_bipush (v := 99) (p := 58) dX12_harbourLine_56 (by decide) rfl ?_
      obtain ⟨_, _, e3, I3, rfl, f3, ⟨z3, rfl, t3⟩ | ⟨z3, rfl, g3⟩⟩ := y_afterW (S := (pSt 3 row (nI (zV (pTk T n 14 0 100 (pNw T n 0 row S)))) (pTk T n 14 0 100 (pNw T n 0 row S)))) (j := 13) (w := 15) (lo := 0) (hi := 99) rfl hF ((lM.tk (S := (pNw T n 0 row S)) (lM.nw hl f1 z1 t1) f2 z2 t2).sr (j := 3) (v := nI (zV (pTk T n 14 0 100 (pNw T n 0 row S)))) (by decide) (by decide) (show row < 6 by omega) (by intro x hx; simp at hx)).2.2.1 ((lM.tk (S := (pNw T n 0 row S)) (lM.nw hl f1 z1 t1) f2 z2 t2).sr (j := 3) (v := nI (zV (pTk T n 14 0 100 (pNw T n 0 row S)))) (by decide) (by decide) (show row < 6 by omega) (by intro x hx; simp at hx)).2.1 (by decide) (by decide) (by decide) (by decide)
      · skip
        refine we_callV_int (p := 61) (k' := 5) (a := [.ref 95, .ref (sp_S + 13), .int 0, .int 99]) (rr := [.int (nI (9 + 3 * row + 1)), .ref 99]) dX12_harbourLine_58 rfl rfl rfl rfl (rc_of rfl rfl (by decide) ⟨rfl, by decide⟩) (Nat.le_of_ble_eq_true rfl) (Nat.le_of_ble_eq_true rfl) (by decide) e3 (Or.inl rfl) rfl ?_
        refine wf_iast (n := 276) (i := (9 + 3 * row + 1)) (p := 62) dX12_harbourLine_61 rfl (by decide) (in_nJ (by omega) (by decide)) (nI_cl (by omega)) rfl ?_
        refine we_aload_n (p := 63) dX12_harbourLine_62 rfl rfl ?_
        refine wf_getI (c := 11) (j := 13) (n := 37) (v := 0) (p := 66) dX12_harbourLine_63 rfl rfl (by decide) (by decide) (Or.inr rfl) ((lM.tk (S := (pSt 3 row (nI (zV (pTk T n 14 0 100 (pNw T n 0 row S)))) (pTk T n 14 0 100 (pNw T n 0 row S)))) ((lM.tk (S := (pNw T n 0 row S)) (lM.nw hl f1 z1 t1) f2 z2 t2).sr (j := 3) (v := nI (zV (pTk T n 14 0 100 (pNw T n 0 row S)))) (by decide) (by decide) (show row < 6 by omega) (by intro x hx; simp at hx)) f3 z3 t3).sr (j := 4) (v := nI (zV (pTk T n 15 0 99 (pSt 3 row (nI (zV (pTk T n 14 0 100 (pNw T n 0 row S)))) (pTk T n 14 0 100 (pNw T n 0 row S)))))) (by decide) (by decide) (show row < 6 by omega) (by intro x hx; simp at hx; subst hx; exact ⟨by decide, by decide, (show row < 6 by omega)⟩)).2.2.1.2.2.2.1 rfl ?_
        refine we_if_ne (t := 79) (p := 69) dX12_harbourLine_66 (by decide) rfl rfl (fun hc66 => absurd (by decide) hc66) (fun hc66 => ?_)
        refine we_aload_n (p := 70) dX12_harbourLine_69 rfl rfl ?_
        refine we_getR (c := 11) (j := 16) (n := 37) (b := 99) (p := 73) dX12_harbourLine_70 rfl rfl (by decide) (by decide) rfl (r_95_16 hF) rfl ?_
        refine we_iconst (v := 2) (p := 74) dX12_harbourLine_73 (by decide) rfl ?_
        refine we_dup2 (p := 75) dX12_harbourLine_74 rfl ?_
        refine wf_iald (n := 276) (i := 2) (v := nI row) (p := 76) dX12_harbourLine_75 rfl (by decide) (by decide) (by decide) (((lM.tk (S := (pSt 3 row (nI (zV (pTk T n 14 0 100 (pNw T n 0 row S)))) (pTk T n 14 0 100 (pNw T n 0 row S)))) ((lM.tk (S := (pNw T n 0 row S)) (lM.nw hl f1 z1 t1) f2 z2 t2).sr (j := 3) (v := nI (zV (pTk T n 14 0 100 (pNw T n 0 row S)))) (by decide) (by decide) (show row < 6 by omega) (by intro x hx; simp at hx)) f3 z3 t3).sr (j := 4) (v := nI (zV (pTk T n 15 0 99 (pSt 3 row (nI (zV (pTk T n 14 0 100 (pNw T n 0 row S)))) (pTk T n 14 0 100 (pNw T n 0 row S)))))) (by decide) (by decide) (show row < 6 by omega) (by intro x hx; simp at hx; subst hx; exact ⟨by decide, by decide, (show row < 6 by omega)⟩)).cnt (by decide)) rfl ?_
        refine we_iconst (v := 1) (p := 77) dX12_harbourLine_76 (by decide) rfl ?_
        refine we_iadd (p := 78) dX12_harbourLine_77 rfl ?_
        rw [nI_1]
        refine wf_iast (n := 276) (i := 2) (p := 79) dX12_harbourLine_78 rfl (by decide) (by decide) (by decide) rfl ?_
        exact wv_ret dX12_harbourLine_79 rfl (RmL.ok (S := (pSt 4 row (nI (zV (pTk T n 15 0 99 (pSt 3 row (nI (zV (pTk T n 14 0 100 (pNw T n 0 row S)))) (pTk T n 14 0 100 (pNw T n 0 row S)))))) (pTk T n 15 0 99 (pSt 3 row (nI (zV (pTk T n 14 0 100 (pNw T n 0 row S)))) (pTk T n 14 0 100 (pNw T n 0 row S)))))) ((congrArg (fun z => pB z (pIn 0)) (show pHarb T n row S = (pSt 4 row (nI (zV (pTk T n 15 0 99 (pSt 3 row (nI (zV (pTk T n 14 0 100 (pNw T n 0 row S)))) (pTk T n 14 0 100 (pNw T n 0 row S)))))) (pTk T n 15 0 99 (pSt 3 row (nI (zV (pTk T n 14 0 100 (pNw T n 0 row S)))) (pTk T n 14 0 100 (pNw T n 0 row S))))) from by
      unfold pHarb
      first | (rw [pB_y (S := (pNw T n 0 row S)) z1, pB_y (S := (pTk T n 14 0 100 (pNw T n 0 row S))) z2, pB_y (S := (pTk T n 15 0 99 (pSt 3 row (nI (zV (pTk T n 14 0 100 (pNw T n 0 row S)))) (pTk T n 14 0 100 (pNw T n 0 row S))))) z3]; done) | (rw [pB_y (S := (pNw T n 0 row S)) z1, pB_y (S := (pTk T n 14 0 100 (pNw T n 0 row S))) z2, pB_y (S := (pTk T n 15 0 99 (pSt 3 row (nI (zV (pTk T n 14 0 100 (pNw T n 0 row S)))) (pTk T n 14 0 100 (pNw T n 0 row S))))) z3]; rfl))).trans (pB_y ((lM.tk (S := (pSt 3 row (nI (zV (pTk T n 14 0 100 (pNw T n 0 row S)))) (pTk T n 14 0 100 (pNw T n 0 row S)))) ((lM.tk (S := (pNw T n 0 row S)) (lM.nw hl f1 z1 t1) f2 z2 t2).sr (j := 3) (v := nI (zV (pTk T n 14 0 100 (pNw T n 0 row S)))) (by decide) (by decide) (show row < 6 by omega) (by intro x hx; simp at hx)) f3 z3 t3).sr (j := 4) (v := nI (zV (pTk T n 15 0 99 (pSt 3 row (nI (zV (pTk T n 14 0 100 (pNw T n 0 row S)))) (pTk T n 14 0 100 (pNw T n 0 row S)))))) (by decide) (by decide) (show row < 6 by omega) (by intro x hx; simp at hx; subst hx; exact ⟨by decide, by decide, (show row < 6 by omega)⟩)).2.1)) ((lM.tk (S := (pSt 3 row (nI (zV (pTk T n 14 0 100 (pNw T n 0 row S)))) (pTk T n 14 0 100 (pNw T n 0 row S)))) ((lM.tk (S := (pNw T n 0 row S)) (lM.nw hl f1 z1 t1) f2 z2 t2).sr (j := 3) (v := nI (zV (pTk T n 14 0 100 (pNw T n 0 row S)))) (by decide) (by decide) (show row < 6 by omega) (by intro x hx; simp at hx)) f3 z3 t3).sr (j := 4) (v := nI (zV (pTk T n 15 0 99 (pSt 3 row (nI (zV (pTk T n 14 0 100 (pNw T n 0 row S)))) (pTk T n 14 0 100 (pNw T n 0 row S)))))) (by decide) (by decide) (show row < 6 by omega) (by intro x hx; simp at hx; subst hx; exact ⟨by decide, by decide, (show row < 6 by omega)⟩)) (by decide) (show row < 6 by omega) (by decide) rfl)
      · skip
        refine we_callV_int (p := 61) (k' := 5) (a := [.ref 95, .ref (sp_S + 13), .int 0, .int 99]) (rr := [.int (nI (9 + 3 * row + 1)), .ref 99]) dX12_harbourLine_58 rfl rfl rfl rfl (rc_of rfl rfl (by decide) ⟨rfl, by decide⟩) (Nat.le_of_ble_eq_true rfl) (Nat.le_of_ble_eq_true rfl) (by decide) e3 (Or.inl rfl) rfl ?_
        refine wf_iast (n := 276) (i := (9 + 3 * row + 1)) (p := 62) dX12_harbourLine_61 rfl (by decide) (in_nJ (by omega) (by decide)) (nI_cl (by omega)) rfl ?_
        refine we_aload_n (p := 63) dX12_harbourLine_62 rfl rfl ?_
        refine wf_getI (c := 11) (j := 13) (n := 37) (v := 1) (p := 66) dX12_harbourLine_63 rfl rfl (by decide) (by decide) (Or.inr rfl) (((((lM.tk (S := (pNw T n 0 row S)) (lM.nw hl f1 z1 t1) f2 z2 t2).sr (j := 3) (v := nI (zV (pTk T n 14 0 100 (pNw T n 0 row S)))) (by decide) (by decide) (show row < 6 by omega) (by intro x hx; simp at hx)).no f3 z3 g3).u)).2.2.1 rfl ?_
        refine we_if_ne (t := 79) (p := 69) dX12_harbourLine_66 (by decide) rfl rfl (fun hc66 => ?_) (fun hc66 => absurd hc66 (by decide))
        exact wv_ret dX12_harbourLine_79 rfl (RmL.no (X := (pTk T n 15 0 99 (pSt 3 row (nI (zV (pTk T n 14 0 100 (pNw T n 0 row S)))) (pTk T n 14 0 100 (pNw T n 0 row S))))) ((congrArg (fun z => pB z (pIn 0)) (show pHarb T n row S = (pTk T n 15 0 99 (pSt 3 row (nI (zV (pTk T n 14 0 100 (pNw T n 0 row S)))) (pTk T n 14 0 100 (pNw T n 0 row S)))) from by
      unfold pHarb
      first | (rw [pB_y (S := (pNw T n 0 row S)) z1, pB_y (S := (pTk T n 14 0 100 (pNw T n 0 row S))) z2, pB_n (S := (pTk T n 15 0 99 (pSt 3 row (nI (zV (pTk T n 14 0 100 (pNw T n 0 row S)))) (pTk T n 14 0 100 (pNw T n 0 row S))))) z3]; done) | (rw [pB_y (S := (pNw T n 0 row S)) z1, pB_y (S := (pTk T n 14 0 100 (pNw T n 0 row S))) z2, pB_n (S := (pTk T n 15 0 99 (pSt 3 row (nI (zV (pTk T n 14 0 100 (pNw T n 0 row S)))) (pTk T n 14 0 100 (pNw T n 0 row S))))) z3]; rfl))).trans (pB_n (S := (pTk T n 15 0 99 (pSt 3 row (nI (zV (pTk T n 14 0 100 (pNw T n 0 row S)))) (pTk T n 14 0 100 (pNw T n 0 row S))))) z3)) ((((lM.tk (S := (pNw T n 0 row S)) (lM.nw hl f1 z1 t1) f2 z2 t2).sr (j := 3) (v := nI (zV (pTk T n 14 0 100 (pNw T n 0 row S)))) (by decide) (by decide) (show row < 6 by omega) (by intro x hx; simp at hx)).no f3 z3 g3).u))
    · skip
      refine we_callV_int (p := 44) (k' := 5) (a := [.ref 95, .ref (sp_S + 12), .int 0, .int 100]) (rr := [.int (nI (9 + 3 * row)), .ref 99]) dX12_harbourLine_41 rfl rfl rfl rfl (rc_of rfl rfl (by decide) ⟨rfl, by decide⟩) (Nat.le_of_ble_eq_true rfl) (Nat.le_of_ble_eq_true rfl) (by decide) e2 (Or.inl rfl) rfl ?_
      refine wf_iast (n := 276) (i := (9 + 3 * row)) (p := 45) dX12_harbourLine_44 rfl (by decide) (in_nJ (by omega) (by decide)) (nI_cl (by omega)) rfl ?_
      refine we_aload_n (p := 46) dX12_harbourLine_45 rfl rfl ?_
      refine we_getR (c := 11) (j := 16) (n := 37) (b := 99) (p := 49) dX12_harbourLine_46 rfl rfl (by decide) (by decide) rfl (r_95_16 hF) rfl ?_
      refine we_iload_n (p := 50) dX12_harbourLine_49 rfl rfl ?_
      refine we_iconst (v := 1) (p := 51) dX12_harbourLine_50 (by decide) rfl ?_
      refine we_iadd (p := 52) dX12_harbourLine_51 rfl ?_
      rw [show (nI (9 + 3 * row) + 1 : Int32) = nI (9 + 3 * row + 1) from nI_add (a := 9 + 3 * row) (b := 1)]
      refine we_aload_n (p := 53) dX12_harbourLine_52 rfl rfl ?_
      refine we_ldcS (j := 13) (p := 55) dX12_harbourLine_53 rfl rfl rfl ?_
      refine we_iconst (v := 0) (p := 56) dX12_harbourLine_55 (by decide) rfl ?_
      refine we_bipush (v := 99) (p := 58) dX12_harbourLine_56 (by decide) rfl ?_
      refine we_callV_int (p := 61) (k' := 5) (a := [.ref 95, .ref (sp_S + 13), .int 0, .int 99]) (rr := [.int (nI (9 + 3 * row + 1)), .ref 99]) dX12_harbourLine_58 rfl rfl rfl rfl (rc_of rfl rfl (by decide) ⟨rfl, by decide⟩) (Nat.le_of_ble_eq_true rfl) (Nat.le_of_ble_eq_true rfl) (by decide) (y_after_f hF ((((lM.nw hl f1 z1 t1).no f2 z2 g2).u)).2.2.1) (Or.inl rfl) rfl ?_
      refine wf_iast (n := 276) (i := (9 + 3 * row + 1)) (p := 62) dX12_harbourLine_61 rfl (by decide) (in_nJ (by omega) (by decide)) (nI_cl (by omega)) rfl ?_
      refine we_aload_n (p := 63) dX12_harbourLine_62 rfl rfl ?_
      refine wf_getI (c := 11) (j := 13) (n := 37) (v := 1) (p := 66) dX12_harbourLine_63 rfl rfl (by decide) (by decide) (Or.inr rfl) (((((lM.nw hl f1 z1 t1).no f2 z2 g2).u).u)).2.2.1 rfl ?_
      refine we_if_ne (t := 79) (p := 69) dX12_harbourLine_66 (by decide) rfl rfl (fun hc66 => ?_) (fun hc66 => absurd hc66 (by decide))
      exact wv_ret dX12_harbourLine_79 rfl (RmL.no (X := (pTk T n 14 0 100 (pNw T n 0 row S))) ((congrArg (fun z => pB z (pIn 0)) (show pHarb T n row S = (pTk T n 14 0 100 (pNw T n 0 row S)) from by
      unfold pHarb
      first | (rw [pB_y (S := (pNw T n 0 row S)) z1, pB_n (S := (pTk T n 14 0 100 (pNw T n 0 row S))) z2]; done) | (rw [pB_y (S := (pNw T n 0 row S)) z1, pB_n (S := (pTk T n 14 0 100 (pNw T n 0 row S))) z2]; rfl))).trans (pB_n (S := (pTk T n 14 0 100 (pNw T n 0 row S))) z2)) ((((lM.nw hl f1 z1 t1).no f2 z2 g2).u).u))
  · skip
    refine we_callV_v (p := 30) (k' := 4) (a := [.ref 95, .int (nI row)]) (rr := []) dX12_harbourLine_27 rfl rfl rfl rfl (rc_of rfl rfl (by decide) ⟨rfl, by decide⟩) (Nat.le_of_ble_eq_true rfl) (Nat.le_of_ble_eq_true rfl) (by decide) e1 (Or.inl rfl) rfl ?_
    refine we_aload_n (p := 31) dX12_harbourLine_30 rfl rfl ?_
    refine we_getR (c := 11) (j := 16) (n := 37) (b := 99) (p := 34) dX12_harbourLine_31 rfl rfl (by decide) (by decide) rfl (r_95_16 hF) rfl ?_
    refine we_iload_n (p := 35) dX12_harbourLine_34 rfl rfl ?_
    refine we_aload_n (p := 36) dX12_harbourLine_35 rfl rfl ?_
    refine we_ldcS (j := 12) (p := 38) dX12_harbourLine_36 rfl rfl rfl ?_
    refine we_iconst (v := 0) (p := 39) dX12_harbourLine_38 (by decide) rfl ?_
    refine we_bipush (v := 100) (p := 41) dX12_harbourLine_39 (by decide) rfl ?_
    refine we_callV_int (p := 44) (k' := 5) (a := [.ref 95, .ref (sp_S + 12), .int 0, .int 100]) (rr := [.int (nI (9 + 3 * row)), .ref 99]) dX12_harbourLine_41 rfl rfl rfl rfl (rc_of rfl rfl (by decide) ⟨rfl, by decide⟩) (Nat.le_of_ble_eq_true rfl) (Nat.le_of_ble_eq_true rfl) (by decide) (y_after_f hF ((hl.nl f1 z1 g1)).2.2.1) (Or.inl rfl) rfl ?_
    refine wf_iast (n := 276) (i := (9 + 3 * row)) (p := 45) dX12_harbourLine_44 rfl (by decide) (in_nJ (by omega) (by decide)) (nI_cl (by omega)) rfl ?_
    refine we_aload_n (p := 46) dX12_harbourLine_45 rfl rfl ?_
    refine we_getR (c := 11) (j := 16) (n := 37) (b := 99) (p := 49) dX12_harbourLine_46 rfl rfl (by decide) (by decide) rfl (r_95_16 hF) rfl ?_
    refine we_iload_n (p := 50) dX12_harbourLine_49 rfl rfl ?_
    refine we_iconst (v := 1) (p := 51) dX12_harbourLine_50 (by decide) rfl ?_
    refine we_iadd (p := 52) dX12_harbourLine_51 rfl ?_
    rw [show (nI (9 + 3 * row) + 1 : Int32) = nI (9 + 3 * row + 1) from nI_add (a := 9 + 3 * row) (b := 1)]
    refine we_aload_n (p := 53) dX12_harbourLine_52 rfl rfl ?_
    refine we_ldcS (j := 13) (p := 55) dX12_harbourLine_53 rfl rfl rfl ?_
    refine we_iconst (v := 0) (p := 56) dX12_harbourLine_55 (by decide) rfl ?_
    refine we_bipush (v := 99) (p := 58) dX12_harbourLine_56 (by decide) rfl ?_
    refine we_callV_int (p := 61) (k' := 5) (a := [.ref 95, .ref (sp_S + 13), .int 0, .int 99]) (rr := [.int (nI (9 + 3 * row + 1)), .ref 99]) dX12_harbourLine_58 rfl rfl rfl rfl (rc_of rfl rfl (by decide) ⟨rfl, by decide⟩) (Nat.le_of_ble_eq_true rfl) (Nat.le_of_ble_eq_true rfl) (by decide) (y_after_f hF (((hl.nl f1 z1 g1).u)).2.2.1) (Or.inl rfl) rfl ?_
    refine wf_iast (n := 276) (i := (9 + 3 * row + 1)) (p := 62) dX12_harbourLine_61 rfl (by decide) (in_nJ (by omega) (by decide)) (nI_cl (by omega)) rfl ?_
    refine we_aload_n (p := 63) dX12_harbourLine_62 rfl rfl ?_
    refine wf_getI (c := 11) (j := 13) (n := 37) (v := 1) (p := 66) dX12_harbourLine_63 rfl rfl (by decide) (by decide) (Or.inr rfl) ((((hl.nl f1 z1 g1).u).u)).2.2.1 rfl ?_
    refine we_if_ne (t := 79) (p := 69) dX12_harbourLine_66 (by decide) rfl rfl (fun hc66 => ?_) (fun hc66 => absurd hc66 (by decide))
    exact wv_ret dX12_harbourLine_79 rfl (RmL.no (X := (pNw T n 0 row S)) ((congrArg (fun z => pB z (pIn 0)) (show pHarb T n row S = (pNw T n 0 row S) from by
      unfold pHarb
      first | (rw [pB_n (S := (pNw T n 0 row S)) z1]; done) | (rw [pB_n (S := (pNw T n 0 row S)) z1]; rfl))).trans (pB_n (S := (pNw T n 0 row S)) z1)) (((hl.nl f1 z1 g1).u).u))
set_option maxRecDepth 10000 in
theorem y_rivalLine {I : Nat → Nat → Int32} {J : Nat → Nat → Int64} {F : Nat → Nat → Option Nat} {nc ns : Nat} {T : Nat → Nat} {n : Nat} {S : pZ} (hF : RFok F) {row : Nat} (hl : lM T n S I I 3 row []) (hrow : row < 8) : Ew 6 mX12_rivalLine 0 [.ref 95, .null, .null] [] ((SH, nc, ns), I, J, F) (RmL nc ns T n I J F (pB (pRiv T n row S) (pIn 3))) := by
  refine we_aload_n (p := 1) dX12_rivalLine_0 rfl rfl ?_
  refine wf_getI (c := 11) (j := 13) (n := 37) (v := 0) (p := 4) dX12_rivalLine_1 rfl rfl (by decide) (by decide) (Or.inr rfl) hl.2.2.1.2.2.2.1 rfl ?_
  refine we_if_eq (t := 8) (p := 7) dX12_rivalLine_4 (by decide) rfl rfl (fun hc4 => ?_) (fun hc4 => absurd (by decide) hc4)
  refine we_bipush (v := 59) (p := 10) dX12_rivalLine_8 (by decide) rfl ?_
  refine we_iconst (v := 2) (p := 11) dX12_rivalLine_10 (by decide) rfl ?_
  refine we_aload_n (p := 12) dX12_rivalLine_11 rfl rfl ?_
  refine we_getR (c := 11) (j := 16) (n := 37) (b := 99) (p := 15) dX12_rivalLine_12 rfl rfl (by decide) (by decide) rfl (r_95_16 hF) rfl ?_
  refine we_iconst (v := 5) (p := 16) dX12_rivalLine_15 (by decide) rfl ?_
  refine wf_iald (n := 276) (i := 5) (v := nI row) (p := 17) dX12_rivalLine_16 rfl (by decide) (by decide) (by decide) (hl.cnt (by decide)) rfl ?_
  refine we_imul (p := 18) dX12_rivalLine_17 rfl ?_
  refine we_iadd (p := 19) dX12_rivalLine_18 rfl ?_
  rw [show (59 + 2 * nI row : Int32) = nI (59 + 2 * row) from ixm (a := 59) (b := 2)]
  refine we_istore_n (ls1 := [.ref 95, .int (nI (59 + 2 * row)), .null]) (p := 20) dX12_rivalLine_19 rfl rfl ?_
  refine we_aload_n (p := 21) dX12_rivalLine_20 rfl rfl ?_
  refine we_bipush (v := 6) (p := 23) dX12_rivalLine_21 (by decide) rfl ?_
  refine we_bipush (v := 13) (p := 25) dX12_rivalLine_23 (by decide) rfl ?_
  obtain ⟨_, _, e1, I1, rfl, f1, ⟨z1, rfl, t1⟩ | ⟨z1, rfl, g1⟩⟩ := y_named (S := S) (so := 2) (lo := 6) (hi := 13) hF hl.2.2.1 hl.2.1 hl.2.2.2.1 (Or.inr ⟨rfl, rfl, rfl⟩)
  · skip
    refine we_callV_int (p := 28) (k' := 4) (a := [.ref 95, .int 6, .int 13]) (rr := []) dX12_rivalLine_25 rfl rfl rfl rfl (rc_of rfl rfl (by decide) ⟨rfl, by decide⟩) (Nat.le_of_ble_eq_true rfl) (Nat.le_of_ble_eq_true rfl) (by decide) e1 (Or.inl rfl) rfl ?_
    refine we_istore_n (ls1 := [.ref 95, .int (nI (59 + 2 * row)), .int (nI (zV (pFn T n 2 S)))]) (p := 29) dX12_rivalLine_28 rfl rfl ?_
    refine we_aload_n (p := 30) dX12_rivalLine_29 rfl rfl ?_
    refine wf_getI (c := 11) (j := 13) (n := 37) (v := 0) (p := 33) dX12_rivalLine_30 rfl rfl (by decide) (by decide) (Or.inr rfl) (lM.fn hl f1 z1 t1).2.2.1.2.2.2.1 rfl ?_
    refine we_if_eq (t := 37) (p := 36) dX12_rivalLine_33 (by decide) rfl rfl (fun hc33 => ?_) (fun hc33 => absurd (by decide) hc33)
    refine we_aload_n (p := 38) dX12_rivalLine_37 rfl rfl ?_
    obtain ⟨_, _, e2, rfl, I2, J2, F2, rfl, rfl, rfl, f2, r2⟩ := y_next hF (lM.fn hl f1 z1 t1).2.2.1.1 (tE_le (lM.fn hl f1 z1 t1).2.2.1.2.1).1 (lM.fn hl f1 z1 t1).2.2.1.2.2.1.2.1
    refine we_callV_v (p := 41) (k' := 1) (a := [.ref 95]) (rr := []) dX12_rivalLine_38 rfl rfl rfl rfl (rc_of rfl rfl (by decide) ⟨rfl, by decide⟩) (Nat.le_of_ble_eq_true rfl) (Nat.le_of_ble_eq_true rfl) (by decide) e2 (Or.inl rfl) rfl ?_
    refine we_aload_n (p := 42) dX12_rivalLine_41 rfl rfl ?_
    refine we_getR (c := 11) (j := 16) (n := 37) (b := 99) (p := 45) dX12_rivalLine_42 rfl rfl (by decide) (by decide) rfl (r_95_16 hF) rfl ?_
    refine we_iload_n (p := 46) dX12_rivalLine_45 rfl rfl ?_
    refine we_iload_n (p := 47) dX12_rivalLine_46 rfl rfl ?_
    refine wf_iast (n := 276) (i := (59 + 2 * row)) (p := 48) dX12_rivalLine_47 rfl (by decide) (in_nJ (by omega) (by decide)) (nI_cl (by omega)) rfl ?_
    refine we_aload_n (p := 49) dX12_rivalLine_48 rfl rfl ?_
    refine we_getR (c := 11) (j := 16) (n := 37) (b := 99) (p := 52) dX12_rivalLine_49 rfl rfl (by decide) (by decide) rfl (r_95_16 hF) rfl ?_
    refine we_iload_n (p := 53) dX12_rivalLine_52 rfl rfl ?_
    refine we_iconst (v := 1) (p := 54) dX12_rivalLine_53 (by decide) rfl ?_
    refine we_iadd (p := 55) dX12_rivalLine_54 rfl ?_
    rw [show (nI (59 + 2 * row) + 1 : Int32) = nI (59 + 2 * row + 1) from nI_add (a := 59 + 2 * row) (b := 1)]
    refine we_aload_n (p := 56) dX12_rivalLine_55 rfl rfl ?_
    refine we_ldcS (j := 21) (p := 58) dX12_rivalLine_56 rfl rfl rfl ?_
    refine we_iconst (v := 0) (p := 59) dX12_rivalLine_58 (by decide) rfl ?_
    refine we_bipush (v := 99) (p := 61) dX12_rivalLine_59 (by decide) rfl ?_
    obtain ⟨_, _, e3, I3, rfl, f3, ⟨z3, rfl, t3⟩ | ⟨z3, rfl, g3⟩⟩ := y_afterW (S := (pAv T n (pSt 10 row (nI (zV (pFn T n 2 S))) (pFn T n 2 S)))) (j := 21) (w := 19) (lo := 0) (hi := 99) rfl hF ((lM.nx (S := (pFn T n 2 S)) (lM.fn hl f1 z1 t1) f2 r2).sr (j := 10) (v := nI (zV (pFn T n 2 S))) (by decide) (by decide) (show row < 8 by omega) (by intro x hx; simp at hx)).2.2.1 ((lM.nx (S := (pFn T n 2 S)) (lM.fn hl f1 z1 t1) f2 r2).sr (j := 10) (v := nI (zV (pFn T n 2 S))) (by decide) (by decide) (show row < 8 by omega) (by intro x hx; simp at hx)).2.1 (by decide) (by decide) (by decide) (by decide)
    · skip
      refine we_callV_int (p := 64) (k' := 5) (a := [.ref 95, .ref (sp_S + 21), .int 0, .int 99]) (rr := [.int (nI (59 + 2 * row + 1)), .ref 99]) dX12_rivalLine_61 rfl rfl rfl rfl (rc_of rfl rfl (by decide) ⟨rfl, by decide⟩) (Nat.le_of_ble_eq_true rfl) (Nat.le_of_ble_eq_true rfl) (by decide) e3 (Or.inl rfl) rfl ?_
      refine wf_iast (n := 276) (i := (59 + 2 * row + 1)) (p := 65) dX12_rivalLine_64 rfl (by decide) (in_nJ (by omega) (by decide)) (nI_cl (by omega)) rfl ?_
      refine we_aload_n (p := 66) dX12_rivalLine_65 rfl rfl ?_
      refine wf_getI (c := 11) (j := 13) (n := 37) (v := 0) (p := 69) dX12_rivalLine_66 rfl rfl (by decide) (by decide) (Or.inr rfl) ((lM.tk (S := (pAv T n (pSt 10 row (nI (zV (pFn T n 2 S))) (pFn T n 2 S)))) ((lM.nx (S := (pFn T n 2 S)) (lM.fn hl f1 z1 t1) f2 r2).sr (j := 10) (v := nI (zV (pFn T n 2 S))) (by decide) (by decide) (show row < 8 by omega) (by intro x hx; simp at hx)) f3 z3 t3).sr (j := 11) (v := nI (zV (pTk T n 19 0 99 (pAv T n (pSt 10 row (nI (zV (pFn T n 2 S))) (pFn T n 2 S)))))) (by decide) (by decide) (show row < 8 by omega) (by intro x hx; simp at hx; subst hx; exact ⟨by decide, by decide, (show row < 8 by omega)⟩)).2.2.1.2.2.2.1 rfl ?_
      refine we_if_ne (t := 82) (p := 72) dX12_rivalLine_69 (by decide) rfl rfl (fun hc69 => absurd (by decide) hc69) (fun hc69 => ?_)
      refine we_aload_n (p := 73) dX12_rivalLine_72 rfl rfl ?_
      refine we_getR (c := 11) (j := 16) (n := 37) (b := 99) (p := 76) dX12_rivalLine_73 rfl rfl (by decide) (by decide) rfl (r_95_16 hF) rfl ?_
      refine we_iconst (v := 5) (p := 77) dX12_rivalLine_76 (by decide) rfl ?_
      refine we_dup2 (p := 78) dX12_rivalLine_77 rfl ?_
      refine wf_iald (n := 276) (i := 5) (v := nI row) (p := 79) dX12_rivalLine_78 rfl (by decide) (by decide) (by decide) (((lM.tk (S := (pAv T n (pSt 10 row (nI (zV (pFn T n 2 S))) (pFn T n 2 S)))) ((lM.nx (S := (pFn T n 2 S)) (lM.fn hl f1 z1 t1) f2 r2).sr (j := 10) (v := nI (zV (pFn T n 2 S))) (by decide) (by decide) (show row < 8 by omega) (by intro x hx; simp at hx)) f3 z3 t3).sr (j := 11) (v := nI (zV (pTk T n 19 0 99 (pAv T n (pSt 10 row (nI (zV (pFn T n 2 S))) (pFn T n 2 S)))))) (by decide) (by decide) (show row < 8 by omega) (by intro x hx; simp at hx; subst hx; exact ⟨by decide, by decide, (show row < 8 by omega)⟩)).cnt (by decide)) rfl ?_
      refine we_iconst (v := 1) (p := 80) dX12_rivalLine_79 (by decide) rfl ?_
      refine we_iadd (p := 81) dX12_rivalLine_80 rfl ?_
      rw [nI_1]
      refine wf_iast (n := 276) (i := 5) (p := 82) dX12_rivalLine_81 rfl (by decide) (by decide) (by decide) rfl ?_
      exact wv_ret dX12_rivalLine_82 rfl (RmL.ok (S := (pSt 11 row (nI (zV (pTk T n 19 0 99 (pAv T n (pSt 10 row (nI (zV (pFn T n 2 S))) (pFn T n 2 S)))))) (pTk T n 19 0 99 (pAv T n (pSt 10 row (nI (zV (pFn T n 2 S))) (pFn T n 2 S)))))) ((congrArg (fun z => pB z (pIn 3)) (show pRiv T n row S = (pSt 11 row (nI (zV (pTk T n 19 0 99 (pAv T n (pSt 10 row (nI (zV (pFn T n 2 S))) (pFn T n 2 S)))))) (pTk T n 19 0 99 (pAv T n (pSt 10 row (nI (zV (pFn T n 2 S))) (pFn T n 2 S))))) from by
      unfold pRiv
      first | (rw [pB_y (S := (pFn T n 2 S)) z1, pB_y (S := (pTk T n 19 0 99 (pAv T n (pSt 10 row (nI (zV (pFn T n 2 S))) (pFn T n 2 S))))) z3]; done) | (rw [pB_y (S := (pFn T n 2 S)) z1, pB_y (S := (pTk T n 19 0 99 (pAv T n (pSt 10 row (nI (zV (pFn T n 2 S))) (pFn T n 2 S))))) z3]; rfl))).trans (pB_y ((lM.tk (S := (pAv T n (pSt 10 row (nI (zV (pFn T n 2 S))) (pFn T n 2 S)))) ((lM.nx (S := (pFn T n 2 S)) (lM.fn hl f1 z1 t1) f2 r2).sr (j := 10) (v := nI (zV (pFn T n 2 S))) (by decide) (by decide) (show row < 8 by omega) (by intro x hx; simp at hx)) f3 z3 t3).sr (j := 11) (v := nI (zV (pTk T n 19 0 99 (pAv T n (pSt 10 row (nI (zV (pFn T n 2 S))) (pFn T n 2 S)))))) (by decide) (by decide) (show row < 8 by omega) (by intro x hx; simp at hx; subst hx; exact ⟨by decide, by decide, (show row < 8 by omega)⟩)).2.1)) ((lM.tk (S := (pAv T n (pSt 10 row (nI (zV (pFn T n 2 S))) (pFn T n 2 S)))) ((lM.nx (S := (pFn T n 2 S)) (lM.fn hl f1 z1 t1) f2 r2).sr (j := 10) (v := nI (zV (pFn T n 2 S))) (by decide) (by decide) (show row < 8 by omega) (by intro x hx; simp at hx)) f3 z3 t3).sr (j := 11) (v := nI (zV (pTk T n 19 0 99 (pAv T n (pSt 10 row (nI (zV (pFn T n 2 S))) (pFn T n 2 S)))))) (by decide) (by decide) (show row < 8 by omega) (by intro x hx; simp at hx; subst hx; exact ⟨by decide, by decide, (show row < 8 by omega)⟩)) (by decide) (show row < 8 by omega) (by decide) rfl)
    · skip
      refine we_callV_int (p := 64) (k' := 5) (a := [.ref 95, .ref (sp_S + 21), .int 0, .int 99]) (rr := [.int (nI (59 + 2 * row + 1)), .ref 99]) dX12_rivalLine_61 rfl rfl rfl rfl (rc_of rfl rfl (by decide) ⟨rfl, by decide⟩) (Nat.le_of_ble_eq_true rfl) (Nat.le_of_ble_eq_true rfl) (by decide) e3 (Or.inl rfl) rfl ?_
      refine wf_iast (n := 276) (i := (59 + 2 * row + 1)) (p := 65) dX12_rivalLine_64 rfl (by decide) (in_nJ (by omega) (by decide)) (nI_cl (by omega)) rfl ?_
      refine we_aload_n (p := 66) dX12_rivalLine_65 rfl rfl ?_
      refine wf_getI (c := 11) (j := 13) (n := 37) (v := 1) (p := 69) dX12_rivalLine_66 rfl rfl (by decide) (by decide) (Or.inr rfl) (((((lM.nx (S := (pFn T n 2 S)) (lM.fn hl f1 z1 t1) f2 r2).sr (j := 10) (v := nI (zV (pFn T n 2 S))) (by decide) (by decide) (show row < 8 by omega) (by intro x hx; simp at hx)).no f3 z3 g3).u)).2.2.1 rfl ?_
      refine we_if_ne (t := 82) (p := 72) dX12_rivalLine_69 (by decide) rfl rfl (fun hc69 => ?_) (fun hc69 => absurd hc69 (by decide))
      exact wv_ret dX12_rivalLine_82 rfl (RmL.no (X := (pTk T n 19 0 99 (pAv T n (pSt 10 row (nI (zV (pFn T n 2 S))) (pFn T n 2 S))))) ((congrArg (fun z => pB z (pIn 3)) (show pRiv T n row S = (pTk T n 19 0 99 (pAv T n (pSt 10 row (nI (zV (pFn T n 2 S))) (pFn T n 2 S)))) from by
      unfold pRiv
      first | (rw [pB_y (S := (pFn T n 2 S)) z1, pB_n (S := (pTk T n 19 0 99 (pAv T n (pSt 10 row (nI (zV (pFn T n 2 S))) (pFn T n 2 S))))) z3]; done) | (rw [pB_y (S := (pFn T n 2 S)) z1, pB_n (S := (pTk T n 19 0 99 (pAv T n (pSt 10 row (nI (zV (pFn T n 2 S))) (pFn T n 2 S))))) z3]; rfl))).trans (pB_n (S := (pTk T n 19 0 99 (pAv T n (pSt 10 row (nI (zV (pFn T n 2 S))) (pFn T n 2 S))))) z3)) ((((lM.nx (S := (pFn T n 2 S)) (lM.fn hl f1 z1 t1) f2 r2).sr (j := 10) (v := nI (zV (pFn T n 2 S))) (by decide) (by decide) (show row < 8 by omega) (by intro x hx; simp at hx)).no f3 z3 g3).u))
  · skip
    refine we_callV_int (p := 28) (k' := 4) (a := [.ref 95, .int 6, .int 13]) (rr := []) dX12_rivalLine_25 rfl rfl rfl rfl (rc_of rfl rfl (by decide) ⟨rfl, by decide⟩) (Nat.le_of_ble_eq_true rfl) (Nat.le_of_ble_eq_true rfl) (by decide) e1 (Or.inl rfl) rfl ?_
    refine we_istore_n (ls1 := [.ref 95, .int (nI (59 + 2 * row)), .int 0]) (p := 29) dX12_rivalLine_28 rfl rfl ?_
    refine we_aload_n (p := 30) dX12_rivalLine_29 rfl rfl ?_
    refine wf_getI (c := 11) (j := 13) (n := 37) (v := 1) (p := 33) dX12_rivalLine_30 rfl rfl (by decide) (by decide) (Or.inr rfl) ((hl.no f1 z1 g1)).2.2.1 rfl ?_
    refine we_if_eq (t := 37) (p := 36) dX12_rivalLine_33 (by decide) rfl rfl (fun hc33 => absurd hc33 (by decide)) (fun hc33 => ?_)
    exact wv_ret dX12_rivalLine_36 rfl (RmL.no (X := (pFn T n 2 S)) ((congrArg (fun z => pB z (pIn 3)) (show pRiv T n row S = (pFn T n 2 S) from by
      unfold pRiv
      first | (rw [pB_n (S := (pFn T n 2 S)) z1]; done) | (rw [pB_n (S := (pFn T n 2 S)) z1]; rfl))).trans (pB_n (S := (pFn T n 2 S)) z1)) (hl.no f1 z1 g1))
set_option maxRecDepth 10000 in
theorem y_letterLine {I : Nat → Nat → Int32} {J : Nat → Nat → Int64} {F : Nat → Nat → Option Nat} {nc ns : Nat} {T : Nat → Nat} {n : Nat} {S : pZ} (hF : RFok F) {row : Nat} (hl : lM T n S I I 4 row []) (hrow : row < 6) : Ew 7 mX12_letterLine 0 [.ref 95, .null] [] ((SH, nc, ns), I, J, F) (RmL nc ns T n I J F (pB (pLet T n row S) (pIn 4))) := by
  refine we_aload_n (p := 1) dX12_letterLine_0 rfl rfl ?_
  refine wf_getI (c := 11) (j := 13) (n := 37) (v := 0) (p := 4) dX12_letterLine_1 rfl rfl (by decide) (by decide) (Or.inr rfl) hl.2.2.1.2.2.2.1 rfl ?_
  refine we_if_eq (t := 8) (p := 7) dX12_letterLine_4 (by decide) rfl rfl (fun hc4 => ?_) (fun hc4 => absurd (by decide) hc4)
  refine we_bipush (v := 75) (p := 10) dX12_letterLine_8 (by decide) rfl ?_
  refine we_iconst (v := 2) (p := 11) dX12_letterLine_10 (by decide) rfl ?_
  refine we_aload_n (p := 12) dX12_letterLine_11 rfl rfl ?_
  refine we_getR (c := 11) (j := 16) (n := 37) (b := 99) (p := 15) dX12_letterLine_12 rfl rfl (by decide) (by decide) rfl (r_95_16 hF) rfl ?_
  refine we_bipush (v := 6) (p := 17) dX12_letterLine_15 (by decide) rfl ?_
  refine wf_iald (n := 276) (i := 6) (v := nI row) (p := 18) dX12_letterLine_17 rfl (by decide) (by decide) (by decide) (hl.cnt (by decide)) rfl ?_
  refine we_imul (p := 19) dX12_letterLine_18 rfl ?_
  refine we_iadd (p := 20) dX12_letterLine_19 rfl ?_
  rw [show (75 + 2 * nI row : Int32) = nI (75 + 2 * row) from ixm (a := 75) (b := 2)]
  refine we_istore_n (ls1 := [.ref 95, .int (nI (75 + 2 * row))]) (p := 21) dX12_letterLine_20 rfl rfl ?_
  refine we_aload_n (p := 22) dX12_letterLine_21 rfl rfl ?_
  refine we_getR (c := 11) (j := 16) (n := 37) (b := 99) (p := 25) dX12_letterLine_22 rfl rfl (by decide) (by decide) rfl (r_95_16 hF) rfl ?_
  refine we_iload_n (p := 26) dX12_letterLine_25 rfl rfl ?_
  refine we_aload_n (p := 27) dX12_letterLine_26 rfl rfl ?_
  obtain ⟨_, _, e1, I1, rfl, f1, ⟨z1, rfl, t1⟩ | ⟨z1, rfl, g1⟩⟩ := y_harbourPassed (S := S) hF hl.2.2.1 hl.2.1 hl.2.2.2.1
  · skip
    refine we_callV_int (p := 30) (k' := 6) (a := [.ref 95]) (rr := [.int (nI (75 + 2 * row)), .ref 99]) dX12_letterLine_27 rfl rfl rfl rfl (rc_of rfl rfl (by decide) ⟨rfl, by decide⟩) (Nat.le_of_ble_eq_true rfl) (Nat.le_of_ble_eq_true rfl) (by decide) e1 (Or.inl rfl) rfl ?_
    refine wf_iast (n := 276) (i := (75 + 2 * row)) (p := 31) dX12_letterLine_30 rfl (by decide) (in_nJ (by omega) (by decide)) (nI_cl (by omega)) rfl ?_
    refine we_aload_n (p := 32) dX12_letterLine_31 rfl rfl ?_
    refine we_getR (c := 11) (j := 16) (n := 37) (b := 99) (p := 35) dX12_letterLine_32 rfl rfl (by decide) (by decide) rfl (r_95_16 hF) rfl ?_
    refine we_iload_n (p := 36) dX12_letterLine_35 rfl rfl ?_
    refine we_iconst (v := 1) (p := 37) dX12_letterLine_36 (by decide) rfl ?_
    refine we_iadd (p := 38) dX12_letterLine_37 rfl ?_
    rw [show (nI (75 + 2 * row) + 1 : Int32) = nI (75 + 2 * row + 1) from nI_add (a := 75 + 2 * row) (b := 1)]
    refine we_aload_n (p := 39) dX12_letterLine_38 rfl rfl ?_
    refine we_ldcwS (j := 22) (p := 42) dX12_letterLine_39 rfl rfl rfl ?_
    refine we_iconst (v := 1) (p := 43) dX12_letterLine_42 (by decide) rfl ?_
    refine we_iconst (v := 5) (p := 44) dX12_letterLine_43 (by decide) rfl ?_
    obtain ⟨_, _, e2, I2, rfl, f2, ⟨z2, rfl, t2⟩ | ⟨z2, rfl, g2⟩⟩ := y_afterW (S := (pAv T n (pSt 12 row (nI (zV (pFn T n 0 S))) (pFn T n 0 S)))) (j := 22) (w := 20) (lo := 1) (hi := 5) rfl hF ((lM.fa (S := S) hl f1 z1 t1).sr (j := 12) (v := nI (zV (pFn T n 0 S))) (by decide) (by decide) (show row < 6 by omega) (by intro x hx; simp at hx)).2.2.1 ((lM.fa (S := S) hl f1 z1 t1).sr (j := 12) (v := nI (zV (pFn T n 0 S))) (by decide) (by decide) (show row < 6 by omega) (by intro x hx; simp at hx)).2.1 (by decide) (by decide) (by decide) (by decide)
    · skip
      refine we_callV_int (p := 47) (k' := 5) (a := [.ref 95, .ref (sp_S + 22), .int 1, .int 5]) (rr := [.int (nI (75 + 2 * row + 1)), .ref 99]) dX12_letterLine_44 rfl rfl rfl rfl (rc_of rfl rfl (by decide) ⟨rfl, by decide⟩) (Nat.le_of_ble_eq_true rfl) (Nat.le_of_ble_eq_true rfl) (by decide) e2 (Or.inl rfl) rfl ?_
      refine wf_iast (n := 276) (i := (75 + 2 * row + 1)) (p := 48) dX12_letterLine_47 rfl (by decide) (in_nJ (by omega) (by decide)) (nI_cl (by omega)) rfl ?_
      refine we_aload_n (p := 49) dX12_letterLine_48 rfl rfl ?_
      refine wf_getI (c := 11) (j := 13) (n := 37) (v := 0) (p := 52) dX12_letterLine_49 rfl rfl (by decide) (by decide) (Or.inr rfl) ((lM.tk (S := (pAv T n (pSt 12 row (nI (zV (pFn T n 0 S))) (pFn T n 0 S)))) ((lM.fa (S := S) hl f1 z1 t1).sr (j := 12) (v := nI (zV (pFn T n 0 S))) (by decide) (by decide) (show row < 6 by omega) (by intro x hx; simp at hx)) f2 z2 t2).sr (j := 13) (v := nI (zV (pTk T n 20 1 5 (pAv T n (pSt 12 row (nI (zV (pFn T n 0 S))) (pFn T n 0 S)))))) (by decide) (by decide) (show row < 6 by omega) (by intro x hx; simp at hx; subst hx; exact ⟨by decide, by decide, (show row < 6 by omega)⟩)).2.2.1.2.2.2.1 rfl ?_
      refine we_if_ne (t := 66) (p := 55) dX12_letterLine_52 (by decide) rfl rfl (fun hc52 => absurd (by decide) hc52) (fun hc52 => ?_)
      refine we_aload_n (p := 56) dX12_letterLine_55 rfl rfl ?_
      refine we_getR (c := 11) (j := 16) (n := 37) (b := 99) (p := 59) dX12_letterLine_56 rfl rfl (by decide) (by decide) rfl (r_95_16 hF) rfl ?_
      refine we_bipush (v := 6) (p := 61) dX12_letterLine_59 (by decide) rfl ?_
      refine we_dup2 (p := 62) dX12_letterLine_61 rfl ?_
      refine wf_iald (n := 276) (i := 6) (v := nI row) (p := 63) dX12_letterLine_62 rfl (by decide) (by decide) (by decide) (((lM.tk (S := (pAv T n (pSt 12 row (nI (zV (pFn T n 0 S))) (pFn T n 0 S)))) ((lM.fa (S := S) hl f1 z1 t1).sr (j := 12) (v := nI (zV (pFn T n 0 S))) (by decide) (by decide) (show row < 6 by omega) (by intro x hx; simp at hx)) f2 z2 t2).sr (j := 13) (v := nI (zV (pTk T n 20 1 5 (pAv T n (pSt 12 row (nI (zV (pFn T n 0 S))) (pFn T n 0 S)))))) (by decide) (by decide) (show row < 6 by omega) (by intro x hx; simp at hx; subst hx; exact ⟨by decide, by decide, (show row < 6 by omega)⟩)).cnt (by decide)) rfl ?_
      refine we_iconst (v := 1) (p := 64) dX12_letterLine_63 (by decide) rfl ?_
      refine we_iadd (p := 65) dX12_letterLine_64 rfl ?_
      rw [nI_1]
      refine wf_iast (n := 276) (i := 6) (p := 66) dX12_letterLine_65 rfl (by decide) (by decide) (by decide) rfl ?_
      exact wv_ret dX12_letterLine_66 rfl (RmL.ok (S := (pSt 13 row (nI (zV (pTk T n 20 1 5 (pAv T n (pSt 12 row (nI (zV (pFn T n 0 S))) (pFn T n 0 S)))))) (pTk T n 20 1 5 (pAv T n (pSt 12 row (nI (zV (pFn T n 0 S))) (pFn T n 0 S)))))) ((congrArg (fun z => pB z (pIn 4)) (show pLet T n row S = (pSt 13 row (nI (zV (pTk T n 20 1 5 (pAv T n (pSt 12 row (nI (zV (pFn T n 0 S))) (pFn T n 0 S)))))) (pTk T n 20 1 5 (pAv T n (pSt 12 row (nI (zV (pFn T n 0 S))) (pFn T n 0 S))))) from by
      unfold pLet
      first | (rw [pB_y (S := (pFn T n 0 S)) z1, pB_y (S := (pTk T n 20 1 5 (pAv T n (pSt 12 row (nI (zV (pFn T n 0 S))) (pFn T n 0 S))))) z2]; done) | (rw [pB_y (S := (pFn T n 0 S)) z1, pB_y (S := (pTk T n 20 1 5 (pAv T n (pSt 12 row (nI (zV (pFn T n 0 S))) (pFn T n 0 S))))) z2]; rfl))).trans (pB_y ((lM.tk (S := (pAv T n (pSt 12 row (nI (zV (pFn T n 0 S))) (pFn T n 0 S)))) ((lM.fa (S := S) hl f1 z1 t1).sr (j := 12) (v := nI (zV (pFn T n 0 S))) (by decide) (by decide) (show row < 6 by omega) (by intro x hx; simp at hx)) f2 z2 t2).sr (j := 13) (v := nI (zV (pTk T n 20 1 5 (pAv T n (pSt 12 row (nI (zV (pFn T n 0 S))) (pFn T n 0 S)))))) (by decide) (by decide) (show row < 6 by omega) (by intro x hx; simp at hx; subst hx; exact ⟨by decide, by decide, (show row < 6 by omega)⟩)).2.1)) ((lM.tk (S := (pAv T n (pSt 12 row (nI (zV (pFn T n 0 S))) (pFn T n 0 S)))) ((lM.fa (S := S) hl f1 z1 t1).sr (j := 12) (v := nI (zV (pFn T n 0 S))) (by decide) (by decide) (show row < 6 by omega) (by intro x hx; simp at hx)) f2 z2 t2).sr (j := 13) (v := nI (zV (pTk T n 20 1 5 (pAv T n (pSt 12 row (nI (zV (pFn T n 0 S))) (pFn T n 0 S)))))) (by decide) (by decide) (show row < 6 by omega) (by intro x hx; simp at hx; subst hx; exact ⟨by decide, by decide, (show row < 6 by omega)⟩)) (by decide) (show row < 6 by omega) (by decide) rfl)
    · skip
      refine we_callV_int (p := 47) (k' := 5) (a := [.ref 95, .ref (sp_S + 22), .int 1, .int 5]) (rr := [.int (nI (75 + 2 * row + 1)), .ref 99]) dX12_letterLine_44 rfl rfl rfl rfl (rc_of rfl rfl (by decide) ⟨rfl, by decide⟩) (Nat.le_of_ble_eq_true rfl) (Nat.le_of_ble_eq_true rfl) (by decide) e2 (Or.inl rfl) rfl ?_
      refine wf_iast (n := 276) (i := (75 + 2 * row + 1)) (p := 48) dX12_letterLine_47 rfl (by decide) (in_nJ (by omega) (by decide)) (nI_cl (by omega)) rfl ?_
      refine we_aload_n (p := 49) dX12_letterLine_48 rfl rfl ?_
      refine wf_getI (c := 11) (j := 13) (n := 37) (v := 1) (p := 52) dX12_letterLine_49 rfl rfl (by decide) (by decide) (Or.inr rfl) (((((lM.fa (S := S) hl f1 z1 t1).sr (j := 12) (v := nI (zV (pFn T n 0 S))) (by decide) (by decide) (show row < 6 by omega) (by intro x hx; simp at hx)).no f2 z2 g2).u)).2.2.1 rfl ?_
      refine we_if_ne (t := 66) (p := 55) dX12_letterLine_52 (by decide) rfl rfl (fun hc52 => ?_) (fun hc52 => absurd hc52 (by decide))
      exact wv_ret dX12_letterLine_66 rfl (RmL.no (X := (pTk T n 20 1 5 (pAv T n (pSt 12 row (nI (zV (pFn T n 0 S))) (pFn T n 0 S))))) ((congrArg (fun z => pB z (pIn 4)) (show pLet T n row S = (pTk T n 20 1 5 (pAv T n (pSt 12 row (nI (zV (pFn T n 0 S))) (pFn T n 0 S)))) from by
      unfold pLet
      first | (rw [pB_y (S := (pFn T n 0 S)) z1, pB_n (S := (pTk T n 20 1 5 (pAv T n (pSt 12 row (nI (zV (pFn T n 0 S))) (pFn T n 0 S))))) z2]; done) | (rw [pB_y (S := (pFn T n 0 S)) z1, pB_n (S := (pTk T n 20 1 5 (pAv T n (pSt 12 row (nI (zV (pFn T n 0 S))) (pFn T n 0 S))))) z2]; rfl))).trans (pB_n (S := (pTk T n 20 1 5 (pAv T n (pSt 12 row (nI (zV (pFn T n 0 S))) (pFn T n 0 S))))) z2)) ((((lM.fa (S := S) hl f1 z1 t1).sr (j := 12) (v := nI (zV (pFn T n 0 S))) (by decide) (by decide) (show row < 6 by omega) (by intro x hx; simp at hx)).no f2 z2 g2).u))
  · skip
    refine we_callV_int (p := 30) (k' := 6) (a := [.ref 95]) (rr := [.int (nI (75 + 2 * row)), .ref 99]) dX12_letterLine_27 rfl rfl rfl rfl (rc_of rfl rfl (by decide) ⟨rfl, by decide⟩) (Nat.le_of_ble_eq_true rfl) (Nat.le_of_ble_eq_true rfl) (by decide) e1 (Or.inl rfl) rfl ?_
    refine wf_iast (n := 276) (i := (75 + 2 * row)) (p := 31) dX12_letterLine_30 rfl (by decide) (in_nJ (by omega) (by decide)) (nI_cl (by omega)) rfl ?_
    refine we_aload_n (p := 32) dX12_letterLine_31 rfl rfl ?_
    refine we_getR (c := 11) (j := 16) (n := 37) (b := 99) (p := 35) dX12_letterLine_32 rfl rfl (by decide) (by decide) rfl (r_95_16 hF) rfl ?_
    refine we_iload_n (p := 36) dX12_letterLine_35 rfl rfl ?_
    refine we_iconst (v := 1) (p := 37) dX12_letterLine_36 (by decide) rfl ?_
    refine we_iadd (p := 38) dX12_letterLine_37 rfl ?_
    rw [show (nI (75 + 2 * row) + 1 : Int32) = nI (75 + 2 * row + 1) from nI_add (a := 75 + 2 * row) (b := 1)]
    refine we_aload_n (p := 39) dX12_letterLine_38 rfl rfl ?_
    refine we_ldcwS (j := 22) (p := 42) dX12_letterLine_39 rfl rfl rfl ?_
    refine we_iconst (v := 1) (p := 43) dX12_letterLine_42 (by decide) rfl ?_
    refine we_iconst (v := 5) (p := 44) dX12_letterLine_43 (by decide) rfl ?_
    refine we_callV_int (p := 47) (k' := 5) (a := [.ref 95, .ref (sp_S + 22), .int 1, .int 5]) (rr := [.int (nI (75 + 2 * row + 1)), .ref 99]) dX12_letterLine_44 rfl rfl rfl rfl (rc_of rfl rfl (by decide) ⟨rfl, by decide⟩) (Nat.le_of_ble_eq_true rfl) (Nat.le_of_ble_eq_true rfl) (by decide) (y_after_f hF (((hl.no f1 z1 g1).u)).2.2.1) (Or.inl rfl) rfl ?_
    refine wf_iast (n := 276) (i := (75 + 2 * row + 1)) (p := 48) dX12_letterLine_47 rfl (by decide) (in_nJ (by omega) (by decide)) (nI_cl (by omega)) rfl ?_
    refine we_aload_n (p := 49) dX12_letterLine_48 rfl rfl ?_
    refine wf_getI (c := 11) (j := 13) (n := 37) (v := 1) (p := 52) dX12_letterLine_49 rfl rfl (by decide) (by decide) (Or.inr rfl) ((((hl.no f1 z1 g1).u).u)).2.2.1 rfl ?_
    refine we_if_ne (t := 66) (p := 55) dX12_letterLine_52 (by decide) rfl rfl (fun hc52 => ?_) (fun hc52 => absurd hc52 (by decide))
    exact wv_ret dX12_letterLine_66 rfl (RmL.no (X := (pFn T n 0 S)) ((congrArg (fun z => pB z (pIn 4)) (show pLet T n row S = (pFn T n 0 S) from by
      unfold pLet
      first | (rw [pB_n (S := (pFn T n 0 S)) z1]; done) | (rw [pB_n (S := (pFn T n 0 S)) z1]; rfl))).trans (pB_n (S := (pFn T n 0 S)) z1)) (((hl.no f1 z1 g1).u).u))
set_option maxRecDepth 10000 in
theorem y_handLine {I : Nat → Nat → Int32} {J : Nat → Nat → Int64} {F : Nat → Nat → Option Nat} {nc ns : Nat} {T : Nat → Nat} {n : Nat} {S : pZ} (hF : RFok F) {row : Nat} (hl : lM T n S I I 5 row []) (hrow : row < 5) (hfree : ∀ i, i < zC S → ¬ slt (zN S i) = slO 5 row) : Ew 6 mX12_handLine 0 [.ref 95, .null] [] ((SH, nc, ns), I, J, F) (RmL nc ns T n I J F (pB (pHan T n row S) (pIn 5))) := by
  refine we_aload_n (p := 1) dX12_handLine_0 rfl rfl ?_
  refine wf_getI (c := 11) (j := 13) (n := 37) (v := 0) (p := 4) dX12_handLine_1 rfl rfl (by decide) (by decide) (Or.inr rfl) hl.2.2.1.2.2.2.1 rfl ?_
  refine we_if_eq (t := 8) (p := 7) dX12_handLine_4 (by decide) rfl rfl (fun hc4 => ?_) (fun hc4 => absurd (by decide) hc4)
  refine we_bipush (v := 87) (p := 10) dX12_handLine_8 (by decide) rfl ?_
  refine we_iconst (v := 2) (p := 11) dX12_handLine_10 (by decide) rfl ?_
  refine we_aload_n (p := 12) dX12_handLine_11 rfl rfl ?_
  refine we_getR (c := 11) (j := 16) (n := 37) (b := 99) (p := 15) dX12_handLine_12 rfl rfl (by decide) (by decide) rfl (r_95_16 hF) rfl ?_
  refine we_bipush (v := 7) (p := 17) dX12_handLine_15 (by decide) rfl ?_
  refine wf_iald (n := 276) (i := 7) (v := nI row) (p := 18) dX12_handLine_17 rfl (by decide) (by decide) (by decide) (hl.cnt (by decide)) rfl ?_
  refine we_imul (p := 19) dX12_handLine_18 rfl ?_
  refine we_iadd (p := 20) dX12_handLine_19 rfl ?_
  rw [show (87 + 2 * nI row : Int32) = nI (87 + 2 * row) from ixm (a := 87) (b := 2)]
  refine we_istore_n (ls1 := [.ref 95, .int (nI (87 + 2 * row))]) (p := 21) dX12_handLine_20 rfl rfl ?_
  refine we_aload_n (p := 22) dX12_handLine_21 rfl rfl ?_
  refine we_bipush (v := 14) (p := 24) dX12_handLine_22 (by decide) rfl ?_
  refine we_aload_n (p := 25) dX12_handLine_24 rfl rfl ?_
  refine we_getR (c := 11) (j := 16) (n := 37) (b := 99) (p := 28) dX12_handLine_25 rfl rfl (by decide) (by decide) rfl (r_95_16 hF) rfl ?_
  refine we_bipush (v := 7) (p := 30) dX12_handLine_28 (by decide) rfl ?_
  refine wf_iald (n := 276) (i := 7) (v := nI row) (p := 31) dX12_handLine_30 rfl (by decide) (by decide) (by decide) (hl.cnt (by decide)) rfl ?_
  refine we_iadd (p := 32) dX12_handLine_31 rfl ?_
  rw [show (14 + nI row : Int32) = nI (14 + row) from nI_add (a := 14) (b := row)]
  obtain ⟨_, _, e1, I1, rfl, f1, ⟨z1, rfl, t1⟩ | ⟨z1, rfl, g1⟩⟩ := y_newName (S := S) (so := 5) (row := row) (t := (14 + row)) hF hl.2.2.1 hl.2.1 hl.2.2.2.1 rfl (by unfold rwO; omega) hfree hl.2.2.2.2.1
  · skip
    refine we_callV_v (p := 35) (k' := 4) (a := [.ref 95, .int (nI (14 + row))]) (rr := []) dX12_handLine_32 rfl rfl rfl rfl (rc_of rfl rfl (by decide) ⟨rfl, by decide⟩) (Nat.le_of_ble_eq_true rfl) (Nat.le_of_ble_eq_true rfl) (by decide) e1 (Or.inl rfl) rfl ?_
    refine we_aload_n (p := 36) dX12_handLine_35 rfl rfl ?_
    refine we_getR (c := 11) (j := 16) (n := 37) (b := 99) (p := 39) dX12_handLine_36 rfl rfl (by decide) (by decide) rfl (r_95_16 hF) rfl ?_
    refine we_iload_n (p := 40) dX12_handLine_39 rfl rfl ?_
    refine we_aload_n (p := 41) dX12_handLine_40 rfl rfl ?_
    refine we_ldcwS (j := 23) (p := 44) dX12_handLine_41 rfl rfl rfl ?_
    refine we_iconst (v := 0) (p := 45) dX12_handLine_44 (by decide) rfl ?_
    refine we_bipush (v := 60) (p := 47) dX12_handLine_45 (by decide) rfl ?_
    obtain ⟨_, _, e2, I2, rfl, f2, ⟨z2, rfl, t2⟩ | ⟨z2, rfl, g2⟩⟩ := y_afterW (S := (pNw T n 5 row S)) (j := 23) (w := 21) (lo := 0) (hi := 60) rfl hF (lM.nw hl f1 z1 t1).2.2.1 (lM.nw hl f1 z1 t1).2.1 (by decide) (by decide) (by decide) (by decide)
    · skip
      refine we_callV_int (p := 50) (k' := 5) (a := [.ref 95, .ref (sp_S + 23), .int 0, .int 60]) (rr := [.int (nI (87 + 2 * row)), .ref 99]) dX12_handLine_47 rfl rfl rfl rfl (rc_of rfl rfl (by decide) ⟨rfl, by decide⟩) (Nat.le_of_ble_eq_true rfl) (Nat.le_of_ble_eq_true rfl) (by decide) e2 (Or.inl rfl) rfl ?_
      refine wf_iast (n := 276) (i := (87 + 2 * row)) (p := 51) dX12_handLine_50 rfl (by decide) (in_nJ (by omega) (by decide)) (nI_cl (by omega)) rfl ?_
      refine we_aload_n (p := 52) dX12_handLine_51 rfl rfl ?_
      refine we_getR (c := 11) (j := 16) (n := 37) (b := 99) (p := 55) dX12_handLine_52 rfl rfl (by decide) (by decide) rfl (r_95_16 hF) rfl ?_
      refine we_iload_n (p := 56) dX12_handLine_55 rfl rfl ?_
      refine we_iconst (v := 1) (p := 57) dX12_handLine_56 (by decide) rfl ?_
      refine we_iadd (p := 58) dX12_handLine_57 rfl ?_
      rw [show (nI (87 + 2 * row) + 1 : Int32) = nI (87 + 2 * row + 1) from nI_add (a := 87 + 2 * row) (b := 1)]
      refine we_aload_n (p := 59) dX12_handLine_58 rfl rfl ?_
      refine we_ldcwS (j := 24) (p := 62) dX12_handLine_59 rfl rfl rfl ?_
      refine we_iconst (v := 1) (p := 63) dX12_handLine_62 (by decide) rfl ?_
      refine we_bipush (v := 9) (p := 65) dX12_handLine_63 (by decide) rfl ?_
      obtain ⟨_, _, e3, I3, rfl, f3, ⟨z3, rfl, t3⟩ | ⟨z3, rfl, g3⟩⟩ := y_afterW (S := (pSt 14 row (nI (zV (pTk T n 21 0 60 (pNw T n 5 row S)))) (pTk T n 21 0 60 (pNw T n 5 row S)))) (j := 24) (w := 22) (lo := 1) (hi := 9) rfl hF ((lM.tk (S := (pNw T n 5 row S)) (lM.nw hl f1 z1 t1) f2 z2 t2).sr (j := 14) (v := nI (zV (pTk T n 21 0 60 (pNw T n 5 row S)))) (by decide) (by decide) (show row < 5 by omega) (by intro x hx; simp at hx)).2.2.1 ((lM.tk (S := (pNw T n 5 row S)) (lM.nw hl f1 z1 t1) f2 z2 t2).sr (j := 14) (v := nI (zV (pTk T n 21 0 60 (pNw T n 5 row S)))) (by decide) (by decide) (show row < 5 by omega) (by intro x hx; simp at hx)).2.1 (by decide) (by decide) (by decide) (by decide)
      · skip
        refine we_callV_int (p := 68) (k' := 5) (a := [.ref 95, .ref (sp_S + 24), .int 1, .int 9]) (rr := [.int (nI (87 + 2 * row + 1)), .ref 99]) dX12_handLine_65 rfl rfl rfl rfl (rc_of rfl rfl (by decide) ⟨rfl, by decide⟩) (Nat.le_of_ble_eq_true rfl) (Nat.le_of_ble_eq_true rfl) (by decide) e3 (Or.inl rfl) rfl ?_
        refine wf_iast (n := 276) (i := (87 + 2 * row + 1)) (p := 69) dX12_handLine_68 rfl (by decide) (in_nJ (by omega) (by decide)) (nI_cl (by omega)) rfl ?_
        refine we_aload_n (p := 70) dX12_handLine_69 rfl rfl ?_
        refine wf_getI (c := 11) (j := 13) (n := 37) (v := 0) (p := 73) dX12_handLine_70 rfl rfl (by decide) (by decide) (Or.inr rfl) ((lM.tk (S := (pSt 14 row (nI (zV (pTk T n 21 0 60 (pNw T n 5 row S)))) (pTk T n 21 0 60 (pNw T n 5 row S)))) ((lM.tk (S := (pNw T n 5 row S)) (lM.nw hl f1 z1 t1) f2 z2 t2).sr (j := 14) (v := nI (zV (pTk T n 21 0 60 (pNw T n 5 row S)))) (by decide) (by decide) (show row < 5 by omega) (by intro x hx; simp at hx)) f3 z3 t3).sr (j := 15) (v := nI (zV (pTk T n 22 1 9 (pSt 14 row (nI (zV (pTk T n 21 0 60 (pNw T n 5 row S)))) (pTk T n 21 0 60 (pNw T n 5 row S)))))) (by decide) (by decide) (show row < 5 by omega) (by intro x hx; simp at hx; subst hx; exact ⟨by decide, by decide, (show row < 5 by omega)⟩)).2.2.1.2.2.2.1 rfl ?_
        refine we_if_ne (t := 87) (p := 76) dX12_handLine_73 (by decide) rfl rfl (fun hc73 => absurd (by decide) hc73) (fun hc73 => ?_)
        refine we_aload_n (p := 77) dX12_handLine_76 rfl rfl ?_
        refine we_getR (c := 11) (j := 16) (n := 37) (b := 99) (p := 80) dX12_handLine_77 rfl rfl (by decide) (by decide) rfl (r_95_16 hF) rfl ?_
        refine we_bipush (v := 7) (p := 82) dX12_handLine_80 (by decide) rfl ?_
        refine we_dup2 (p := 83) dX12_handLine_82 rfl ?_
        refine wf_iald (n := 276) (i := 7) (v := nI row) (p := 84) dX12_handLine_83 rfl (by decide) (by decide) (by decide) (((lM.tk (S := (pSt 14 row (nI (zV (pTk T n 21 0 60 (pNw T n 5 row S)))) (pTk T n 21 0 60 (pNw T n 5 row S)))) ((lM.tk (S := (pNw T n 5 row S)) (lM.nw hl f1 z1 t1) f2 z2 t2).sr (j := 14) (v := nI (zV (pTk T n 21 0 60 (pNw T n 5 row S)))) (by decide) (by decide) (show row < 5 by omega) (by intro x hx; simp at hx)) f3 z3 t3).sr (j := 15) (v := nI (zV (pTk T n 22 1 9 (pSt 14 row (nI (zV (pTk T n 21 0 60 (pNw T n 5 row S)))) (pTk T n 21 0 60 (pNw T n 5 row S)))))) (by decide) (by decide) (show row < 5 by omega) (by intro x hx; simp at hx; subst hx; exact ⟨by decide, by decide, (show row < 5 by omega)⟩)).cnt (by decide)) rfl ?_
        refine we_iconst (v := 1) (p := 85) dX12_handLine_84 (by decide) rfl ?_
        refine we_iadd (p := 86) dX12_handLine_85 rfl ?_
        rw [nI_1]
        refine wf_iast (n := 276) (i := 7) (p := 87) dX12_handLine_86 rfl (by decide) (by decide) (by decide) rfl ?_
        exact wv_ret dX12_handLine_87 rfl (RmL.ok (S := (pSt 15 row (nI (zV (pTk T n 22 1 9 (pSt 14 row (nI (zV (pTk T n 21 0 60 (pNw T n 5 row S)))) (pTk T n 21 0 60 (pNw T n 5 row S)))))) (pTk T n 22 1 9 (pSt 14 row (nI (zV (pTk T n 21 0 60 (pNw T n 5 row S)))) (pTk T n 21 0 60 (pNw T n 5 row S)))))) ((congrArg (fun z => pB z (pIn 5)) (show pHan T n row S = (pSt 15 row (nI (zV (pTk T n 22 1 9 (pSt 14 row (nI (zV (pTk T n 21 0 60 (pNw T n 5 row S)))) (pTk T n 21 0 60 (pNw T n 5 row S)))))) (pTk T n 22 1 9 (pSt 14 row (nI (zV (pTk T n 21 0 60 (pNw T n 5 row S)))) (pTk T n 21 0 60 (pNw T n 5 row S))))) from by
      unfold pHan
      first | (rw [pB_y (S := (pNw T n 5 row S)) z1, pB_y (S := (pTk T n 21 0 60 (pNw T n 5 row S))) z2, pB_y (S := (pTk T n 22 1 9 (pSt 14 row (nI (zV (pTk T n 21 0 60 (pNw T n 5 row S)))) (pTk T n 21 0 60 (pNw T n 5 row S))))) z3]; done) | (rw [pB_y (S := (pNw T n 5 row S)) z1, pB_y (S := (pTk T n 21 0 60 (pNw T n 5 row S))) z2, pB_y (S := (pTk T n 22 1 9 (pSt 14 row (nI (zV (pTk T n 21 0 60 (pNw T n 5 row S)))) (pTk T n 21 0 60 (pNw T n 5 row S))))) z3]; rfl))).trans (pB_y ((lM.tk (S := (pSt 14 row (nI (zV (pTk T n 21 0 60 (pNw T n 5 row S)))) (pTk T n 21 0 60 (pNw T n 5 row S)))) ((lM.tk (S := (pNw T n 5 row S)) (lM.nw hl f1 z1 t1) f2 z2 t2).sr (j := 14) (v := nI (zV (pTk T n 21 0 60 (pNw T n 5 row S)))) (by decide) (by decide) (show row < 5 by omega) (by intro x hx; simp at hx)) f3 z3 t3).sr (j := 15) (v := nI (zV (pTk T n 22 1 9 (pSt 14 row (nI (zV (pTk T n 21 0 60 (pNw T n 5 row S)))) (pTk T n 21 0 60 (pNw T n 5 row S)))))) (by decide) (by decide) (show row < 5 by omega) (by intro x hx; simp at hx; subst hx; exact ⟨by decide, by decide, (show row < 5 by omega)⟩)).2.1)) ((lM.tk (S := (pSt 14 row (nI (zV (pTk T n 21 0 60 (pNw T n 5 row S)))) (pTk T n 21 0 60 (pNw T n 5 row S)))) ((lM.tk (S := (pNw T n 5 row S)) (lM.nw hl f1 z1 t1) f2 z2 t2).sr (j := 14) (v := nI (zV (pTk T n 21 0 60 (pNw T n 5 row S)))) (by decide) (by decide) (show row < 5 by omega) (by intro x hx; simp at hx)) f3 z3 t3).sr (j := 15) (v := nI (zV (pTk T n 22 1 9 (pSt 14 row (nI (zV (pTk T n 21 0 60 (pNw T n 5 row S)))) (pTk T n 21 0 60 (pNw T n 5 row S)))))) (by decide) (by decide) (show row < 5 by omega) (by intro x hx; simp at hx; subst hx; exact ⟨by decide, by decide, (show row < 5 by omega)⟩)) (by decide) (show row < 5 by omega) (by decide) rfl)
      · skip
        refine we_callV_int (p := 68) (k' := 5) (a := [.ref 95, .ref (sp_S + 24), .int 1, .int 9]) (rr := [.int (nI (87 + 2 * row + 1)), .ref 99]) dX12_handLine_65 rfl rfl rfl rfl (rc_of rfl rfl (by decide) ⟨rfl, by decide⟩) (Nat.le_of_ble_eq_true rfl) (Nat.le_of_ble_eq_true rfl) (by decide) e3 (Or.inl rfl) rfl ?_
        refine wf_iast (n := 276) (i := (87 + 2 * row + 1)) (p := 69) dX12_handLine_68 rfl (by decide) (in_nJ (by omega) (by decide)) (nI_cl (by omega)) rfl ?_
        refine we_aload_n (p := 70) dX12_handLine_69 rfl rfl ?_
        refine wf_getI (c := 11) (j := 13) (n := 37) (v := 1) (p := 73) dX12_handLine_70 rfl rfl (by decide) (by decide) (Or.inr rfl) (((((lM.tk (S := (pNw T n 5 row S)) (lM.nw hl f1 z1 t1) f2 z2 t2).sr (j := 14) (v := nI (zV (pTk T n 21 0 60 (pNw T n 5 row S)))) (by decide) (by decide) (show row < 5 by omega) (by intro x hx; simp at hx)).no f3 z3 g3).u)).2.2.1 rfl ?_
        refine we_if_ne (t := 87) (p := 76) dX12_handLine_73 (by decide) rfl rfl (fun hc73 => ?_) (fun hc73 => absurd hc73 (by decide))
        exact wv_ret dX12_handLine_87 rfl (RmL.no (X := (pTk T n 22 1 9 (pSt 14 row (nI (zV (pTk T n 21 0 60 (pNw T n 5 row S)))) (pTk T n 21 0 60 (pNw T n 5 row S))))) ((congrArg (fun z => pB z (pIn 5)) (show pHan T n row S = (pTk T n 22 1 9 (pSt 14 row (nI (zV (pTk T n 21 0 60 (pNw T n 5 row S)))) (pTk T n 21 0 60 (pNw T n 5 row S)))) from by
      unfold pHan
      first | (rw [pB_y (S := (pNw T n 5 row S)) z1, pB_y (S := (pTk T n 21 0 60 (pNw T n 5 row S))) z2, pB_n (S := (pTk T n 22 1 9 (pSt 14 row (nI (zV (pTk T n 21 0 60 (pNw T n 5 row S)))) (pTk T n 21 0 60 (pNw T n 5 row S))))) z3]; done) | (rw [pB_y (S := (pNw T n 5 row S)) z1, pB_y (S := (pTk T n 21 0 60 (pNw T n 5 row S))) z2, pB_n (S := (pTk T n 22 1 9 (pSt 14 row (nI (zV (pTk T n 21 0 60 (pNw T n 5 row S)))) (pTk T n 21 0 60 (pNw T n 5 row S))))) z3]; rfl))).trans (pB_n (S := (pTk T n 22 1 9 (pSt 14 row (nI (zV (pTk T n 21 0 60 (pNw T n 5 row S)))) (pTk T n 21 0 60 (pNw T n 5 row S))))) z3)) ((((lM.tk (S := (pNw T n 5 row S)) (lM.nw hl f1 z1 t1) f2 z2 t2).sr (j := 14) (v := nI (zV (pTk T n 21 0 60 (pNw T n 5 row S)))) (by decide) (by decide) (show row < 5 by omega) (by intro x hx; simp at hx)).no f3 z3 g3).u))
    · skip
      refine we_callV_int (p := 50) (k' := 5) (a := [.ref 95, .ref (sp_S + 23), .int 0, .int 60]) (rr := [.int (nI (87 + 2 * row)), .ref 99]) dX12_handLine_47 rfl rfl rfl rfl (rc_of rfl rfl (by decide) ⟨rfl, by decide⟩) (Nat.le_of_ble_eq_true rfl) (Nat.le_of_ble_eq_true rfl) (by decide) e2 (Or.inl rfl) rfl ?_
      refine wf_iast (n := 276) (i := (87 + 2 * row)) (p := 51) dX12_handLine_50 rfl (by decide) (in_nJ (by omega) (by decide)) (nI_cl (by omega)) rfl ?_
      refine we_aload_n (p := 52) dX12_handLine_51 rfl rfl ?_
      refine we_getR (c := 11) (j := 16) (n := 37) (b := 99) (p := 55) dX12_handLine_52 rfl rfl (by decide) (by decide) rfl (r_95_16 hF) rfl ?_
      refine we_iload_n (p := 56) dX12_handLine_55 rfl rfl ?_
      refine we_iconst (v := 1) (p := 57) dX12_handLine_56 (by decide) rfl ?_
      refine we_iadd (p := 58) dX12_handLine_57 rfl ?_
      rw [show (nI (87 + 2 * row) + 1 : Int32) = nI (87 + 2 * row + 1) from nI_add (a := 87 + 2 * row) (b := 1)]
      refine we_aload_n (p := 59) dX12_handLine_58 rfl rfl ?_
      refine we_ldcwS (j := 24) (p := 62) dX12_handLine_59 rfl rfl rfl ?_
      refine we_iconst (v := 1) (p := 63) dX12_handLine_62 (by decide) rfl ?_
      refine we_bipush (v := 9) (p := 65) dX12_handLine_63 (by decide) rfl ?_
      refine we_callV_int (p := 68) (k' := 5) (a := [.ref 95, .ref (sp_S + 24), .int 1, .int 9]) (rr := [.int (nI (87 + 2 * row + 1)), .ref 99]) dX12_handLine_65 rfl rfl rfl rfl (rc_of rfl rfl (by decide) ⟨rfl, by decide⟩) (Nat.le_of_ble_eq_true rfl) (Nat.le_of_ble_eq_true rfl) (by decide) (y_after_f hF ((((lM.nw hl f1 z1 t1).no f2 z2 g2).u)).2.2.1) (Or.inl rfl) rfl ?_
      refine wf_iast (n := 276) (i := (87 + 2 * row + 1)) (p := 69) dX12_handLine_68 rfl (by decide) (in_nJ (by omega) (by decide)) (nI_cl (by omega)) rfl ?_
      refine we_aload_n (p := 70) dX12_handLine_69 rfl rfl ?_
      refine wf_getI (c := 11) (j := 13) (n := 37) (v := 1) (p := 73) dX12_handLine_70 rfl rfl (by decide) (by decide) (Or.inr rfl) (((((lM.nw hl f1 z1 t1).no f2 z2 g2).u).u)).2.2.1 rfl ?_
      refine we_if_ne (t := 87) (p := 76) dX12_handLine_73 (by decide) rfl rfl (fun hc73 => ?_) (fun hc73 => absurd hc73 (by decide))
      exact wv_ret dX12_handLine_87 rfl (RmL.no (X := (pTk T n 21 0 60 (pNw T n 5 row S))) ((congrArg (fun z => pB z (pIn 5)) (show pHan T n row S = (pTk T n 21 0 60 (pNw T n 5 row S)) from by
      unfold pHan
      first | (rw [pB_y (S := (pNw T n 5 row S)) z1, pB_n (S := (pTk T n 21 0 60 (pNw T n 5 row S))) z2]; done) | (rw [pB_y (S := (pNw T n 5 row S)) z1, pB_n (S := (pTk T n 21 0 60 (pNw T n 5 row S))) z2]; rfl))).trans (pB_n (S := (pTk T n 21 0 60 (pNw T n 5 row S))) z2)) ((((lM.nw hl f1 z1 t1).no f2 z2 g2).u).u))
  · skip
    refine we_callV_v (p := 35) (k' := 4) (a := [.ref 95, .int (nI (14 + row))]) (rr := []) dX12_handLine_32 rfl rfl rfl rfl (rc_of rfl rfl (by decide) ⟨rfl, by decide⟩) (Nat.le_of_ble_eq_true rfl) (Nat.le_of_ble_eq_true rfl) (by decide) e1 (Or.inl rfl) rfl ?_
    refine we_aload_n (p := 36) dX12_handLine_35 rfl rfl ?_
    refine we_getR (c := 11) (j := 16) (n := 37) (b := 99) (p := 39) dX12_handLine_36 rfl rfl (by decide) (by decide) rfl (r_95_16 hF) rfl ?_
    refine we_iload_n (p := 40) dX12_handLine_39 rfl rfl ?_
    refine we_aload_n (p := 41) dX12_handLine_40 rfl rfl ?_
    refine we_ldcwS (j := 23) (p := 44) dX12_handLine_41 rfl rfl rfl ?_
    refine we_iconst (v := 0) (p := 45) dX12_handLine_44 (by decide) rfl ?_
    refine we_bipush (v := 60) (p := 47) dX12_handLine_45 (by decide) rfl ?_
    refine we_callV_int (p := 50) (k' := 5) (a := [.ref 95, .ref (sp_S + 23), .int 0, .int 60]) (rr := [.int (nI (87 + 2 * row)), .ref 99]) dX12_handLine_47 rfl rfl rfl rfl (rc_of rfl rfl (by decide) ⟨rfl, by decide⟩) (Nat.le_of_ble_eq_true rfl) (Nat.le_of_ble_eq_true rfl) (by decide) (y_after_f hF ((hl.nl f1 z1 g1)).2.2.1) (Or.inl rfl) rfl ?_
    refine wf_iast (n := 276) (i := (87 + 2 * row)) (p := 51) dX12_handLine_50 rfl (by decide) (in_nJ (by omega) (by decide)) (nI_cl (by omega)) rfl ?_
    refine we_aload_n (p := 52) dX12_handLine_51 rfl rfl ?_
    refine we_getR (c := 11) (j := 16) (n := 37) (b := 99) (p := 55) dX12_handLine_52 rfl rfl (by decide) (by decide) rfl (r_95_16 hF) rfl ?_
    refine we_iload_n (p := 56) dX12_handLine_55 rfl rfl ?_
    refine we_iconst (v := 1) (p := 57) dX12_handLine_56 (by decide) rfl ?_
    refine we_iadd (p := 58) dX12_handLine_57 rfl ?_
    rw [show (nI (87 + 2 * row) + 1 : Int32) = nI (87 + 2 * row + 1) from nI_add (a := 87 + 2 * row) (b := 1)]
    refine we_aload_n (p := 59) dX12_handLine_58 rfl rfl ?_
    refine we_ldcwS (j := 24) (p := 62) dX12_handLine_59 rfl rfl rfl ?_
    refine we_iconst (v := 1) (p := 63) dX12_handLine_62 (by decide) rfl ?_
    refine we_bipush (v := 9) (p := 65) dX12_handLine_63 (by decide) rfl ?_
    refine we_callV_int (p := 68) (k' := 5) (a := [.ref 95, .ref (sp_S + 24), .int 1, .int 9]) (rr := [.int (nI (87 + 2 * row + 1)), .ref 99]) dX12_handLine_65 rfl rfl rfl rfl (rc_of rfl rfl (by decide) ⟨rfl, by decide⟩) (Nat.le_of_ble_eq_true rfl) (Nat.le_of_ble_eq_true rfl) (by decide) (y_after_f hF (((hl.nl f1 z1 g1).u)).2.2.1) (Or.inl rfl) rfl ?_
    refine wf_iast (n := 276) (i := (87 + 2 * row + 1)) (p := 69) dX12_handLine_68 rfl (by decide) (in_nJ (by omega) (by decide)) (nI_cl (by omega)) rfl ?_
    refine we_aload_n (p := 70) dX12_handLine_69 rfl rfl ?_
    refine wf_getI (c := 11) (j := 13) (n := 37) (v := 1) (p := 73) dX12_handLine_70 rfl rfl (by decide) (by decide) (Or.inr rfl) ((((hl.nl f1 z1 g1).u).u)).2.2.1 rfl ?_
    refine we_if_ne (t := 87) (p := 76) dX12_handLine_73 (by decide) rfl rfl (fun hc73 => ?_) (fun hc73 => absurd hc73 (by decide))
    exact wv_ret dX12_handLine_87 rfl (RmL.no (X := (pNw T n 5 row S)) ((congrArg (fun z => pB z (pIn 5)) (show pHan T n row S = (pNw T n 5 row S) from by
      unfold pHan
      first | (rw [pB_n (S := (pNw T n 5 row S)) z1]; done) | (rw [pB_n (S := (pNw T n 5 row S)) z1]; rfl))).trans (pB_n (S := (pNw T n 5 row S)) z1)) (((hl.nl f1 z1 g1).u).u))
set_option maxRecDepth 10000 in
theorem y_nearlyLine {I : Nat → Nat → Int32} {J : Nat → Nat → Int64} {F : Nat → Nat → Option Nat} {nc ns : Nat} {T : Nat → Nat} {n : Nat} {S : pZ} (hF : RFok F) {row : Nat} (hl : lM T n S I I 6 row []) (hrow : row < 4) : Ew 6 mX12_nearlyLine 0 [.ref 95, .null] [] ((SH, nc, ns), I, J, F) (RmL nc ns T n I J F (pB (pNea T n row S) (pIn 6))) := by
  refine we_aload_n (p := 1) dX12_nearlyLine_0 rfl rfl ?_
  refine wf_getI (c := 11) (j := 13) (n := 37) (v := 0) (p := 4) dX12_nearlyLine_1 rfl rfl (by decide) (by decide) (Or.inr rfl) hl.2.2.1.2.2.2.1 rfl ?_
  refine we_if_eq (t := 8) (p := 7) dX12_nearlyLine_4 (by decide) rfl rfl (fun hc4 => ?_) (fun hc4 => absurd (by decide) hc4)
  refine we_bipush (v := 97) (p := 10) dX12_nearlyLine_8 (by decide) rfl ?_
  refine we_iconst (v := 2) (p := 11) dX12_nearlyLine_10 (by decide) rfl ?_
  refine we_aload_n (p := 12) dX12_nearlyLine_11 rfl rfl ?_
  refine we_getR (c := 11) (j := 16) (n := 37) (b := 99) (p := 15) dX12_nearlyLine_12 rfl rfl (by decide) (by decide) rfl (r_95_16 hF) rfl ?_
  refine we_bipush (v := 8) (p := 17) dX12_nearlyLine_15 (by decide) rfl ?_
  refine wf_iald (n := 276) (i := 8) (v := nI row) (p := 18) dX12_nearlyLine_17 rfl (by decide) (by decide) (by decide) (hl.cnt (by decide)) rfl ?_
  refine we_imul (p := 19) dX12_nearlyLine_18 rfl ?_
  refine we_iadd (p := 20) dX12_nearlyLine_19 rfl ?_
  rw [show (97 + 2 * nI row : Int32) = nI (97 + 2 * row) from ixm (a := 97) (b := 2)]
  refine we_istore_n (ls1 := [.ref 95, .int (nI (97 + 2 * row))]) (p := 21) dX12_nearlyLine_20 rfl rfl ?_
  refine we_aload_n (p := 22) dX12_nearlyLine_21 rfl rfl ?_
  refine we_getR (c := 11) (j := 16) (n := 37) (b := 99) (p := 25) dX12_nearlyLine_22 rfl rfl (by decide) (by decide) rfl (r_95_16 hF) rfl ?_
  refine we_iload_n (p := 26) dX12_nearlyLine_25 rfl rfl ?_
  refine we_aload_n (p := 27) dX12_nearlyLine_26 rfl rfl ?_
  refine we_ldcwS (j := 25) (p := 30) dX12_nearlyLine_27 rfl rfl rfl ?_
  refine we_iconst (v := 0) (p := 31) dX12_nearlyLine_30 (by decide) rfl ?_
  refine we_bipush (v := 8) (p := 33) dX12_nearlyLine_31 (by decide) rfl ?_
  obtain ⟨_, _, e1, I1, rfl, f1, ⟨z1, rfl, t1⟩ | ⟨z1, rfl, g1⟩⟩ := y_afterW (S := S) (j := 25) (w := 23) (lo := 0) (hi := 8) rfl hF hl.2.2.1 hl.2.1 (by decide) (by decide) (by decide) (by decide)
  · skip
    refine we_callV_int (p := 36) (k' := 5) (a := [.ref 95, .ref (sp_S + 25), .int 0, .int 8]) (rr := [.int (nI (97 + 2 * row)), .ref 99]) dX12_nearlyLine_33 rfl rfl rfl rfl (rc_of rfl rfl (by decide) ⟨rfl, by decide⟩) (Nat.le_of_ble_eq_true rfl) (Nat.le_of_ble_eq_true rfl) (by decide) e1 (Or.inl rfl) rfl ?_
    refine wf_iast (n := 276) (i := (97 + 2 * row)) (p := 37) dX12_nearlyLine_36 rfl (by decide) (in_nJ (by omega) (by decide)) (nI_cl (by omega)) rfl ?_
    refine we_aload_n (p := 38) dX12_nearlyLine_37 rfl rfl ?_
    refine we_getR (c := 11) (j := 16) (n := 37) (b := 99) (p := 41) dX12_nearlyLine_38 rfl rfl (by decide) (by decide) rfl (r_95_16 hF) rfl ?_
    refine we_iload_n (p := 42) dX12_nearlyLine_41 rfl rfl ?_
    refine we_iconst (v := 1) (p := 43) dX12_nearlyLine_42 (by decide) rfl ?_
    refine we_iadd (p := 44) dX12_nearlyLine_43 rfl ?_
    rw [show (nI (97 + 2 * row) + 1 : Int32) = nI (97 + 2 * row + 1) from nI_add (a := 97 + 2 * row) (b := 1)]
    refine we_aload_n (p := 45) dX12_nearlyLine_44 rfl rfl ?_
    refine we_ldcwS (j := 26) (p := 48) dX12_nearlyLine_45 rfl rfl rfl ?_
    refine we_bipush (v := 16) (p := 50) dX12_nearlyLine_48 (by decide) rfl ?_
    refine we_bipush (v := 40) (p := 52) dX12_nearlyLine_50 (by decide) rfl ?_
    obtain ⟨_, _, e2, I2, rfl, f2, ⟨z2, rfl, t2⟩ | ⟨z2, rfl, g2⟩⟩ := y_afterW (S := (pSt 16 row (nI (zV (pTk T n 23 0 8 S))) (pTk T n 23 0 8 S))) (j := 26) (w := 24) (lo := 16) (hi := 40) rfl hF ((lM.tk (S := S) hl f1 z1 t1).sr (j := 16) (v := nI (zV (pTk T n 23 0 8 S))) (by decide) (by decide) (show row < 4 by omega) (by intro x hx; simp at hx)).2.2.1 ((lM.tk (S := S) hl f1 z1 t1).sr (j := 16) (v := nI (zV (pTk T n 23 0 8 S))) (by decide) (by decide) (show row < 4 by omega) (by intro x hx; simp at hx)).2.1 (by decide) (by decide) (by decide) (by decide)
    · skip
      refine we_callV_int (p := 55) (k' := 5) (a := [.ref 95, .ref (sp_S + 26), .int 16, .int 40]) (rr := [.int (nI (97 + 2 * row + 1)), .ref 99]) dX12_nearlyLine_52 rfl rfl rfl rfl (rc_of rfl rfl (by decide) ⟨rfl, by decide⟩) (Nat.le_of_ble_eq_true rfl) (Nat.le_of_ble_eq_true rfl) (by decide) e2 (Or.inl rfl) rfl ?_
      refine wf_iast (n := 276) (i := (97 + 2 * row + 1)) (p := 56) dX12_nearlyLine_55 rfl (by decide) (in_nJ (by omega) (by decide)) (nI_cl (by omega)) rfl ?_
      refine we_aload_n (p := 57) dX12_nearlyLine_56 rfl rfl ?_
      refine wf_getI (c := 11) (j := 13) (n := 37) (v := 0) (p := 60) dX12_nearlyLine_57 rfl rfl (by decide) (by decide) (Or.inr rfl) ((lM.tk (S := (pSt 16 row (nI (zV (pTk T n 23 0 8 S))) (pTk T n 23 0 8 S))) ((lM.tk (S := S) hl f1 z1 t1).sr (j := 16) (v := nI (zV (pTk T n 23 0 8 S))) (by decide) (by decide) (show row < 4 by omega) (by intro x hx; simp at hx)) f2 z2 t2).sr (j := 17) (v := nI (zV (pTk T n 24 16 40 (pSt 16 row (nI (zV (pTk T n 23 0 8 S))) (pTk T n 23 0 8 S))))) (by decide) (by decide) (show row < 4 by omega) (by intro x hx; simp at hx; subst hx; exact ⟨by decide, by decide, (show row < 4 by omega)⟩)).2.2.1.2.2.2.1 rfl ?_
      refine we_if_ne (t := 74) (p := 63) dX12_nearlyLine_60 (by decide) rfl rfl (fun hc60 => absurd (by decide) hc60) (fun hc60 => ?_)
      refine we_aload_n (p := 64) dX12_nearlyLine_63 rfl rfl ?_
      refine we_getR (c := 11) (j := 16) (n := 37) (b := 99) (p := 67) dX12_nearlyLine_64 rfl rfl (by decide) (by decide) rfl (r_95_16 hF) rfl ?_
      refine we_bipush (v := 8) (p := 69) dX12_nearlyLine_67 (by decide) rfl ?_
      refine we_dup2 (p := 70) dX12_nearlyLine_69 rfl ?_
      refine wf_iald (n := 276) (i := 8) (v := nI row) (p := 71) dX12_nearlyLine_70 rfl (by decide) (by decide) (by decide) (((lM.tk (S := (pSt 16 row (nI (zV (pTk T n 23 0 8 S))) (pTk T n 23 0 8 S))) ((lM.tk (S := S) hl f1 z1 t1).sr (j := 16) (v := nI (zV (pTk T n 23 0 8 S))) (by decide) (by decide) (show row < 4 by omega) (by intro x hx; simp at hx)) f2 z2 t2).sr (j := 17) (v := nI (zV (pTk T n 24 16 40 (pSt 16 row (nI (zV (pTk T n 23 0 8 S))) (pTk T n 23 0 8 S))))) (by decide) (by decide) (show row < 4 by omega) (by intro x hx; simp at hx; subst hx; exact ⟨by decide, by decide, (show row < 4 by omega)⟩)).cnt (by decide)) rfl ?_
      refine we_iconst (v := 1) (p := 72) dX12_nearlyLine_71 (by decide) rfl ?_
      refine we_iadd (p := 73) dX12_nearlyLine_72 rfl ?_
      rw [nI_1]
      refine wf_iast (n := 276) (i := 8) (p := 74) dX12_nearlyLine_73 rfl (by decide) (by decide) (by decide) rfl ?_
      exact wv_ret dX12_nearlyLine_74 rfl (RmL.ok (S := (pSt 17 row (nI (zV (pTk T n 24 16 40 (pSt 16 row (nI (zV (pTk T n 23 0 8 S))) (pTk T n 23 0 8 S))))) (pTk T n 24 16 40 (pSt 16 row (nI (zV (pTk T n 23 0 8 S))) (pTk T n 23 0 8 S))))) ((congrArg (fun z => pB z (pIn 6)) (show pNea T n row S = (pSt 17 row (nI (zV (pTk T n 24 16 40 (pSt 16 row (nI (zV (pTk T n 23 0 8 S))) (pTk T n 23 0 8 S))))) (pTk T n 24 16 40 (pSt 16 row (nI (zV (pTk T n 23 0 8 S))) (pTk T n 23 0 8 S)))) from by
      unfold pNea
      first | (rw [pB_y (S := (pTk T n 23 0 8 S)) z1, pB_y (S := (pTk T n 24 16 40 (pSt 16 row (nI (zV (pTk T n 23 0 8 S))) (pTk T n 23 0 8 S)))) z2]; done) | (rw [pB_y (S := (pTk T n 23 0 8 S)) z1, pB_y (S := (pTk T n 24 16 40 (pSt 16 row (nI (zV (pTk T n 23 0 8 S))) (pTk T n 23 0 8 S)))) z2]; rfl))).trans (pB_y ((lM.tk (S := (pSt 16 row (nI (zV (pTk T n 23 0 8 S))) (pTk T n 23 0 8 S))) ((lM.tk (S := S) hl f1 z1 t1).sr (j := 16) (v := nI (zV (pTk T n 23 0 8 S))) (by decide) (by decide) (show row < 4 by omega) (by intro x hx; simp at hx)) f2 z2 t2).sr (j := 17) (v := nI (zV (pTk T n 24 16 40 (pSt 16 row (nI (zV (pTk T n 23 0 8 S))) (pTk T n 23 0 8 S))))) (by decide) (by decide) (show row < 4 by omega) (by intro x hx; simp at hx; subst hx; exact ⟨by decide, by decide, (show row < 4 by omega)⟩)).2.1)) ((lM.tk (S := (pSt 16 row (nI (zV (pTk T n 23 0 8 S))) (pTk T n 23 0 8 S))) ((lM.tk (S := S) hl f1 z1 t1).sr (j := 16) (v := nI (zV (pTk T n 23 0 8 S))) (by decide) (by decide) (show row < 4 by omega) (by intro x hx; simp at hx)) f2 z2 t2).sr (j := 17) (v := nI (zV (pTk T n 24 16 40 (pSt 16 row (nI (zV (pTk T n 23 0 8 S))) (pTk T n 23 0 8 S))))) (by decide) (by decide) (show row < 4 by omega) (by intro x hx; simp at hx; subst hx; exact ⟨by decide, by decide, (show row < 4 by omega)⟩)) (by decide) (show row < 4 by omega) (by decide) rfl)
    · skip
      refine we_callV_int (p := 55) (k' := 5) (a := [.ref 95, .ref (sp_S + 26), .int 16, .int 40]) (rr := [.int (nI (97 + 2 * row + 1)), .ref 99]) dX12_nearlyLine_52 rfl rfl rfl rfl (rc_of rfl rfl (by decide) ⟨rfl, by decide⟩) (Nat.le_of_ble_eq_true rfl) (Nat.le_of_ble_eq_true rfl) (by decide) e2 (Or.inl rfl) rfl ?_
      refine wf_iast (n := 276) (i := (97 + 2 * row + 1)) (p := 56) dX12_nearlyLine_55 rfl (by decide) (in_nJ (by omega) (by decide)) (nI_cl (by omega)) rfl ?_
      refine we_aload_n (p := 57) dX12_nearlyLine_56 rfl rfl ?_
      refine wf_getI (c := 11) (j := 13) (n := 37) (v := 1) (p := 60) dX12_nearlyLine_57 rfl rfl (by decide) (by decide) (Or.inr rfl) (((((lM.tk (S := S) hl f1 z1 t1).sr (j := 16) (v := nI (zV (pTk T n 23 0 8 S))) (by decide) (by decide) (show row < 4 by omega) (by intro x hx; simp at hx)).no f2 z2 g2).u)).2.2.1 rfl ?_
      refine we_if_ne (t := 74) (p := 63) dX12_nearlyLine_60 (by decide) rfl rfl (fun hc60 => ?_) (fun hc60 => absurd hc60 (by decide))
      exact wv_ret dX12_nearlyLine_74 rfl (RmL.no (X := (pTk T n 24 16 40 (pSt 16 row (nI (zV (pTk T n 23 0 8 S))) (pTk T n 23 0 8 S)))) ((congrArg (fun z => pB z (pIn 6)) (show pNea T n row S = (pTk T n 24 16 40 (pSt 16 row (nI (zV (pTk T n 23 0 8 S))) (pTk T n 23 0 8 S))) from by
      unfold pNea
      first | (rw [pB_y (S := (pTk T n 23 0 8 S)) z1, pB_n (S := (pTk T n 24 16 40 (pSt 16 row (nI (zV (pTk T n 23 0 8 S))) (pTk T n 23 0 8 S)))) z2]; done) | (rw [pB_y (S := (pTk T n 23 0 8 S)) z1, pB_n (S := (pTk T n 24 16 40 (pSt 16 row (nI (zV (pTk T n 23 0 8 S))) (pTk T n 23 0 8 S)))) z2]; rfl))).trans (pB_n (S := (pTk T n 24 16 40 (pSt 16 row (nI (zV (pTk T n 23 0 8 S))) (pTk T n 23 0 8 S)))) z2)) ((((lM.tk (S := S) hl f1 z1 t1).sr (j := 16) (v := nI (zV (pTk T n 23 0 8 S))) (by decide) (by decide) (show row < 4 by omega) (by intro x hx; simp at hx)).no f2 z2 g2).u))
  · skip
    refine we_callV_int (p := 36) (k' := 5) (a := [.ref 95, .ref (sp_S + 25), .int 0, .int 8]) (rr := [.int (nI (97 + 2 * row)), .ref 99]) dX12_nearlyLine_33 rfl rfl rfl rfl (rc_of rfl rfl (by decide) ⟨rfl, by decide⟩) (Nat.le_of_ble_eq_true rfl) (Nat.le_of_ble_eq_true rfl) (by decide) e1 (Or.inl rfl) rfl ?_
    refine wf_iast (n := 276) (i := (97 + 2 * row)) (p := 37) dX12_nearlyLine_36 rfl (by decide) (in_nJ (by omega) (by decide)) (nI_cl (by omega)) rfl ?_
    refine we_aload_n (p := 38) dX12_nearlyLine_37 rfl rfl ?_
    refine we_getR (c := 11) (j := 16) (n := 37) (b := 99) (p := 41) dX12_nearlyLine_38 rfl rfl (by decide) (by decide) rfl (r_95_16 hF) rfl ?_
    refine we_iload_n (p := 42) dX12_nearlyLine_41 rfl rfl ?_
    refine we_iconst (v := 1) (p := 43) dX12_nearlyLine_42 (by decide) rfl ?_
    refine we_iadd (p := 44) dX12_nearlyLine_43 rfl ?_
    rw [show (nI (97 + 2 * row) + 1 : Int32) = nI (97 + 2 * row + 1) from nI_add (a := 97 + 2 * row) (b := 1)]
    refine we_aload_n (p := 45) dX12_nearlyLine_44 rfl rfl ?_
    refine we_ldcwS (j := 26) (p := 48) dX12_nearlyLine_45 rfl rfl rfl ?_
    refine we_bipush (v := 16) (p := 50) dX12_nearlyLine_48 (by decide) rfl ?_
    refine we_bipush (v := 40) (p := 52) dX12_nearlyLine_50 (by decide) rfl ?_
    refine we_callV_int (p := 55) (k' := 5) (a := [.ref 95, .ref (sp_S + 26), .int 16, .int 40]) (rr := [.int (nI (97 + 2 * row + 1)), .ref 99]) dX12_nearlyLine_52 rfl rfl rfl rfl (rc_of rfl rfl (by decide) ⟨rfl, by decide⟩) (Nat.le_of_ble_eq_true rfl) (Nat.le_of_ble_eq_true rfl) (by decide) (y_after_f hF (((hl.no f1 z1 g1).u)).2.2.1) (Or.inl rfl) rfl ?_
    refine wf_iast (n := 276) (i := (97 + 2 * row + 1)) (p := 56) dX12_nearlyLine_55 rfl (by decide) (in_nJ (by omega) (by decide)) (nI_cl (by omega)) rfl ?_
    refine we_aload_n (p := 57) dX12_nearlyLine_56 rfl rfl ?_
    refine wf_getI (c := 11) (j := 13) (n := 37) (v := 1) (p := 60) dX12_nearlyLine_57 rfl rfl (by decide) (by decide) (Or.inr rfl) ((((hl.no f1 z1 g1).u).u)).2.2.1 rfl ?_
    refine we_if_ne (t := 74) (p := 63) dX12_nearlyLine_60 (by decide) rfl rfl (fun hc60 => ?_) (fun hc60 => absurd hc60 (by decide))
    exact wv_ret dX12_nearlyLine_74 rfl (RmL.no (X := (pTk T n 23 0 8 S)) ((congrArg (fun z => pB z (pIn 6)) (show pNea T n row S = (pTk T n 23 0 8 S) from by
      unfold pNea
      first | (rw [pB_n (S := (pTk T n 23 0 8 S)) z1]; done) | (rw [pB_n (S := (pTk T n 23 0 8 S)) z1]; rfl))).trans (pB_n (S := (pTk T n 23 0 8 S)) z1)) (((hl.no f1 z1 g1).u).u))
